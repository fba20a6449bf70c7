/-! The law's helpers -/
def lw_g : List Cond := lw_tbl.filter goodWord
theorem lw_gm {w hd : Cond} (k : Nat) (h : lw_tbl[k]? = some w) (g : goodWord w = true) : w ∈ hd :: lw_g := List.mem_cons_of_mem _ (List.mem_filter.mpr ⟨List.mem_of_getElem? h, g⟩)
theorem lw_gi {hd : Cond} {ws : List Cond} (h : GoodIn lw_tbl ws) : GoodIn (hd :: lw_g) ws := fun w hw => ⟨List.mem_cons_of_mem _ (List.mem_filter.mpr ⟨(h w hw).1, gd_of (h w hw).2⟩), (h w hw).2⟩
theorem lw_gx {i : xI} (k : Nat) (h : lw_tbl[k]? = some (Cond.code i.1 i.2.1 i.2.2.1 i.2.2.2.1)) : GoodIn lw_tbl (x_ws i) := fun w hw => by
  rcases List.mem_cons.mp hw with rfl | hw
  · exact ⟨List.mem_of_getElem? h, good_of_word rfl⟩
  · exact x_words_in w hw
abbrev xo (ad : Nat → Nat) (cI cZ : ClassId) (σ : xS) (qo : Nat) (cJ : ClassId) (f : Nat → Int64) : va_W := x_w ad cI cZ x_sh σ ++ [(qo, .inl (cJ, 1, .inr (.inl f)))]
abbrev hl_rm : Room := { frames := 10, cells := 1, slots := 6, locals := 270 }
abbrev hl_A (A : Nat → Prop) (qo : Nat) : Nat → Prop := fun q => A q ∨ q = qo
def hl_P (D : va_G) (tys : List (ClassId × FieldType)) (A : Nat → Prop) (ad adV : Nat → Nat) (cI cZ : ClassId) (qo : Nat) (cJ : ClassId) (av : List Value) (σ : xS) (f : Nat → Int64) : Array Value → State → Prop := va_Pc av (fun U => va_P D x_cl (xo ad cI cZ σ qo cJ f) U.heap ∧ va_K D x_cl tys U ∧ NW9 A ad adV U)
def hl_Q (D : va_G) (A : Nat → Prop) (ad : Nat → Nat) (cI cZ : ClassId) (qo : Nat) (cJ : ClassId) (k : Int32) (σ : xS) (f : Nat → Int64) : Array Value → State → Outcome → State → Prop := fun _ st o t => o = .returned (some (.int k)) ∧ va_P D x_cl (xo ad cI cZ σ qo cJ f) t.heap ∧ va_F (hl_A A qo) st t
section HLP
variable {p : Program} {l : Launch} {e : Env} {R : Room} {s : State} {m : MethodId} {args : Array Value} {below : List Frame} {meth : Method} {c : Code} {Q : State → Prop} {H H0 : Heap} {locs : List Loc} {cells slots : Nat}
variable {D : va_G} {A A0 : Nat → Prop} {ad adV : Nat → Nat} {cI cZ cJ : ClassId} {qo : Nat} {σ : xS} {f : Nat → Int64}
theorem xo_l (h : va_P D x_cl (xo ad cI cZ σ qo cJ f) H) : va_P D x_cl (x_w ad cI cZ x_sh σ) H := fun k q hk => h k q (by rw [List.getElem?_append_left (List.getElem?_eq_some_iff.mp hk).1]; exact hk)
theorem xo_r (h : va_P D x_cl (xo ad cI cZ σ qo cJ f) H) : va_P D x_cl [(qo, .inl (cJ, 1, .inr (.inl f)))] H := h.sub [27] rfl
theorem xo_lt (h : va_P D x_cl (xo ad cI cZ σ qo cJ f) H) : qo < H.size := (xo_r h 0 _ rfl).lt
theorem xo_D (hD : ∀ σ : xS, va_D A (x_w ad cI cZ x_sh σ)) (hq : ¬ A qo) : va_D (hl_A A qo) (xo ad cI cZ σ qo cJ f) := by
  refine va_D.app ((hD σ).weaken (fun _ _ _ h => Or.inl h)) ⟨fun i j p q hi hj _ => ?_, fun k q hk => ?_⟩ (fun i j p q hi hj e => ?_)
  · have h1 : i < 1 := (List.getElem?_eq_some_iff.mp hi).1
    have h2 : j < 1 := (List.getElem?_eq_some_iff.mp hj).1
    omega
  · have h1 : k < 1 := (List.getElem?_eq_some_iff.mp hk).1
    rw [show k = 0 by omega] at hk
    cases hk
    exact Or.inr rfl
  · have h2 : j < 1 := (List.getElem?_eq_some_iff.mp hj).1
    rw [show j = 0 by omega] at hj
    cases hj
    have e : p.1 = qo := e
    exact hq (by rw [← e]; exact (hD σ).2 i p hi)
theorem xo_new {σ' : xS} {H1 : Heap} (h : va_P D x_cl (xo ad cI cZ σ qo cJ f) H) (h1 : va_P D x_cl (x_w ad cI cZ x_sh σ') H1) (hq : ¬ A qo) (hk : ∀ q : Nat, q < H.size → ¬ A q → H1[q]? = H[q]?) : va_P D x_cl (xo ad cI cZ σ' qo cJ f) H1 :=
  h1.app ((xo_r h).kept (fun k x hx => by
    have h1 : k < 1 := (List.getElem?_eq_some_iff.mp hx).1
    rw [show k = 0 by omega] at hx
    cases hx
    exact hk qo (xo_lt h) hq))
theorem x_callO {pc : Nat} {ls : Array Slot} {st0 rest : List Value} {v : Bool} {r1 : xR} {a : Array Value} (hr : va_Run p l e R s m args below meth c H locs cells slots 0 0 (F0 m pc ls st0) rest (x_Qc D x_cl A ad cI cZ x_sh v r1 a) A) (hP : va_P D x_cl (xo ad cI cZ σ qo cJ f) H) (hq : ¬ A qo) (hS : va_S A0 H0 H locs) (hA : ∀ q, A q → A0 q)
    (kk : ∀ (H1 : Heap) (locs1 : List Loc), va_P D x_cl (xo ad cI cZ r1.2 qo cJ f) H1 → va_S A0 H0 H1 locs1 → W p l e R s m args below meth c H1 locs1 cells slots Q (F0 m (pc + 3) ls (x_rs v r1.1 rest))) : W p l e R s m args below meth c H locs cells slots Q (F0 m pc ls st0) := by
  intro T hT X
  obtain ⟨v', st₀, t, T', L, h0, X', hL, e1, e2, ⟨hv, hP1, hz, hk⟩, st⟩ := hr T hT X
  rw [h0] at hz hk
  cases hv
  obtain ⟨t2, a1, b1⟩ := kk T'.heap (locs ++ L) (by rw [e1]; exact xo_new hP hP1 hq hk) ⟨Nat.le_trans hS.1 (by rw [e1]; exact hz), fun q h1 h2 => by rw [e1, hk q (Nat.lt_of_lt_of_le h1 hS.1) (fun z => h2 (hA q z))]; exact hS.2.1 q h1 h2, fun q hq => by
      rcases List.mem_append.mp hq with h | h
      · exact hS.2.2 q h
      · exact hA _ (hL q h)⟩ T' rfl X'
  refine ⟨t2, st t2 ?_, b1⟩
  cases v <;> exact a1
end HLP
def wl_key : List Cond := .codeWith yL_key method_3_code 4 (some .int) [(0, 9, 12, 13), (0, 9, 15, 15)] :: lw_g
set_option maxHeartbeats 4000000 in
set_option maxRecDepth 100000 in
theorem hl_key {l : Launch} {D : va_G} {tys : List (ClassId × FieldType)} {A : Nat → Prop} {ad adV : Nat → Nat} {cI cZ cJ : ClassId} (hD : ∀ σ : xS, va_D A (x_w ad cI cZ x_sh σ)) {t1 t2 t3 : Nat} (ht1 : tys[t1]? = some (cI, .int)) (ht2 : tys[t2]? = some (cZ, .boolean)) (ht3 : tys[t3]? = some (cJ, .long)) {qo : Nat} (hq : ¬ A qo) {σ : xS} {f : Nat → Int64} {v1 r : Int32} {σ' : xS} {d : Nat} (hx9 : x_M d 4 [.ref 0, .int v1] σ = some (r, σ')) : Met l yL_key wl_key hl_rm (hl_P D tys A ad adV cI cZ qo cJ [.ref (ad 0), .int v1, .ref qo] σ f) (hl_Q D A ad cI cZ qo cJ 0 σ' (vp_updL f 0 (r.toInt64))) 1 6 (hl_A A qo) := by
  refine met_of_vx (vx_ofWH (cc := method_3_code) (maxL := 4) (ret := some .int) (hh := [(0, 9, 12, 13), (0, 9, 15, 15)]) (by decide) rfl ?_)
  intro p e s m args below meth c s₁ B hml hv
  obtain ⟨rfl, hP, hK, hN⟩ := hv
  have hx := B.exec
  have hb := B.bytes
  have hr := B.returns
  have hts := atoms_spec (ws := wl_key) B.pre
  have hown : s.vm.findClass "DeskMachineLaw" = some m.cls := findClass_of_methodNamed B.named
  have hlocks := B.notSynchronized
  have hS : va_S (hl_A A qo) s.heap s.heap [] := va_S.rf
  have hl := lv_entry ([.ref (ad 0), .int v1, .ref qo]) (n := 4) (Nat.le_of_ble_eq_true rfl)
  rw [lg_entry_eq]
  generalize (lg_sl ([.ref (ad 0), .int v1, .ref qo]) ++ List.replicate (4 - (lg_sl ([.ref (ad 0), .int v1, .ref qo])).length) Slot.unset).toArray = ls at hl ⊢
  have hl : lv_has ls 4 [(0, .ref (ad 0)), (1, .int v1), (2, .ref qo)] := hl
  refine lv_aload_n hx hb (show decode method_3_code 0 = .ok (.aload_n 2, 1) by decide +kernel) rfl (lv_at hl 2 rfl) ?_
  refine lv_iconst (v := 0) hx hb (show decode method_3_code 1 = .ok (.iconst 0, 1) by decide +kernel) (by decide) ?_
  refine lv_aload_n hx hb (show decode method_3_code 2 = .ok (.aload_n 0, 1) by decide +kernel) rfl (lv_at hl 0 rfl) ?_
  refine lv_iload_n hx hb (show decode method_3_code 3 = .ok (.iload_n 1, 1) by decide +kernel) rfl (lv_at hl 1 rfl) ?_
  have hM9 : Met l x_i4.1 (x_ws x_i4) (x_rmo x_i4) (x_Pc D x_cl tys ad cI cZ x_sh (NW9 A ad adV) [.ref 0, .int v1] σ) (x_Qc D x_cl A ad cI cZ x_sh false (r, σ')) 0 0 A := x_M_ok hD ht1 ht2 d 4 _ _ _ hx9
  refine x_callO (va_runV (As := [.int v1]) (rest := [.int 0, .ref qo]) (C := "DeskMachine") (b := ad 0) ⟨hx, hb, hml, hown, hts⟩ hM9 ⟨callB_of 1 hts (lw_gi (lw_gx 349 (by decide +kernel))) rfl rfl rfl (hts (.initialized "DeskMachine") (lw_gm 112 (by decide +kernel) rfl)) (hts (.methodLink "DeskMachineLaw" 7 x_i4.1) (lw_gm 346 (by decide +kernel) rfl)) (by decide +kernel) ⟨Nat.le_of_ble_eq_true rfl, Nat.le_of_ble_eq_true rfl⟩, (hts (.instanceMethod x_i4.1) (lw_gm 347 (by decide +kernel) rfl)), (hts (.selects "DeskMachine" x_i4.1 x_i4.1) (lw_gm 348 (by decide +kernel) rfl))⟩ ⟨x_Pc_blind NW9_mv, va_recv hK (xo_l hP) (q0 := 0) rfl rfl, fun U hU hW => ⟨rfl, by rw [hU]; exact xo_l hP, va_K.moved hW.alike hK, NW9_mv s U hN hW (fun z _ _ => by rw [hU])⟩⟩ rfl rfl hl.1 rfl (Nat.le_of_ble_eq_true rfl) (show decode method_3_code 4 = .ok (.invokevirtual 7, 3) by decide +kernel) ⟨Nat.le_of_ble_eq_true rfl, Nat.le_of_ble_eq_true rfl⟩) hP hq hS (fun q h => Or.inl h) (fun H locs hP hS => ?_)
  refine W.eq (g2 := F0 m 7 ls [.int r, .int 0, .ref qo]) rfl ?_
  refine lv_i2l (v := r.toInt64) hx hb (show decode method_3_code 7 = .ok (.i2l, 1) by decide +kernel) rfl ?_
  refine va_last (x := r.toInt64) hx hb hK hP (xo_D hD hq) hS 27 t3 rfl ht3 (vp_in_nI (n := 0) (N := 1) (by decide) (by decide)) (show decode method_3_code 8 = .ok (.lastore, 1) by decide +kernel) (fun H locs hP hDx hS => ?_)
  have hP : va_P D x_cl (xo ad cI cZ σ' qo cJ (vp_updL f 0 r.toInt64)) H := hP
  refine lv_goto (tgt := 18) hx hb (show decode method_3_code 9 = .ok (.goto 9, 3) by decide +kernel) (by decide) ?_
  refine lv_iconst (v := 0) hx hb (show decode method_3_code 18 = .ok (.iconst 0, 1) by decide +kernel) (by decide) ?_
  refine W.widen (k := 1) (n := 6) (by decide) (by decide) ?_
  exact vx_ret (W.iret hx hb hr (fun t ht hW => ⟨rfl, by rw [ht]; exact hP, hS.F ht⟩) hS.2.2 (show decode method_3_code 19 = .ok (.ireturn, 1) by decide +kernel))
set_option maxHeartbeats 4000000 in
set_option maxRecDepth 100000 in
theorem hl_key_t1 {l : Launch} {D : va_G} {tys : List (ClassId × FieldType)} {A : Nat → Prop} {ad adV : Nat → Nat} {cI cZ cJ : ClassId} (hD : ∀ σ : xS, va_D A (x_w ad cI cZ x_sh σ)) {t1 t2 t3 : Nat} (ht1 : tys[t1]? = some (cI, .int)) (ht2 : tys[t2]? = some (cZ, .boolean)) (ht3 : tys[t3]? = some (cJ, .long)) {qo : Nat} (hq : ¬ A qo) {σ : xS} {f : Nat → Int64} {v1 : Int32} (hv9 : vx_Met l x_i4.1 (x_ws x_i4) th_rm (x_Pc D x_cl tys ad cI cZ x_sh (NW9 A ad adV) [.ref 0, .int v1] σ) (th_Qc A) (th_XC D A ad cI cZ σ nIAE) 1 6 A) : Met l yL_key wl_key hl_rm (hl_P D tys A ad adV cI cZ qo cJ [.ref (ad 0), .int v1, .ref qo] σ f) (hl_Q D A ad cI cZ qo cJ 1 σ f) 1 6 (hl_A A qo) := by
  refine met_of_vx (vx_ofWH (cc := method_3_code) (maxL := 4) (ret := some .int) (hh := [(0, 9, 12, 13), (0, 9, 15, 15)]) (by decide) rfl ?_)
  intro p e s m args below meth c s₁ B hml hv
  obtain ⟨rfl, hP, hK, hN⟩ := hv
  have hx := B.exec
  have hb := B.bytes
  have hr := B.returns
  have hts := atoms_spec (ws := wl_key) B.pre
  have hown : s.vm.findClass "DeskMachineLaw" = some m.cls := findClass_of_methodNamed B.named
  have hlocks := B.notSynchronized
  have hS : va_S (hl_A A qo) s.heap s.heap [] := va_S.rf
  have hl := lv_entry ([.ref (ad 0), .int v1, .ref qo]) (n := 4) (Nat.le_of_ble_eq_true rfl)
  rw [lg_entry_eq]
  generalize (lg_sl ([.ref (ad 0), .int v1, .ref qo]) ++ List.replicate (4 - (lg_sl ([.ref (ad 0), .int v1, .ref qo])).length) Slot.unset).toArray = ls at hl ⊢
  have hl : lv_has ls 4 [(0, .ref (ad 0)), (1, .int v1), (2, .ref qo)] := hl
  refine lv_aload_n hx hb (show decode method_3_code 0 = .ok (.aload_n 2, 1) by decide +kernel) rfl (lv_at hl 2 rfl) ?_
  refine lv_iconst (v := 0) hx hb (show decode method_3_code 1 = .ok (.iconst 0, 1) by decide +kernel) (by decide) ?_
  refine lv_aload_n hx hb (show decode method_3_code 2 = .ok (.aload_n 0, 1) by decide +kernel) rfl (lv_at hl 0 rfl) ?_
  refine lv_iload_n hx hb (show decode method_3_code 3 = .ok (.iload_n 1, 1) by decide +kernel) rfl (lv_at hl 1 rfl) ?_
  have hX : th_X A s := hN.2.2.2.2
  have hw : ∀ w ∈ th_W, w.before [.ref (ad 0), .int v1, .ref qo].toArray s = true := fun w hw => vx_ot_at (State.WarmedH.refl s) rfl (List.all_eq_true.mp (show th_W.all vx_ot = true by decide +kernel) w hw) (hX.1 w hw)
  refine vx_calli (vx_runV (As := [.int v1]) (rest := [.int 0, .ref qo]) (C := "DeskMachine") (b := ad 0) ⟨hx, hb, hml, hown, hts⟩ hv9 ⟨callB_of 1 hts (lw_gi (lw_gx 349 (by decide +kernel))) rfl rfl rfl (hts (.initialized "DeskMachine") (lw_gm 112 (by decide +kernel) rfl)) (hts (.methodLink "DeskMachineLaw" 7 x_i4.1) (lw_gm 346 (by decide +kernel) rfl)) (by decide +kernel) ⟨Nat.le_of_ble_eq_true rfl, Nat.le_of_ble_eq_true rfl⟩, (hts (.instanceMethod x_i4.1) (lw_gm 347 (by decide +kernel) rfl)), (hts (.selects "DeskMachine" x_i4.1 x_i4.1) (lw_gm 348 (by decide +kernel) rfl))⟩ ⟨x_Pc_blind NW9_mv, va_recv hK (xo_l hP) (q0 := 0) rfl rfl, fun U hU hW => ⟨rfl, by rw [hU]; exact xo_l hP, va_K.moved hW.alike hK, NW9_mv s U hN hW (fun z _ _ => by rw [hU])⟩⟩ rfl rfl hl.1 rfl (Nat.le_of_ble_eq_true rfl) (show decode method_3_code 4 = .ok (.invokevirtual 7, 3) by decide +kernel) ⟨Nat.le_of_ble_eq_true rfl, Nat.le_of_ble_eq_true rfl⟩) hS (fun q _ h => Or.inl h) (fun q h => Or.inl h) (fun q _ h => Or.inl h) (fun E ce q9 u t H1 locs1 ht hvm _ hB hsz hk hS hcell hc9 hcl => ?_) (fun r u t H1 locs1 _ _ h9 => False.elim h9)
  obtain ⟨rfl, hP1⟩ := hB
  rw [ht] at hP1
  have hP := xo_new hP hP1 hq hk
  refine vx_catch (name := nIAE) hown [] ⟨0, 9, 12, 13⟩ [⟨0, 9, 15, 15⟩] ((vx_table (x := yL_key) B (hts _ List.mem_cons_self)).trans rfl) (fun z hz => nomatch hz) rfl (by decide) (hw _ (List.mem_append_right _ (List.mem_append_right _ (List.mem_of_getElem? (i := 4) rfl)))) (hw _ (List.mem_append_right _ (List.mem_append_right _ (List.mem_of_getElem? (i := 6) rfl)))) hcell hc9 hcl ?_
  refine lv_astore_n (nL := 4) hx hb (show decode method_3_code 12 = .ok (.astore_n 3, 1) by decide +kernel) rfl hl (by decide) rfl (fun ls hl => ?_)
  refine lv_iconst (v := 1) hx hb (show decode method_3_code 13 = .ok (.iconst 1, 1) by decide +kernel) (by decide) ?_
  exact vx_ret (W.iret hx hb hr (fun t ht hW => ⟨rfl, by rw [ht]; exact hP, hS.F ht⟩) hS.2.2 (show decode method_3_code 14 = .ok (.ireturn, 1) by decide +kernel))
set_option maxHeartbeats 4000000 in
set_option maxRecDepth 100000 in
theorem hl_key_t2 {l : Launch} {D : va_G} {tys : List (ClassId × FieldType)} {A : Nat → Prop} {ad adV : Nat → Nat} {cI cZ cJ : ClassId} (hD : ∀ σ : xS, va_D A (x_w ad cI cZ x_sh σ)) {t1 t2 t3 : Nat} (ht1 : tys[t1]? = some (cI, .int)) (ht2 : tys[t2]? = some (cZ, .boolean)) (ht3 : tys[t3]? = some (cJ, .long)) {qo : Nat} (hq : ¬ A qo) {σ : xS} {f : Nat → Int64} {v1 : Int32} (hv9 : vx_Met l x_i4.1 (x_ws x_i4) th_rm (x_Pc D x_cl tys ad cI cZ x_sh (NW9 A ad adV) [.ref 0, .int v1] σ) (th_Qc A) (th_XC D A ad cI cZ σ nISE) 1 6 A) : Met l yL_key wl_key hl_rm (hl_P D tys A ad adV cI cZ qo cJ [.ref (ad 0), .int v1, .ref qo] σ f) (hl_Q D A ad cI cZ qo cJ 2 σ f) 1 6 (hl_A A qo) := by
  refine met_of_vx (vx_ofWH (cc := method_3_code) (maxL := 4) (ret := some .int) (hh := [(0, 9, 12, 13), (0, 9, 15, 15)]) (by decide) rfl ?_)
  intro p e s m args below meth c s₁ B hml hv
  obtain ⟨rfl, hP, hK, hN⟩ := hv
  have hx := B.exec
  have hb := B.bytes
  have hr := B.returns
  have hts := atoms_spec (ws := wl_key) B.pre
  have hown : s.vm.findClass "DeskMachineLaw" = some m.cls := findClass_of_methodNamed B.named
  have hlocks := B.notSynchronized
  have hS : va_S (hl_A A qo) s.heap s.heap [] := va_S.rf
  have hl := lv_entry ([.ref (ad 0), .int v1, .ref qo]) (n := 4) (Nat.le_of_ble_eq_true rfl)
  rw [lg_entry_eq]
  generalize (lg_sl ([.ref (ad 0), .int v1, .ref qo]) ++ List.replicate (4 - (lg_sl ([.ref (ad 0), .int v1, .ref qo])).length) Slot.unset).toArray = ls at hl ⊢
  have hl : lv_has ls 4 [(0, .ref (ad 0)), (1, .int v1), (2, .ref qo)] := hl
  refine lv_aload_n hx hb (show decode method_3_code 0 = .ok (.aload_n 2, 1) by decide +kernel) rfl (lv_at hl 2 rfl) ?_
  refine lv_iconst (v := 0) hx hb (show decode method_3_code 1 = .ok (.iconst 0, 1) by decide +kernel) (by decide) ?_
  refine lv_aload_n hx hb (show decode method_3_code 2 = .ok (.aload_n 0, 1) by decide +kernel) rfl (lv_at hl 0 rfl) ?_
  refine lv_iload_n hx hb (show decode method_3_code 3 = .ok (.iload_n 1, 1) by decide +kernel) rfl (lv_at hl 1 rfl) ?_
  have hX : th_X A s := hN.2.2.2.2
  have hw : ∀ w ∈ th_W, w.before [.ref (ad 0), .int v1, .ref qo].toArray s = true := fun w hw => vx_ot_at (State.WarmedH.refl s) rfl (List.all_eq_true.mp (show th_W.all vx_ot = true by decide +kernel) w hw) (hX.1 w hw)
  refine vx_calli (vx_runV (As := [.int v1]) (rest := [.int 0, .ref qo]) (C := "DeskMachine") (b := ad 0) ⟨hx, hb, hml, hown, hts⟩ hv9 ⟨callB_of 1 hts (lw_gi (lw_gx 349 (by decide +kernel))) rfl rfl rfl (hts (.initialized "DeskMachine") (lw_gm 112 (by decide +kernel) rfl)) (hts (.methodLink "DeskMachineLaw" 7 x_i4.1) (lw_gm 346 (by decide +kernel) rfl)) (by decide +kernel) ⟨Nat.le_of_ble_eq_true rfl, Nat.le_of_ble_eq_true rfl⟩, (hts (.instanceMethod x_i4.1) (lw_gm 347 (by decide +kernel) rfl)), (hts (.selects "DeskMachine" x_i4.1 x_i4.1) (lw_gm 348 (by decide +kernel) rfl))⟩ ⟨x_Pc_blind NW9_mv, va_recv hK (xo_l hP) (q0 := 0) rfl rfl, fun U hU hW => ⟨rfl, by rw [hU]; exact xo_l hP, va_K.moved hW.alike hK, NW9_mv s U hN hW (fun z _ _ => by rw [hU])⟩⟩ rfl rfl hl.1 rfl (Nat.le_of_ble_eq_true rfl) (show decode method_3_code 4 = .ok (.invokevirtual 7, 3) by decide +kernel) ⟨Nat.le_of_ble_eq_true rfl, Nat.le_of_ble_eq_true rfl⟩) hS (fun q _ h => Or.inl h) (fun q h => Or.inl h) (fun q _ h => Or.inl h) (fun E ce q9 u t H1 locs1 ht hvm _ hB hsz hk hS hcell hc9 hcl => ?_) (fun r u t H1 locs1 _ _ h9 => False.elim h9)
  obtain ⟨rfl, hP1⟩ := hB
  rw [ht] at hP1
  have hP := xo_new hP hP1 hq hk
  refine vx_catch (name := nISE) hown [⟨0, 9, 12, 13⟩] ⟨0, 9, 15, 15⟩ [] ((vx_table (x := yL_key) B (hts _ List.mem_cons_self)).trans rfl) (fun z hz => by cases List.mem_singleton.mp hz; exact Or.inr ⟨by decide, nIAE, (hw _ (List.mem_append_right _ (List.mem_append_right _ (List.mem_of_getElem? (i := 4) rfl)))), hX.2.2.2⟩) rfl (by decide) (hw _ (List.mem_append_right _ (List.mem_append_right _ (List.mem_of_getElem? (i := 5) rfl)))) (hw _ (List.mem_append_right _ (List.mem_append_right _ (List.mem_of_getElem? (i := 7) rfl)))) hcell hc9 hcl ?_
  refine lv_astore_n (nL := 4) hx hb (show decode method_3_code 15 = .ok (.astore_n 3, 1) by decide +kernel) rfl hl (by decide) rfl (fun ls hl => ?_)
  refine lv_iconst (v := 2) hx hb (show decode method_3_code 16 = .ok (.iconst 2, 1) by decide +kernel) (by decide) ?_
  exact vx_ret (W.iret hx hb hr (fun t ht hW => ⟨rfl, by rw [ht]; exact hP, hS.F ht⟩) hS.2.2 (show decode method_3_code 17 = .ok (.ireturn, 1) by decide +kernel))
def yl_run : MethodName := ⟨RL, "run", "(LDeskMachine;I[J)I"⟩
def wl_run : List Cond := .codeWith yl_run method_4_code 4 (some .int) [(0, 9, 12, 13)] :: lw_g
set_option maxHeartbeats 4000000 in
set_option maxRecDepth 100000 in
theorem hl_run {l : Launch} {D : va_G} {tys : List (ClassId × FieldType)} {A : Nat → Prop} {ad adV : Nat → Nat} {cI cZ cJ : ClassId} (hD : ∀ σ : xS, va_D A (x_w ad cI cZ x_sh σ)) {t1 t2 t3 : Nat} (ht1 : tys[t1]? = some (cI, .int)) (ht2 : tys[t2]? = some (cZ, .boolean)) (ht3 : tys[t3]? = some (cJ, .long)) {qo : Nat} (hq : ¬ A qo) {σ : xS} {f : Nat → Int64} {v1 r : Int32} {σ' : xS} {d : Nat} (hx9 : x_M d 95 [.ref 0, .int v1] σ = some (r, σ')) : Met l yl_run wl_run hl_rm (hl_P D tys A ad adV cI cZ qo cJ [.ref (ad 0), .int v1, .ref qo] σ f) (hl_Q D A ad cI cZ qo cJ 0 σ' (vp_updL f 0 (r.toInt64))) 1 6 (hl_A A qo) := by
  refine met_of_vx (vx_ofWH (cc := method_4_code) (maxL := 4) (ret := some .int) (hh := [(0, 9, 12, 13)]) (by decide) rfl ?_)
  intro p e s m args below meth c s₁ B hml hv
  obtain ⟨rfl, hP, hK, hN⟩ := hv
  have hx := B.exec
  have hb := B.bytes
  have hr := B.returns
  have hts := atoms_spec (ws := wl_run) B.pre
  have hown : s.vm.findClass "DeskMachineLaw" = some m.cls := findClass_of_methodNamed B.named
  have hlocks := B.notSynchronized
  have hS : va_S (hl_A A qo) s.heap s.heap [] := va_S.rf
  have hl := lv_entry ([.ref (ad 0), .int v1, .ref qo]) (n := 4) (Nat.le_of_ble_eq_true rfl)
  rw [lg_entry_eq]
  generalize (lg_sl ([.ref (ad 0), .int v1, .ref qo]) ++ List.replicate (4 - (lg_sl ([.ref (ad 0), .int v1, .ref qo])).length) Slot.unset).toArray = ls at hl ⊢
  have hl : lv_has ls 4 [(0, .ref (ad 0)), (1, .int v1), (2, .ref qo)] := hl
  refine lv_aload_n hx hb (show decode method_4_code 0 = .ok (.aload_n 2, 1) by decide +kernel) rfl (lv_at hl 2 rfl) ?_
  refine lv_iconst (v := 0) hx hb (show decode method_4_code 1 = .ok (.iconst 0, 1) by decide +kernel) (by decide) ?_
  refine lv_aload_n hx hb (show decode method_4_code 2 = .ok (.aload_n 0, 1) by decide +kernel) rfl (lv_at hl 0 rfl) ?_
  refine lv_iload_n hx hb (show decode method_4_code 3 = .ok (.iload_n 1, 1) by decide +kernel) rfl (lv_at hl 1 rfl) ?_
  have hM9 : Met l x_i95.1 (x_ws x_i95) (x_rmo x_i95) (x_Pc D x_cl tys ad cI cZ x_sh (NW9 A ad adV) [.ref 0, .int v1] σ) (x_Qc D x_cl A ad cI cZ x_sh false (r, σ')) 0 0 A := x_M_ok hD ht1 ht2 d 95 _ _ _ hx9
  refine x_callO (va_runV (As := [.int v1]) (rest := [.int 0, .ref qo]) (C := "DeskMachine") (b := ad 0) ⟨hx, hb, hml, hown, hts⟩ hM9 ⟨callB_of 1 hts (lw_gi (lw_gx 444 (by decide +kernel))) rfl rfl rfl (hts (.initialized "DeskMachine") (lw_gm 112 (by decide +kernel) rfl)) (hts (.methodLink "DeskMachineLaw" 17 x_i95.1) (lw_gm 441 (by decide +kernel) rfl)) (by decide +kernel) ⟨Nat.le_of_ble_eq_true rfl, Nat.le_of_ble_eq_true rfl⟩, (hts (.instanceMethod x_i95.1) (lw_gm 442 (by decide +kernel) rfl)), (hts (.selects "DeskMachine" x_i95.1 x_i95.1) (lw_gm 443 (by decide +kernel) rfl))⟩ ⟨x_Pc_blind NW9_mv, va_recv hK (xo_l hP) (q0 := 0) rfl rfl, fun U hU hW => ⟨rfl, by rw [hU]; exact xo_l hP, va_K.moved hW.alike hK, NW9_mv s U hN hW (fun z _ _ => by rw [hU])⟩⟩ rfl rfl hl.1 rfl (Nat.le_of_ble_eq_true rfl) (show decode method_4_code 4 = .ok (.invokevirtual 17, 3) by decide +kernel) ⟨Nat.le_of_ble_eq_true rfl, Nat.le_of_ble_eq_true rfl⟩) hP hq hS (fun q h => Or.inl h) (fun H locs hP hS => ?_)
  refine W.eq (g2 := F0 m 7 ls [.int r, .int 0, .ref qo]) rfl ?_
  refine lv_i2l (v := r.toInt64) hx hb (show decode method_4_code 7 = .ok (.i2l, 1) by decide +kernel) rfl ?_
  refine va_last (x := r.toInt64) hx hb hK hP (xo_D hD hq) hS 27 t3 rfl ht3 (vp_in_nI (n := 0) (N := 1) (by decide) (by decide)) (show decode method_4_code 8 = .ok (.lastore, 1) by decide +kernel) (fun H locs hP hDx hS => ?_)
  have hP : va_P D x_cl (xo ad cI cZ σ' qo cJ (vp_updL f 0 r.toInt64)) H := hP
  refine lv_goto (tgt := 15) hx hb (show decode method_4_code 9 = .ok (.goto 6, 3) by decide +kernel) (by decide) ?_
  refine lv_iconst (v := 0) hx hb (show decode method_4_code 15 = .ok (.iconst 0, 1) by decide +kernel) (by decide) ?_
  refine W.widen (k := 1) (n := 6) (by decide) (by decide) ?_
  exact vx_ret (W.iret hx hb hr (fun t ht hW => ⟨rfl, by rw [ht]; exact hP, hS.F ht⟩) hS.2.2 (show decode method_4_code 16 = .ok (.ireturn, 1) by decide +kernel))
set_option maxHeartbeats 4000000 in
set_option maxRecDepth 100000 in
theorem hl_run_t1 {l : Launch} {D : va_G} {tys : List (ClassId × FieldType)} {A : Nat → Prop} {ad adV : Nat → Nat} {cI cZ cJ : ClassId} (hD : ∀ σ : xS, va_D A (x_w ad cI cZ x_sh σ)) {t1 t2 t3 : Nat} (ht1 : tys[t1]? = some (cI, .int)) (ht2 : tys[t2]? = some (cZ, .boolean)) (ht3 : tys[t3]? = some (cJ, .long)) {qo : Nat} (hq : ¬ A qo) {σ : xS} {f : Nat → Int64} {v1 : Int32} (hv9 : vx_Met l x_i95.1 (x_ws x_i95) th_rm (x_Pc D x_cl tys ad cI cZ x_sh (NW9 A ad adV) [.ref 0, .int v1] σ) (th_Qc A) (th_XC D A ad cI cZ σ nIAE) 1 6 A) : Met l yl_run wl_run hl_rm (hl_P D tys A ad adV cI cZ qo cJ [.ref (ad 0), .int v1, .ref qo] σ f) (hl_Q D A ad cI cZ qo cJ 1 σ f) 1 6 (hl_A A qo) := by
  refine met_of_vx (vx_ofWH (cc := method_4_code) (maxL := 4) (ret := some .int) (hh := [(0, 9, 12, 13)]) (by decide) rfl ?_)
  intro p e s m args below meth c s₁ B hml hv
  obtain ⟨rfl, hP, hK, hN⟩ := hv
  have hx := B.exec
  have hb := B.bytes
  have hr := B.returns
  have hts := atoms_spec (ws := wl_run) B.pre
  have hown : s.vm.findClass "DeskMachineLaw" = some m.cls := findClass_of_methodNamed B.named
  have hlocks := B.notSynchronized
  have hS : va_S (hl_A A qo) s.heap s.heap [] := va_S.rf
  have hl := lv_entry ([.ref (ad 0), .int v1, .ref qo]) (n := 4) (Nat.le_of_ble_eq_true rfl)
  rw [lg_entry_eq]
  generalize (lg_sl ([.ref (ad 0), .int v1, .ref qo]) ++ List.replicate (4 - (lg_sl ([.ref (ad 0), .int v1, .ref qo])).length) Slot.unset).toArray = ls at hl ⊢
  have hl : lv_has ls 4 [(0, .ref (ad 0)), (1, .int v1), (2, .ref qo)] := hl
  refine lv_aload_n hx hb (show decode method_4_code 0 = .ok (.aload_n 2, 1) by decide +kernel) rfl (lv_at hl 2 rfl) ?_
  refine lv_iconst (v := 0) hx hb (show decode method_4_code 1 = .ok (.iconst 0, 1) by decide +kernel) (by decide) ?_
  refine lv_aload_n hx hb (show decode method_4_code 2 = .ok (.aload_n 0, 1) by decide +kernel) rfl (lv_at hl 0 rfl) ?_
  refine lv_iload_n hx hb (show decode method_4_code 3 = .ok (.iload_n 1, 1) by decide +kernel) rfl (lv_at hl 1 rfl) ?_
  have hX : th_X A s := hN.2.2.2.2
  have hw : ∀ w ∈ th_W, w.before [.ref (ad 0), .int v1, .ref qo].toArray s = true := fun w hw => vx_ot_at (State.WarmedH.refl s) rfl (List.all_eq_true.mp (show th_W.all vx_ot = true by decide +kernel) w hw) (hX.1 w hw)
  refine vx_calli (vx_runV (As := [.int v1]) (rest := [.int 0, .ref qo]) (C := "DeskMachine") (b := ad 0) ⟨hx, hb, hml, hown, hts⟩ hv9 ⟨callB_of 1 hts (lw_gi (lw_gx 444 (by decide +kernel))) rfl rfl rfl (hts (.initialized "DeskMachine") (lw_gm 112 (by decide +kernel) rfl)) (hts (.methodLink "DeskMachineLaw" 17 x_i95.1) (lw_gm 441 (by decide +kernel) rfl)) (by decide +kernel) ⟨Nat.le_of_ble_eq_true rfl, Nat.le_of_ble_eq_true rfl⟩, (hts (.instanceMethod x_i95.1) (lw_gm 442 (by decide +kernel) rfl)), (hts (.selects "DeskMachine" x_i95.1 x_i95.1) (lw_gm 443 (by decide +kernel) rfl))⟩ ⟨x_Pc_blind NW9_mv, va_recv hK (xo_l hP) (q0 := 0) rfl rfl, fun U hU hW => ⟨rfl, by rw [hU]; exact xo_l hP, va_K.moved hW.alike hK, NW9_mv s U hN hW (fun z _ _ => by rw [hU])⟩⟩ rfl rfl hl.1 rfl (Nat.le_of_ble_eq_true rfl) (show decode method_4_code 4 = .ok (.invokevirtual 17, 3) by decide +kernel) ⟨Nat.le_of_ble_eq_true rfl, Nat.le_of_ble_eq_true rfl⟩) hS (fun q _ h => Or.inl h) (fun q h => Or.inl h) (fun q _ h => Or.inl h) (fun E ce q9 u t H1 locs1 ht hvm _ hB hsz hk hS hcell hc9 hcl => ?_) (fun r u t H1 locs1 _ _ h9 => False.elim h9)
  obtain ⟨rfl, hP1⟩ := hB
  rw [ht] at hP1
  have hP := xo_new hP hP1 hq hk
  refine vx_catch (name := nIAE) hown [] ⟨0, 9, 12, 13⟩ [] ((vx_table (x := yl_run) B (hts _ List.mem_cons_self)).trans rfl) (fun z hz => nomatch hz) rfl (by decide) (hw _ (List.mem_append_right _ (List.mem_append_right _ (List.mem_of_getElem? (i := 4) rfl)))) (hw _ (List.mem_append_right _ (List.mem_append_right _ (List.mem_of_getElem? (i := 6) rfl)))) hcell hc9 hcl ?_
  refine lv_astore_n (nL := 4) hx hb (show decode method_4_code 12 = .ok (.astore_n 3, 1) by decide +kernel) rfl hl (by decide) rfl (fun ls hl => ?_)
  refine lv_iconst (v := 1) hx hb (show decode method_4_code 13 = .ok (.iconst 1, 1) by decide +kernel) (by decide) ?_
  exact vx_ret (W.iret hx hb hr (fun t ht hW => ⟨rfl, by rw [ht]; exact hP, hS.F ht⟩) hS.2.2 (show decode method_4_code 14 = .ok (.ireturn, 1) by decide +kernel))
def yl_poke : MethodName := ⟨RL, "poke", "(LDeskMachine;II[J)I"⟩
def wl_poke : List Cond := .codeWith yl_poke method_5_code 5 (some .int) [(0, 17, 20, 13)] :: lw_g
set_option maxHeartbeats 4000000 in
set_option maxRecDepth 100000 in
theorem hl_poke {l : Launch} {D : va_G} {tys : List (ClassId × FieldType)} {A : Nat → Prop} {ad adV : Nat → Nat} {cI cZ cJ : ClassId} (hD : ∀ σ : xS, va_D A (x_w ad cI cZ x_sh σ)) {t1 t2 t3 : Nat} (ht1 : tys[t1]? = some (cI, .int)) (ht2 : tys[t2]? = some (cZ, .boolean)) (ht3 : tys[t3]? = some (cJ, .long)) {qo : Nat} (hq : ¬ A qo) {σ : xS} {f : Nat → Int64} {v1 v2 r : Int32} {σ' : xS} {d : Nat} (hx9 : x_M d 97 [.ref 0, .int v1, .int v2] σ = some (r, σ')) : Met l yl_poke wl_poke hl_rm (hl_P D tys A ad adV cI cZ qo cJ [.ref (ad 0), .int v1, .int v2, .ref qo] σ f) (hl_Q D A ad cI cZ qo cJ 0 σ' (vp_updL f 0 (if r = 0 then 0 else 1))) 1 6 (hl_A A qo) := by
  refine met_of_vx (vx_ofWH (cc := method_5_code) (maxL := 5) (ret := some .int) (hh := [(0, 17, 20, 13)]) (by decide) rfl ?_)
  intro p e s m args below meth c s₁ B hml hv
  obtain ⟨rfl, hP, hK, hN⟩ := hv
  have hx := B.exec
  have hb := B.bytes
  have hr := B.returns
  have hts := atoms_spec (ws := wl_poke) B.pre
  have hown : s.vm.findClass "DeskMachineLaw" = some m.cls := findClass_of_methodNamed B.named
  have hlocks := B.notSynchronized
  have hS : va_S (hl_A A qo) s.heap s.heap [] := va_S.rf
  have hl := lv_entry ([.ref (ad 0), .int v1, .int v2, .ref qo]) (n := 5) (Nat.le_of_ble_eq_true rfl)
  rw [lg_entry_eq]
  generalize (lg_sl ([.ref (ad 0), .int v1, .int v2, .ref qo]) ++ List.replicate (5 - (lg_sl ([.ref (ad 0), .int v1, .int v2, .ref qo])).length) Slot.unset).toArray = ls at hl ⊢
  have hl : lv_has ls 5 [(0, .ref (ad 0)), (1, .int v1), (2, .int v2), (3, .ref qo)] := hl
  refine lv_aload_n hx hb (show decode method_5_code 0 = .ok (.aload_n 3, 1) by decide +kernel) rfl (lv_at hl 3 rfl) ?_
  refine lv_iconst (v := 0) hx hb (show decode method_5_code 1 = .ok (.iconst 0, 1) by decide +kernel) (by decide) ?_
  refine lv_aload_n hx hb (show decode method_5_code 2 = .ok (.aload_n 0, 1) by decide +kernel) rfl (lv_at hl 0 rfl) ?_
  refine lv_iload_n hx hb (show decode method_5_code 3 = .ok (.iload_n 1, 1) by decide +kernel) rfl (lv_at hl 1 rfl) ?_
  refine lv_iload_n hx hb (show decode method_5_code 4 = .ok (.iload_n 2, 1) by decide +kernel) rfl (lv_at hl 2 rfl) ?_
  have hM9 : Met l x_i97.1 (x_ws x_i97) (x_rmo x_i97) (x_Pc D x_cl tys ad cI cZ x_sh (NW9 A ad adV) [.ref 0, .int v1, .int v2] σ) (x_Qc D x_cl A ad cI cZ x_sh false (r, σ')) 0 0 A := x_M_ok hD ht1 ht2 d 97 _ _ _ hx9
  refine x_callO (va_runV (As := [.int v1, .int v2]) (rest := [.int 0, .ref qo]) (C := "DeskMachine") (b := ad 0) ⟨hx, hb, hml, hown, hts⟩ hM9 ⟨callB_of 2 hts (lw_gi (lw_gx 892 (by decide +kernel))) rfl rfl rfl (hts (.initialized "DeskMachine") (lw_gm 112 (by decide +kernel) rfl)) (hts (.methodLink "DeskMachineLaw" 20 x_i97.1) (lw_gm 889 (by decide +kernel) rfl)) (by decide +kernel) ⟨Nat.le_of_ble_eq_true rfl, Nat.le_of_ble_eq_true rfl⟩, (hts (.instanceMethod x_i97.1) (lw_gm 890 (by decide +kernel) rfl)), (hts (.selects "DeskMachine" x_i97.1 x_i97.1) (lw_gm 891 (by decide +kernel) rfl))⟩ ⟨x_Pc_blind NW9_mv, va_recv hK (xo_l hP) (q0 := 0) rfl rfl, fun U hU hW => ⟨rfl, by rw [hU]; exact xo_l hP, va_K.moved hW.alike hK, NW9_mv s U hN hW (fun z _ _ => by rw [hU])⟩⟩ rfl rfl hl.1 rfl (Nat.le_of_ble_eq_true rfl) (show decode method_5_code 5 = .ok (.invokevirtual 20, 3) by decide +kernel) ⟨Nat.le_of_ble_eq_true rfl, Nat.le_of_ble_eq_true rfl⟩) hP hq hS (fun q h => Or.inl h) (fun H locs hP hS => ?_)
  refine W.eq (g2 := F0 m 8 ls [.int r, .int 0, .ref qo]) rfl ?_
  refine lv_if_eq (tgt := 15) hx hb (show decode method_5_code 8 = .ok (.ifCond .eq 7, 3) by decide +kernel) (by decide) (fun h0 => ?_) (fun h0 => ?_)
  · rw [if_pos h0]
    refine lv_lconst (v := 0) hx hb (show decode method_5_code 15 = .ok (.lconst 0, 1) by decide +kernel) (by decide) ?_
    refine va_last (x := 0) hx hb hK hP (xo_D hD hq) hS 27 t3 rfl ht3 (vp_in_nI (n := 0) (N := 1) (by decide) (by decide)) (show decode method_5_code 16 = .ok (.lastore, 1) by decide +kernel) (fun H locs hP hDx hS => ?_)
    have hP : va_P D x_cl (xo ad cI cZ σ' qo cJ (vp_updL f 0 0)) H := hP
    refine lv_goto (tgt := 24) hx hb (show decode method_5_code 17 = .ok (.goto 7, 3) by decide +kernel) (by decide) ?_
    refine lv_iconst (v := 0) hx hb (show decode method_5_code 24 = .ok (.iconst 0, 1) by decide +kernel) (by decide) ?_
    refine W.widen (k := 1) (n := 6) (by decide) (by decide) ?_
    exact vx_ret (W.iret hx hb hr (fun t ht hW => ⟨rfl, by rw [ht]; exact hP, hS.F ht⟩) hS.2.2 (show decode method_5_code 25 = .ok (.ireturn, 1) by decide +kernel))
  · rw [if_neg h0]
    refine lv_lconst (v := 1) hx hb (show decode method_5_code 11 = .ok (.lconst 1, 1) by decide +kernel) (by decide) ?_
    refine lv_goto (tgt := 16) hx hb (show decode method_5_code 12 = .ok (.goto 4, 3) by decide +kernel) (by decide) ?_
    refine va_last (x := 1) hx hb hK hP (xo_D hD hq) hS 27 t3 rfl ht3 (vp_in_nI (n := 0) (N := 1) (by decide) (by decide)) (show decode method_5_code 16 = .ok (.lastore, 1) by decide +kernel) (fun H locs hP hDx hS => ?_)
    have hP : va_P D x_cl (xo ad cI cZ σ' qo cJ (vp_updL f 0 1)) H := hP
    refine lv_goto (tgt := 24) hx hb (show decode method_5_code 17 = .ok (.goto 7, 3) by decide +kernel) (by decide) ?_
    refine lv_iconst (v := 0) hx hb (show decode method_5_code 24 = .ok (.iconst 0, 1) by decide +kernel) (by decide) ?_
    refine W.widen (k := 1) (n := 6) (by decide) (by decide) ?_
    exact vx_ret (W.iret hx hb hr (fun t ht hW => ⟨rfl, by rw [ht]; exact hP, hS.F ht⟩) hS.2.2 (show decode method_5_code 25 = .ok (.ireturn, 1) by decide +kernel))
set_option maxHeartbeats 4000000 in
set_option maxRecDepth 100000 in
theorem hl_poke_t1 {l : Launch} {D : va_G} {tys : List (ClassId × FieldType)} {A : Nat → Prop} {ad adV : Nat → Nat} {cI cZ cJ : ClassId} (hD : ∀ σ : xS, va_D A (x_w ad cI cZ x_sh σ)) {t1 t2 t3 : Nat} (ht1 : tys[t1]? = some (cI, .int)) (ht2 : tys[t2]? = some (cZ, .boolean)) (ht3 : tys[t3]? = some (cJ, .long)) {qo : Nat} (hq : ¬ A qo) {σ : xS} {f : Nat → Int64} {v1 v2 : Int32} (hv9 : vx_Met l x_i97.1 (x_ws x_i97) th_rm (x_Pc D x_cl tys ad cI cZ x_sh (NW9 A ad adV) [.ref 0, .int v1, .int v2] σ) (th_Qc A) (th_XC D A ad cI cZ σ nIAE) 1 6 A) : Met l yl_poke wl_poke hl_rm (hl_P D tys A ad adV cI cZ qo cJ [.ref (ad 0), .int v1, .int v2, .ref qo] σ f) (hl_Q D A ad cI cZ qo cJ 1 σ f) 1 6 (hl_A A qo) := by
  refine met_of_vx (vx_ofWH (cc := method_5_code) (maxL := 5) (ret := some .int) (hh := [(0, 17, 20, 13)]) (by decide) rfl ?_)
  intro p e s m args below meth c s₁ B hml hv
  obtain ⟨rfl, hP, hK, hN⟩ := hv
  have hx := B.exec
  have hb := B.bytes
  have hr := B.returns
  have hts := atoms_spec (ws := wl_poke) B.pre
  have hown : s.vm.findClass "DeskMachineLaw" = some m.cls := findClass_of_methodNamed B.named
  have hlocks := B.notSynchronized
  have hS : va_S (hl_A A qo) s.heap s.heap [] := va_S.rf
  have hl := lv_entry ([.ref (ad 0), .int v1, .int v2, .ref qo]) (n := 5) (Nat.le_of_ble_eq_true rfl)
  rw [lg_entry_eq]
  generalize (lg_sl ([.ref (ad 0), .int v1, .int v2, .ref qo]) ++ List.replicate (5 - (lg_sl ([.ref (ad 0), .int v1, .int v2, .ref qo])).length) Slot.unset).toArray = ls at hl ⊢
  have hl : lv_has ls 5 [(0, .ref (ad 0)), (1, .int v1), (2, .int v2), (3, .ref qo)] := hl
  refine lv_aload_n hx hb (show decode method_5_code 0 = .ok (.aload_n 3, 1) by decide +kernel) rfl (lv_at hl 3 rfl) ?_
  refine lv_iconst (v := 0) hx hb (show decode method_5_code 1 = .ok (.iconst 0, 1) by decide +kernel) (by decide) ?_
  refine lv_aload_n hx hb (show decode method_5_code 2 = .ok (.aload_n 0, 1) by decide +kernel) rfl (lv_at hl 0 rfl) ?_
  refine lv_iload_n hx hb (show decode method_5_code 3 = .ok (.iload_n 1, 1) by decide +kernel) rfl (lv_at hl 1 rfl) ?_
  refine lv_iload_n hx hb (show decode method_5_code 4 = .ok (.iload_n 2, 1) by decide +kernel) rfl (lv_at hl 2 rfl) ?_
  have hX : th_X A s := hN.2.2.2.2
  have hw : ∀ w ∈ th_W, w.before [.ref (ad 0), .int v1, .int v2, .ref qo].toArray s = true := fun w hw => vx_ot_at (State.WarmedH.refl s) rfl (List.all_eq_true.mp (show th_W.all vx_ot = true by decide +kernel) w hw) (hX.1 w hw)
  refine vx_calli (vx_runV (As := [.int v1, .int v2]) (rest := [.int 0, .ref qo]) (C := "DeskMachine") (b := ad 0) ⟨hx, hb, hml, hown, hts⟩ hv9 ⟨callB_of 2 hts (lw_gi (lw_gx 892 (by decide +kernel))) rfl rfl rfl (hts (.initialized "DeskMachine") (lw_gm 112 (by decide +kernel) rfl)) (hts (.methodLink "DeskMachineLaw" 20 x_i97.1) (lw_gm 889 (by decide +kernel) rfl)) (by decide +kernel) ⟨Nat.le_of_ble_eq_true rfl, Nat.le_of_ble_eq_true rfl⟩, (hts (.instanceMethod x_i97.1) (lw_gm 890 (by decide +kernel) rfl)), (hts (.selects "DeskMachine" x_i97.1 x_i97.1) (lw_gm 891 (by decide +kernel) rfl))⟩ ⟨x_Pc_blind NW9_mv, va_recv hK (xo_l hP) (q0 := 0) rfl rfl, fun U hU hW => ⟨rfl, by rw [hU]; exact xo_l hP, va_K.moved hW.alike hK, NW9_mv s U hN hW (fun z _ _ => by rw [hU])⟩⟩ rfl rfl hl.1 rfl (Nat.le_of_ble_eq_true rfl) (show decode method_5_code 5 = .ok (.invokevirtual 20, 3) by decide +kernel) ⟨Nat.le_of_ble_eq_true rfl, Nat.le_of_ble_eq_true rfl⟩) hS (fun q _ h => Or.inl h) (fun q h => Or.inl h) (fun q _ h => Or.inl h) (fun E ce q9 u t H1 locs1 ht hvm _ hB hsz hk hS hcell hc9 hcl => ?_) (fun r u t H1 locs1 _ _ h9 => False.elim h9)
  obtain ⟨rfl, hP1⟩ := hB
  rw [ht] at hP1
  have hP := xo_new hP hP1 hq hk
  refine vx_catch (name := nIAE) hown [] ⟨0, 17, 20, 13⟩ [] ((vx_table (x := yl_poke) B (hts _ List.mem_cons_self)).trans rfl) (fun z hz => nomatch hz) rfl (by decide) (hw _ (List.mem_append_right _ (List.mem_append_right _ (List.mem_of_getElem? (i := 4) rfl)))) (hw _ (List.mem_append_right _ (List.mem_append_right _ (List.mem_of_getElem? (i := 6) rfl)))) hcell hc9 hcl ?_
  refine lv_astore (nL := 5) hx hb (show decode method_5_code 20 = .ok (.astore 4, 2) by decide +kernel) hl (by decide) rfl (fun ls hl => ?_)
  refine lv_iconst (v := 1) hx hb (show decode method_5_code 22 = .ok (.iconst 1, 1) by decide +kernel) (by decide) ?_
  exact vx_ret (W.iret hx hb hr (fun t ht hW => ⟨rfl, by rw [ht]; exact hP, hS.F ht⟩) hS.2.2 (show decode method_5_code 23 = .ok (.ireturn, 1) by decide +kernel))
def yl_peek : MethodName := ⟨RL, "peek", "(LDeskMachine;I[J)I"⟩
def wl_peek : List Cond := .codeWith yl_peek method_6_code 4 (some .int) [(0, 9, 12, 13)] :: lw_g
set_option maxHeartbeats 4000000 in
set_option maxRecDepth 100000 in
theorem hl_peek {l : Launch} {D : va_G} {tys : List (ClassId × FieldType)} {A : Nat → Prop} {ad adV : Nat → Nat} {cI cZ cJ : ClassId} (hD : ∀ σ : xS, va_D A (x_w ad cI cZ x_sh σ)) {t1 t2 t3 : Nat} (ht1 : tys[t1]? = some (cI, .int)) (ht2 : tys[t2]? = some (cZ, .boolean)) (ht3 : tys[t3]? = some (cJ, .long)) {qo : Nat} (hq : ¬ A qo) {σ : xS} {f : Nat → Int64} {v1 r : Int32} {σ' : xS} {d : Nat} (hx9 : x_M d 98 [.ref 0, .int v1] σ = some (r, σ')) : Met l yl_peek wl_peek hl_rm (hl_P D tys A ad adV cI cZ qo cJ [.ref (ad 0), .int v1, .ref qo] σ f) (hl_Q D A ad cI cZ qo cJ 0 σ' (vp_updL f 0 (r.toInt64))) 1 6 (hl_A A qo) := by
  refine met_of_vx (vx_ofWH (cc := method_6_code) (maxL := 4) (ret := some .int) (hh := [(0, 9, 12, 13)]) (by decide) rfl ?_)
  intro p e s m args below meth c s₁ B hml hv
  obtain ⟨rfl, hP, hK, hN⟩ := hv
  have hx := B.exec
  have hb := B.bytes
  have hr := B.returns
  have hts := atoms_spec (ws := wl_peek) B.pre
  have hown : s.vm.findClass "DeskMachineLaw" = some m.cls := findClass_of_methodNamed B.named
  have hlocks := B.notSynchronized
  have hS : va_S (hl_A A qo) s.heap s.heap [] := va_S.rf
  have hl := lv_entry ([.ref (ad 0), .int v1, .ref qo]) (n := 4) (Nat.le_of_ble_eq_true rfl)
  rw [lg_entry_eq]
  generalize (lg_sl ([.ref (ad 0), .int v1, .ref qo]) ++ List.replicate (4 - (lg_sl ([.ref (ad 0), .int v1, .ref qo])).length) Slot.unset).toArray = ls at hl ⊢
  have hl : lv_has ls 4 [(0, .ref (ad 0)), (1, .int v1), (2, .ref qo)] := hl
  refine lv_aload_n hx hb (show decode method_6_code 0 = .ok (.aload_n 2, 1) by decide +kernel) rfl (lv_at hl 2 rfl) ?_
  refine lv_iconst (v := 0) hx hb (show decode method_6_code 1 = .ok (.iconst 0, 1) by decide +kernel) (by decide) ?_
  refine lv_aload_n hx hb (show decode method_6_code 2 = .ok (.aload_n 0, 1) by decide +kernel) rfl (lv_at hl 0 rfl) ?_
  refine lv_iload_n hx hb (show decode method_6_code 3 = .ok (.iload_n 1, 1) by decide +kernel) rfl (lv_at hl 1 rfl) ?_
  have hM9 : Met l x_i98.1 (x_ws x_i98) (x_rmo x_i98) (x_Pc D x_cl tys ad cI cZ x_sh (NW9 A ad adV) [.ref 0, .int v1] σ) (x_Qc D x_cl A ad cI cZ x_sh false (r, σ')) 0 0 A := x_M_ok hD ht1 ht2 d 98 _ _ _ hx9
  refine x_callO (va_runV (As := [.int v1]) (rest := [.int 0, .ref qo]) (C := "DeskMachine") (b := ad 0) ⟨hx, hb, hml, hown, hts⟩ hM9 ⟨callB_of 1 hts (lw_gi (lw_gx 903 (by decide +kernel))) rfl rfl rfl (hts (.initialized "DeskMachine") (lw_gm 112 (by decide +kernel) rfl)) (hts (.methodLink "DeskMachineLaw" 24 x_i98.1) (lw_gm 900 (by decide +kernel) rfl)) (by decide +kernel) ⟨Nat.le_of_ble_eq_true rfl, Nat.le_of_ble_eq_true rfl⟩, (hts (.instanceMethod x_i98.1) (lw_gm 901 (by decide +kernel) rfl)), (hts (.selects "DeskMachine" x_i98.1 x_i98.1) (lw_gm 902 (by decide +kernel) rfl))⟩ ⟨x_Pc_blind NW9_mv, va_recv hK (xo_l hP) (q0 := 0) rfl rfl, fun U hU hW => ⟨rfl, by rw [hU]; exact xo_l hP, va_K.moved hW.alike hK, NW9_mv s U hN hW (fun z _ _ => by rw [hU])⟩⟩ rfl rfl hl.1 rfl (Nat.le_of_ble_eq_true rfl) (show decode method_6_code 4 = .ok (.invokevirtual 24, 3) by decide +kernel) ⟨Nat.le_of_ble_eq_true rfl, Nat.le_of_ble_eq_true rfl⟩) hP hq hS (fun q h => Or.inl h) (fun H locs hP hS => ?_)
  refine W.eq (g2 := F0 m 7 ls [.int r, .int 0, .ref qo]) rfl ?_
  refine lv_i2l (v := r.toInt64) hx hb (show decode method_6_code 7 = .ok (.i2l, 1) by decide +kernel) rfl ?_
  refine va_last (x := r.toInt64) hx hb hK hP (xo_D hD hq) hS 27 t3 rfl ht3 (vp_in_nI (n := 0) (N := 1) (by decide) (by decide)) (show decode method_6_code 8 = .ok (.lastore, 1) by decide +kernel) (fun H locs hP hDx hS => ?_)
  have hP : va_P D x_cl (xo ad cI cZ σ' qo cJ (vp_updL f 0 r.toInt64)) H := hP
  refine lv_goto (tgt := 15) hx hb (show decode method_6_code 9 = .ok (.goto 6, 3) by decide +kernel) (by decide) ?_
  refine lv_iconst (v := 0) hx hb (show decode method_6_code 15 = .ok (.iconst 0, 1) by decide +kernel) (by decide) ?_
  refine W.widen (k := 1) (n := 6) (by decide) (by decide) ?_
  exact vx_ret (W.iret hx hb hr (fun t ht hW => ⟨rfl, by rw [ht]; exact hP, hS.F ht⟩) hS.2.2 (show decode method_6_code 16 = .ok (.ireturn, 1) by decide +kernel))
set_option maxHeartbeats 4000000 in
set_option maxRecDepth 100000 in
theorem hl_peek_t1 {l : Launch} {D : va_G} {tys : List (ClassId × FieldType)} {A : Nat → Prop} {ad adV : Nat → Nat} {cI cZ cJ : ClassId} (hD : ∀ σ : xS, va_D A (x_w ad cI cZ x_sh σ)) {t1 t2 t3 : Nat} (ht1 : tys[t1]? = some (cI, .int)) (ht2 : tys[t2]? = some (cZ, .boolean)) (ht3 : tys[t3]? = some (cJ, .long)) {qo : Nat} (hq : ¬ A qo) {σ : xS} {f : Nat → Int64} {v1 : Int32} (hv9 : vx_Met l x_i98.1 (x_ws x_i98) th_rm (x_Pc D x_cl tys ad cI cZ x_sh (NW9 A ad adV) [.ref 0, .int v1] σ) (th_Qc A) (th_XC D A ad cI cZ σ nIAE) 1 6 A) : Met l yl_peek wl_peek hl_rm (hl_P D tys A ad adV cI cZ qo cJ [.ref (ad 0), .int v1, .ref qo] σ f) (hl_Q D A ad cI cZ qo cJ 1 σ f) 1 6 (hl_A A qo) := by
  refine met_of_vx (vx_ofWH (cc := method_6_code) (maxL := 4) (ret := some .int) (hh := [(0, 9, 12, 13)]) (by decide) rfl ?_)
  intro p e s m args below meth c s₁ B hml hv
  obtain ⟨rfl, hP, hK, hN⟩ := hv
  have hx := B.exec
  have hb := B.bytes
  have hr := B.returns
  have hts := atoms_spec (ws := wl_peek) B.pre
  have hown : s.vm.findClass "DeskMachineLaw" = some m.cls := findClass_of_methodNamed B.named
  have hlocks := B.notSynchronized
  have hS : va_S (hl_A A qo) s.heap s.heap [] := va_S.rf
  have hl := lv_entry ([.ref (ad 0), .int v1, .ref qo]) (n := 4) (Nat.le_of_ble_eq_true rfl)
  rw [lg_entry_eq]
  generalize (lg_sl ([.ref (ad 0), .int v1, .ref qo]) ++ List.replicate (4 - (lg_sl ([.ref (ad 0), .int v1, .ref qo])).length) Slot.unset).toArray = ls at hl ⊢
  have hl : lv_has ls 4 [(0, .ref (ad 0)), (1, .int v1), (2, .ref qo)] := hl
  refine lv_aload_n hx hb (show decode method_6_code 0 = .ok (.aload_n 2, 1) by decide +kernel) rfl (lv_at hl 2 rfl) ?_
  refine lv_iconst (v := 0) hx hb (show decode method_6_code 1 = .ok (.iconst 0, 1) by decide +kernel) (by decide) ?_
  refine lv_aload_n hx hb (show decode method_6_code 2 = .ok (.aload_n 0, 1) by decide +kernel) rfl (lv_at hl 0 rfl) ?_
  refine lv_iload_n hx hb (show decode method_6_code 3 = .ok (.iload_n 1, 1) by decide +kernel) rfl (lv_at hl 1 rfl) ?_
  have hX : th_X A s := hN.2.2.2.2
  have hw : ∀ w ∈ th_W, w.before [.ref (ad 0), .int v1, .ref qo].toArray s = true := fun w hw => vx_ot_at (State.WarmedH.refl s) rfl (List.all_eq_true.mp (show th_W.all vx_ot = true by decide +kernel) w hw) (hX.1 w hw)
  refine vx_calli (vx_runV (As := [.int v1]) (rest := [.int 0, .ref qo]) (C := "DeskMachine") (b := ad 0) ⟨hx, hb, hml, hown, hts⟩ hv9 ⟨callB_of 1 hts (lw_gi (lw_gx 903 (by decide +kernel))) rfl rfl rfl (hts (.initialized "DeskMachine") (lw_gm 112 (by decide +kernel) rfl)) (hts (.methodLink "DeskMachineLaw" 24 x_i98.1) (lw_gm 900 (by decide +kernel) rfl)) (by decide +kernel) ⟨Nat.le_of_ble_eq_true rfl, Nat.le_of_ble_eq_true rfl⟩, (hts (.instanceMethod x_i98.1) (lw_gm 901 (by decide +kernel) rfl)), (hts (.selects "DeskMachine" x_i98.1 x_i98.1) (lw_gm 902 (by decide +kernel) rfl))⟩ ⟨x_Pc_blind NW9_mv, va_recv hK (xo_l hP) (q0 := 0) rfl rfl, fun U hU hW => ⟨rfl, by rw [hU]; exact xo_l hP, va_K.moved hW.alike hK, NW9_mv s U hN hW (fun z _ _ => by rw [hU])⟩⟩ rfl rfl hl.1 rfl (Nat.le_of_ble_eq_true rfl) (show decode method_6_code 4 = .ok (.invokevirtual 24, 3) by decide +kernel) ⟨Nat.le_of_ble_eq_true rfl, Nat.le_of_ble_eq_true rfl⟩) hS (fun q _ h => Or.inl h) (fun q h => Or.inl h) (fun q _ h => Or.inl h) (fun E ce q9 u t H1 locs1 ht hvm _ hB hsz hk hS hcell hc9 hcl => ?_) (fun r u t H1 locs1 _ _ h9 => False.elim h9)
  obtain ⟨rfl, hP1⟩ := hB
  rw [ht] at hP1
  have hP := xo_new hP hP1 hq hk
  refine vx_catch (name := nIAE) hown [] ⟨0, 9, 12, 13⟩ [] ((vx_table (x := yl_peek) B (hts _ List.mem_cons_self)).trans rfl) (fun z hz => nomatch hz) rfl (by decide) (hw _ (List.mem_append_right _ (List.mem_append_right _ (List.mem_of_getElem? (i := 4) rfl)))) (hw _ (List.mem_append_right _ (List.mem_append_right _ (List.mem_of_getElem? (i := 6) rfl)))) hcell hc9 hcl ?_
  refine lv_astore_n (nL := 4) hx hb (show decode method_6_code 12 = .ok (.astore_n 3, 1) by decide +kernel) rfl hl (by decide) rfl (fun ls hl => ?_)
  refine lv_iconst (v := 1) hx hb (show decode method_6_code 13 = .ok (.iconst 1, 1) by decide +kernel) (by decide) ?_
  exact vx_ret (W.iret hx hb hr (fun t ht hW => ⟨rfl, by rw [ht]; exact hP, hS.F ht⟩) hS.2.2 (show decode method_6_code 14 = .ok (.ireturn, 1) by decide +kernel))
def yl_disk : MethodName := ⟨RL, "disk", "(LDeskMachine;II[J)I"⟩
def wl_disk : List Cond := .codeWith yl_disk method_7_code 5 (some .int) [(0, 10, 13, 13)] :: lw_g
set_option maxHeartbeats 4000000 in
set_option maxRecDepth 100000 in
theorem hl_disk {l : Launch} {D : va_G} {tys : List (ClassId × FieldType)} {A : Nat → Prop} {ad adV : Nat → Nat} {cI cZ cJ : ClassId} (hD : ∀ σ : xS, va_D A (x_w ad cI cZ x_sh σ)) {t1 t2 t3 : Nat} (ht1 : tys[t1]? = some (cI, .int)) (ht2 : tys[t2]? = some (cZ, .boolean)) (ht3 : tys[t3]? = some (cJ, .long)) {qo : Nat} (hq : ¬ A qo) {σ : xS} {f : Nat → Int64} {v1 v2 r : Int32} {σ' : xS} {d : Nat} (hx9 : x_M d 100 [.ref 0, .int v1, .int v2] σ = some (r, σ')) : Met l yl_disk wl_disk hl_rm (hl_P D tys A ad adV cI cZ qo cJ [.ref (ad 0), .int v1, .int v2, .ref qo] σ f) (hl_Q D A ad cI cZ qo cJ 0 σ' (vp_updL f 0 (r.toInt64))) 1 6 (hl_A A qo) := by
  refine met_of_vx (vx_ofWH (cc := method_7_code) (maxL := 5) (ret := some .int) (hh := [(0, 10, 13, 13)]) (by decide) rfl ?_)
  intro p e s m args below meth c s₁ B hml hv
  obtain ⟨rfl, hP, hK, hN⟩ := hv
  have hx := B.exec
  have hb := B.bytes
  have hr := B.returns
  have hts := atoms_spec (ws := wl_disk) B.pre
  have hown : s.vm.findClass "DeskMachineLaw" = some m.cls := findClass_of_methodNamed B.named
  have hlocks := B.notSynchronized
  have hS : va_S (hl_A A qo) s.heap s.heap [] := va_S.rf
  have hl := lv_entry ([.ref (ad 0), .int v1, .int v2, .ref qo]) (n := 5) (Nat.le_of_ble_eq_true rfl)
  rw [lg_entry_eq]
  generalize (lg_sl ([.ref (ad 0), .int v1, .int v2, .ref qo]) ++ List.replicate (5 - (lg_sl ([.ref (ad 0), .int v1, .int v2, .ref qo])).length) Slot.unset).toArray = ls at hl ⊢
  have hl : lv_has ls 5 [(0, .ref (ad 0)), (1, .int v1), (2, .int v2), (3, .ref qo)] := hl
  refine lv_aload_n hx hb (show decode method_7_code 0 = .ok (.aload_n 3, 1) by decide +kernel) rfl (lv_at hl 3 rfl) ?_
  refine lv_iconst (v := 0) hx hb (show decode method_7_code 1 = .ok (.iconst 0, 1) by decide +kernel) (by decide) ?_
  refine lv_aload_n hx hb (show decode method_7_code 2 = .ok (.aload_n 0, 1) by decide +kernel) rfl (lv_at hl 0 rfl) ?_
  refine lv_iload_n hx hb (show decode method_7_code 3 = .ok (.iload_n 1, 1) by decide +kernel) rfl (lv_at hl 1 rfl) ?_
  refine lv_iload_n hx hb (show decode method_7_code 4 = .ok (.iload_n 2, 1) by decide +kernel) rfl (lv_at hl 2 rfl) ?_
  have hM9 : Met l x_i100.1 (x_ws x_i100) (x_rmo x_i100) (x_Pc D x_cl tys ad cI cZ x_sh (NW9 A ad adV) [.ref 0, .int v1, .int v2] σ) (x_Qc D x_cl A ad cI cZ x_sh false (r, σ')) 0 0 A := x_M_ok hD ht1 ht2 d 100 _ _ _ hx9
  refine x_callO (va_runV (As := [.int v1, .int v2]) (rest := [.int 0, .ref qo]) (C := "DeskMachine") (b := ad 0) ⟨hx, hb, hml, hown, hts⟩ hM9 ⟨callB_of 2 hts (lw_gi (lw_gx 910 (by decide +kernel))) rfl rfl rfl (hts (.initialized "DeskMachine") (lw_gm 112 (by decide +kernel) rfl)) (hts (.methodLink "DeskMachineLaw" 27 x_i100.1) (lw_gm 907 (by decide +kernel) rfl)) (by decide +kernel) ⟨Nat.le_of_ble_eq_true rfl, Nat.le_of_ble_eq_true rfl⟩, (hts (.instanceMethod x_i100.1) (lw_gm 908 (by decide +kernel) rfl)), (hts (.selects "DeskMachine" x_i100.1 x_i100.1) (lw_gm 909 (by decide +kernel) rfl))⟩ ⟨x_Pc_blind NW9_mv, va_recv hK (xo_l hP) (q0 := 0) rfl rfl, fun U hU hW => ⟨rfl, by rw [hU]; exact xo_l hP, va_K.moved hW.alike hK, NW9_mv s U hN hW (fun z _ _ => by rw [hU])⟩⟩ rfl rfl hl.1 rfl (Nat.le_of_ble_eq_true rfl) (show decode method_7_code 5 = .ok (.invokevirtual 27, 3) by decide +kernel) ⟨Nat.le_of_ble_eq_true rfl, Nat.le_of_ble_eq_true rfl⟩) hP hq hS (fun q h => Or.inl h) (fun H locs hP hS => ?_)
  refine W.eq (g2 := F0 m 8 ls [.int r, .int 0, .ref qo]) rfl ?_
  refine lv_i2l (v := r.toInt64) hx hb (show decode method_7_code 8 = .ok (.i2l, 1) by decide +kernel) rfl ?_
  refine va_last (x := r.toInt64) hx hb hK hP (xo_D hD hq) hS 27 t3 rfl ht3 (vp_in_nI (n := 0) (N := 1) (by decide) (by decide)) (show decode method_7_code 9 = .ok (.lastore, 1) by decide +kernel) (fun H locs hP hDx hS => ?_)
  have hP : va_P D x_cl (xo ad cI cZ σ' qo cJ (vp_updL f 0 r.toInt64)) H := hP
  refine lv_goto (tgt := 17) hx hb (show decode method_7_code 10 = .ok (.goto 7, 3) by decide +kernel) (by decide) ?_
  refine lv_iconst (v := 0) hx hb (show decode method_7_code 17 = .ok (.iconst 0, 1) by decide +kernel) (by decide) ?_
  refine W.widen (k := 1) (n := 6) (by decide) (by decide) ?_
  exact vx_ret (W.iret hx hb hr (fun t ht hW => ⟨rfl, by rw [ht]; exact hP, hS.F ht⟩) hS.2.2 (show decode method_7_code 18 = .ok (.ireturn, 1) by decide +kernel))
set_option maxHeartbeats 4000000 in
set_option maxRecDepth 100000 in
theorem hl_disk_t1 {l : Launch} {D : va_G} {tys : List (ClassId × FieldType)} {A : Nat → Prop} {ad adV : Nat → Nat} {cI cZ cJ : ClassId} (hD : ∀ σ : xS, va_D A (x_w ad cI cZ x_sh σ)) {t1 t2 t3 : Nat} (ht1 : tys[t1]? = some (cI, .int)) (ht2 : tys[t2]? = some (cZ, .boolean)) (ht3 : tys[t3]? = some (cJ, .long)) {qo : Nat} (hq : ¬ A qo) {σ : xS} {f : Nat → Int64} {v1 v2 : Int32} (hv9 : vx_Met l x_i100.1 (x_ws x_i100) th_rm (x_Pc D x_cl tys ad cI cZ x_sh (NW9 A ad adV) [.ref 0, .int v1, .int v2] σ) (th_Qc A) (th_XC D A ad cI cZ σ nIAE) 1 6 A) : Met l yl_disk wl_disk hl_rm (hl_P D tys A ad adV cI cZ qo cJ [.ref (ad 0), .int v1, .int v2, .ref qo] σ f) (hl_Q D A ad cI cZ qo cJ 1 σ f) 1 6 (hl_A A qo) := by
  refine met_of_vx (vx_ofWH (cc := method_7_code) (maxL := 5) (ret := some .int) (hh := [(0, 10, 13, 13)]) (by decide) rfl ?_)
  intro p e s m args below meth c s₁ B hml hv
  obtain ⟨rfl, hP, hK, hN⟩ := hv
  have hx := B.exec
  have hb := B.bytes
  have hr := B.returns
  have hts := atoms_spec (ws := wl_disk) B.pre
  have hown : s.vm.findClass "DeskMachineLaw" = some m.cls := findClass_of_methodNamed B.named
  have hlocks := B.notSynchronized
  have hS : va_S (hl_A A qo) s.heap s.heap [] := va_S.rf
  have hl := lv_entry ([.ref (ad 0), .int v1, .int v2, .ref qo]) (n := 5) (Nat.le_of_ble_eq_true rfl)
  rw [lg_entry_eq]
  generalize (lg_sl ([.ref (ad 0), .int v1, .int v2, .ref qo]) ++ List.replicate (5 - (lg_sl ([.ref (ad 0), .int v1, .int v2, .ref qo])).length) Slot.unset).toArray = ls at hl ⊢
  have hl : lv_has ls 5 [(0, .ref (ad 0)), (1, .int v1), (2, .int v2), (3, .ref qo)] := hl
  refine lv_aload_n hx hb (show decode method_7_code 0 = .ok (.aload_n 3, 1) by decide +kernel) rfl (lv_at hl 3 rfl) ?_
  refine lv_iconst (v := 0) hx hb (show decode method_7_code 1 = .ok (.iconst 0, 1) by decide +kernel) (by decide) ?_
  refine lv_aload_n hx hb (show decode method_7_code 2 = .ok (.aload_n 0, 1) by decide +kernel) rfl (lv_at hl 0 rfl) ?_
  refine lv_iload_n hx hb (show decode method_7_code 3 = .ok (.iload_n 1, 1) by decide +kernel) rfl (lv_at hl 1 rfl) ?_
  refine lv_iload_n hx hb (show decode method_7_code 4 = .ok (.iload_n 2, 1) by decide +kernel) rfl (lv_at hl 2 rfl) ?_
  have hX : th_X A s := hN.2.2.2.2
  have hw : ∀ w ∈ th_W, w.before [.ref (ad 0), .int v1, .int v2, .ref qo].toArray s = true := fun w hw => vx_ot_at (State.WarmedH.refl s) rfl (List.all_eq_true.mp (show th_W.all vx_ot = true by decide +kernel) w hw) (hX.1 w hw)
  refine vx_calli (vx_runV (As := [.int v1, .int v2]) (rest := [.int 0, .ref qo]) (C := "DeskMachine") (b := ad 0) ⟨hx, hb, hml, hown, hts⟩ hv9 ⟨callB_of 2 hts (lw_gi (lw_gx 910 (by decide +kernel))) rfl rfl rfl (hts (.initialized "DeskMachine") (lw_gm 112 (by decide +kernel) rfl)) (hts (.methodLink "DeskMachineLaw" 27 x_i100.1) (lw_gm 907 (by decide +kernel) rfl)) (by decide +kernel) ⟨Nat.le_of_ble_eq_true rfl, Nat.le_of_ble_eq_true rfl⟩, (hts (.instanceMethod x_i100.1) (lw_gm 908 (by decide +kernel) rfl)), (hts (.selects "DeskMachine" x_i100.1 x_i100.1) (lw_gm 909 (by decide +kernel) rfl))⟩ ⟨x_Pc_blind NW9_mv, va_recv hK (xo_l hP) (q0 := 0) rfl rfl, fun U hU hW => ⟨rfl, by rw [hU]; exact xo_l hP, va_K.moved hW.alike hK, NW9_mv s U hN hW (fun z _ _ => by rw [hU])⟩⟩ rfl rfl hl.1 rfl (Nat.le_of_ble_eq_true rfl) (show decode method_7_code 5 = .ok (.invokevirtual 27, 3) by decide +kernel) ⟨Nat.le_of_ble_eq_true rfl, Nat.le_of_ble_eq_true rfl⟩) hS (fun q _ h => Or.inl h) (fun q h => Or.inl h) (fun q _ h => Or.inl h) (fun E ce q9 u t H1 locs1 ht hvm _ hB hsz hk hS hcell hc9 hcl => ?_) (fun r u t H1 locs1 _ _ h9 => False.elim h9)
  obtain ⟨rfl, hP1⟩ := hB
  rw [ht] at hP1
  have hP := xo_new hP hP1 hq hk
  refine vx_catch (name := nIAE) hown [] ⟨0, 10, 13, 13⟩ [] ((vx_table (x := yl_disk) B (hts _ List.mem_cons_self)).trans rfl) (fun z hz => nomatch hz) rfl (by decide) (hw _ (List.mem_append_right _ (List.mem_append_right _ (List.mem_of_getElem? (i := 4) rfl)))) (hw _ (List.mem_append_right _ (List.mem_append_right _ (List.mem_of_getElem? (i := 6) rfl)))) hcell hc9 hcl ?_
  refine lv_astore (nL := 5) hx hb (show decode method_7_code 13 = .ok (.astore 4, 2) by decide +kernel) hl (by decide) rfl (fun ls hl => ?_)
  refine lv_iconst (v := 1) hx hb (show decode method_7_code 15 = .ok (.iconst 1, 1) by decide +kernel) (by decide) ?_
  exact vx_ret (W.iret hx hb hr (fun t ht hW => ⟨rfl, by rw [ht]; exact hP, hS.F ht⟩) hS.2.2 (show decode method_7_code 16 = .ok (.ireturn, 1) by decide +kernel))
def yl_burn : MethodName := ⟨RL, "burn", "(LDeskMachine;III[J)I"⟩
def wl_burn : List Cond := .codeWith yl_burn method_8_code 6 (some .int) [(0, 19, 22, 13)] :: lw_g
set_option maxHeartbeats 4000000 in
set_option maxRecDepth 100000 in
theorem hl_burn {l : Launch} {D : va_G} {tys : List (ClassId × FieldType)} {A : Nat → Prop} {ad adV : Nat → Nat} {cI cZ cJ : ClassId} (hD : ∀ σ : xS, va_D A (x_w ad cI cZ x_sh σ)) {t1 t2 t3 : Nat} (ht1 : tys[t1]? = some (cI, .int)) (ht2 : tys[t2]? = some (cZ, .boolean)) (ht3 : tys[t3]? = some (cJ, .long)) {qo : Nat} (hq : ¬ A qo) {σ : xS} {f : Nat → Int64} {v1 v2 v3 r : Int32} {σ' : xS} {d : Nat} (hx9 : x_M d 101 [.ref 0, .int v1, .int v2, .int v3] σ = some (r, σ')) : Met l yl_burn wl_burn hl_rm (hl_P D tys A ad adV cI cZ qo cJ [.ref (ad 0), .int v1, .int v2, .int v3, .ref qo] σ f) (hl_Q D A ad cI cZ qo cJ 0 σ' (vp_updL f 0 (if r = 0 then 0 else 1))) 1 6 (hl_A A qo) := by
  refine met_of_vx (vx_ofWH (cc := method_8_code) (maxL := 6) (ret := some .int) (hh := [(0, 19, 22, 13)]) (by decide) rfl ?_)
  intro p e s m args below meth c s₁ B hml hv
  obtain ⟨rfl, hP, hK, hN⟩ := hv
  have hx := B.exec
  have hb := B.bytes
  have hr := B.returns
  have hts := atoms_spec (ws := wl_burn) B.pre
  have hown : s.vm.findClass "DeskMachineLaw" = some m.cls := findClass_of_methodNamed B.named
  have hlocks := B.notSynchronized
  have hS : va_S (hl_A A qo) s.heap s.heap [] := va_S.rf
  have hl := lv_entry ([.ref (ad 0), .int v1, .int v2, .int v3, .ref qo]) (n := 6) (Nat.le_of_ble_eq_true rfl)
  rw [lg_entry_eq]
  generalize (lg_sl ([.ref (ad 0), .int v1, .int v2, .int v3, .ref qo]) ++ List.replicate (6 - (lg_sl ([.ref (ad 0), .int v1, .int v2, .int v3, .ref qo])).length) Slot.unset).toArray = ls at hl ⊢
  have hl : lv_has ls 6 [(0, .ref (ad 0)), (1, .int v1), (2, .int v2), (3, .int v3), (4, .ref qo)] := hl
  refine lv_aload hx hb (show decode method_8_code 0 = .ok (.aload 4, 2) by decide +kernel) (lv_at hl 4 rfl) ?_
  refine lv_iconst (v := 0) hx hb (show decode method_8_code 2 = .ok (.iconst 0, 1) by decide +kernel) (by decide) ?_
  refine lv_aload_n hx hb (show decode method_8_code 3 = .ok (.aload_n 0, 1) by decide +kernel) rfl (lv_at hl 0 rfl) ?_
  refine lv_iload_n hx hb (show decode method_8_code 4 = .ok (.iload_n 1, 1) by decide +kernel) rfl (lv_at hl 1 rfl) ?_
  refine lv_iload_n hx hb (show decode method_8_code 5 = .ok (.iload_n 2, 1) by decide +kernel) rfl (lv_at hl 2 rfl) ?_
  refine lv_iload_n hx hb (show decode method_8_code 6 = .ok (.iload_n 3, 1) by decide +kernel) rfl (lv_at hl 3 rfl) ?_
  have hM9 : Met l x_i101.1 (x_ws x_i101) (x_rmo x_i101) (x_Pc D x_cl tys ad cI cZ x_sh (NW9 A ad adV) [.ref 0, .int v1, .int v2, .int v3] σ) (x_Qc D x_cl A ad cI cZ x_sh false (r, σ')) 0 0 A := x_M_ok hD ht1 ht2 d 101 _ _ _ hx9
  refine x_callO (va_runV (As := [.int v1, .int v2, .int v3]) (rest := [.int 0, .ref qo]) (C := "DeskMachine") (b := ad 0) ⟨hx, hb, hml, hown, hts⟩ hM9 ⟨callB_of 3 hts (lw_gi (lw_gx 921 (by decide +kernel))) rfl rfl rfl (hts (.initialized "DeskMachine") (lw_gm 112 (by decide +kernel) rfl)) (hts (.methodLink "DeskMachineLaw" 31 x_i101.1) (lw_gm 918 (by decide +kernel) rfl)) (by decide +kernel) ⟨Nat.le_of_ble_eq_true rfl, Nat.le_of_ble_eq_true rfl⟩, (hts (.instanceMethod x_i101.1) (lw_gm 919 (by decide +kernel) rfl)), (hts (.selects "DeskMachine" x_i101.1 x_i101.1) (lw_gm 920 (by decide +kernel) rfl))⟩ ⟨x_Pc_blind NW9_mv, va_recv hK (xo_l hP) (q0 := 0) rfl rfl, fun U hU hW => ⟨rfl, by rw [hU]; exact xo_l hP, va_K.moved hW.alike hK, NW9_mv s U hN hW (fun z _ _ => by rw [hU])⟩⟩ rfl rfl hl.1 rfl (Nat.le_of_ble_eq_true rfl) (show decode method_8_code 7 = .ok (.invokevirtual 31, 3) by decide +kernel) ⟨Nat.le_of_ble_eq_true rfl, Nat.le_of_ble_eq_true rfl⟩) hP hq hS (fun q h => Or.inl h) (fun H locs hP hS => ?_)
  refine W.eq (g2 := F0 m 10 ls [.int r, .int 0, .ref qo]) rfl ?_
  refine lv_if_eq (tgt := 17) hx hb (show decode method_8_code 10 = .ok (.ifCond .eq 7, 3) by decide +kernel) (by decide) (fun h0 => ?_) (fun h0 => ?_)
  · rw [if_pos h0]
    refine lv_lconst (v := 0) hx hb (show decode method_8_code 17 = .ok (.lconst 0, 1) by decide +kernel) (by decide) ?_
    refine va_last (x := 0) hx hb hK hP (xo_D hD hq) hS 27 t3 rfl ht3 (vp_in_nI (n := 0) (N := 1) (by decide) (by decide)) (show decode method_8_code 18 = .ok (.lastore, 1) by decide +kernel) (fun H locs hP hDx hS => ?_)
    have hP : va_P D x_cl (xo ad cI cZ σ' qo cJ (vp_updL f 0 0)) H := hP
    refine lv_goto (tgt := 26) hx hb (show decode method_8_code 19 = .ok (.goto 7, 3) by decide +kernel) (by decide) ?_
    refine lv_iconst (v := 0) hx hb (show decode method_8_code 26 = .ok (.iconst 0, 1) by decide +kernel) (by decide) ?_
    refine W.widen (k := 1) (n := 6) (by decide) (by decide) ?_
    exact vx_ret (W.iret hx hb hr (fun t ht hW => ⟨rfl, by rw [ht]; exact hP, hS.F ht⟩) hS.2.2 (show decode method_8_code 27 = .ok (.ireturn, 1) by decide +kernel))
  · rw [if_neg h0]
    refine lv_lconst (v := 1) hx hb (show decode method_8_code 13 = .ok (.lconst 1, 1) by decide +kernel) (by decide) ?_
    refine lv_goto (tgt := 18) hx hb (show decode method_8_code 14 = .ok (.goto 4, 3) by decide +kernel) (by decide) ?_
    refine va_last (x := 1) hx hb hK hP (xo_D hD hq) hS 27 t3 rfl ht3 (vp_in_nI (n := 0) (N := 1) (by decide) (by decide)) (show decode method_8_code 18 = .ok (.lastore, 1) by decide +kernel) (fun H locs hP hDx hS => ?_)
    have hP : va_P D x_cl (xo ad cI cZ σ' qo cJ (vp_updL f 0 1)) H := hP
    refine lv_goto (tgt := 26) hx hb (show decode method_8_code 19 = .ok (.goto 7, 3) by decide +kernel) (by decide) ?_
    refine lv_iconst (v := 0) hx hb (show decode method_8_code 26 = .ok (.iconst 0, 1) by decide +kernel) (by decide) ?_
    refine W.widen (k := 1) (n := 6) (by decide) (by decide) ?_
    exact vx_ret (W.iret hx hb hr (fun t ht hW => ⟨rfl, by rw [ht]; exact hP, hS.F ht⟩) hS.2.2 (show decode method_8_code 27 = .ok (.ireturn, 1) by decide +kernel))
set_option maxHeartbeats 4000000 in
set_option maxRecDepth 100000 in
theorem hl_burn_t1 {l : Launch} {D : va_G} {tys : List (ClassId × FieldType)} {A : Nat → Prop} {ad adV : Nat → Nat} {cI cZ cJ : ClassId} (hD : ∀ σ : xS, va_D A (x_w ad cI cZ x_sh σ)) {t1 t2 t3 : Nat} (ht1 : tys[t1]? = some (cI, .int)) (ht2 : tys[t2]? = some (cZ, .boolean)) (ht3 : tys[t3]? = some (cJ, .long)) {qo : Nat} (hq : ¬ A qo) {σ : xS} {f : Nat → Int64} {v1 v2 v3 : Int32} (hv9 : vx_Met l x_i101.1 (x_ws x_i101) th_rm (x_Pc D x_cl tys ad cI cZ x_sh (NW9 A ad adV) [.ref 0, .int v1, .int v2, .int v3] σ) (th_Qc A) (th_XC D A ad cI cZ σ nIAE) 1 6 A) : Met l yl_burn wl_burn hl_rm (hl_P D tys A ad adV cI cZ qo cJ [.ref (ad 0), .int v1, .int v2, .int v3, .ref qo] σ f) (hl_Q D A ad cI cZ qo cJ 1 σ f) 1 6 (hl_A A qo) := by
  refine met_of_vx (vx_ofWH (cc := method_8_code) (maxL := 6) (ret := some .int) (hh := [(0, 19, 22, 13)]) (by decide) rfl ?_)
  intro p e s m args below meth c s₁ B hml hv
  obtain ⟨rfl, hP, hK, hN⟩ := hv
  have hx := B.exec
  have hb := B.bytes
  have hr := B.returns
  have hts := atoms_spec (ws := wl_burn) B.pre
  have hown : s.vm.findClass "DeskMachineLaw" = some m.cls := findClass_of_methodNamed B.named
  have hlocks := B.notSynchronized
  have hS : va_S (hl_A A qo) s.heap s.heap [] := va_S.rf
  have hl := lv_entry ([.ref (ad 0), .int v1, .int v2, .int v3, .ref qo]) (n := 6) (Nat.le_of_ble_eq_true rfl)
  rw [lg_entry_eq]
  generalize (lg_sl ([.ref (ad 0), .int v1, .int v2, .int v3, .ref qo]) ++ List.replicate (6 - (lg_sl ([.ref (ad 0), .int v1, .int v2, .int v3, .ref qo])).length) Slot.unset).toArray = ls at hl ⊢
  have hl : lv_has ls 6 [(0, .ref (ad 0)), (1, .int v1), (2, .int v2), (3, .int v3), (4, .ref qo)] := hl
  refine lv_aload hx hb (show decode method_8_code 0 = .ok (.aload 4, 2) by decide +kernel) (lv_at hl 4 rfl) ?_
  refine lv_iconst (v := 0) hx hb (show decode method_8_code 2 = .ok (.iconst 0, 1) by decide +kernel) (by decide) ?_
  refine lv_aload_n hx hb (show decode method_8_code 3 = .ok (.aload_n 0, 1) by decide +kernel) rfl (lv_at hl 0 rfl) ?_
  refine lv_iload_n hx hb (show decode method_8_code 4 = .ok (.iload_n 1, 1) by decide +kernel) rfl (lv_at hl 1 rfl) ?_
  refine lv_iload_n hx hb (show decode method_8_code 5 = .ok (.iload_n 2, 1) by decide +kernel) rfl (lv_at hl 2 rfl) ?_
  refine lv_iload_n hx hb (show decode method_8_code 6 = .ok (.iload_n 3, 1) by decide +kernel) rfl (lv_at hl 3 rfl) ?_
  have hX : th_X A s := hN.2.2.2.2
  have hw : ∀ w ∈ th_W, w.before [.ref (ad 0), .int v1, .int v2, .int v3, .ref qo].toArray s = true := fun w hw => vx_ot_at (State.WarmedH.refl s) rfl (List.all_eq_true.mp (show th_W.all vx_ot = true by decide +kernel) w hw) (hX.1 w hw)
  refine vx_calli (vx_runV (As := [.int v1, .int v2, .int v3]) (rest := [.int 0, .ref qo]) (C := "DeskMachine") (b := ad 0) ⟨hx, hb, hml, hown, hts⟩ hv9 ⟨callB_of 3 hts (lw_gi (lw_gx 921 (by decide +kernel))) rfl rfl rfl (hts (.initialized "DeskMachine") (lw_gm 112 (by decide +kernel) rfl)) (hts (.methodLink "DeskMachineLaw" 31 x_i101.1) (lw_gm 918 (by decide +kernel) rfl)) (by decide +kernel) ⟨Nat.le_of_ble_eq_true rfl, Nat.le_of_ble_eq_true rfl⟩, (hts (.instanceMethod x_i101.1) (lw_gm 919 (by decide +kernel) rfl)), (hts (.selects "DeskMachine" x_i101.1 x_i101.1) (lw_gm 920 (by decide +kernel) rfl))⟩ ⟨x_Pc_blind NW9_mv, va_recv hK (xo_l hP) (q0 := 0) rfl rfl, fun U hU hW => ⟨rfl, by rw [hU]; exact xo_l hP, va_K.moved hW.alike hK, NW9_mv s U hN hW (fun z _ _ => by rw [hU])⟩⟩ rfl rfl hl.1 rfl (Nat.le_of_ble_eq_true rfl) (show decode method_8_code 7 = .ok (.invokevirtual 31, 3) by decide +kernel) ⟨Nat.le_of_ble_eq_true rfl, Nat.le_of_ble_eq_true rfl⟩) hS (fun q _ h => Or.inl h) (fun q h => Or.inl h) (fun q _ h => Or.inl h) (fun E ce q9 u t H1 locs1 ht hvm _ hB hsz hk hS hcell hc9 hcl => ?_) (fun r u t H1 locs1 _ _ h9 => False.elim h9)
  obtain ⟨rfl, hP1⟩ := hB
  rw [ht] at hP1
  have hP := xo_new hP hP1 hq hk
  refine vx_catch (name := nIAE) hown [] ⟨0, 19, 22, 13⟩ [] ((vx_table (x := yl_burn) B (hts _ List.mem_cons_self)).trans rfl) (fun z hz => nomatch hz) rfl (by decide) (hw _ (List.mem_append_right _ (List.mem_append_right _ (List.mem_of_getElem? (i := 4) rfl)))) (hw _ (List.mem_append_right _ (List.mem_append_right _ (List.mem_of_getElem? (i := 6) rfl)))) hcell hc9 hcl ?_
  refine lv_astore (nL := 6) hx hb (show decode method_8_code 22 = .ok (.astore 5, 2) by decide +kernel) hl (by decide) rfl (fun ls hl => ?_)
  refine lv_iconst (v := 1) hx hb (show decode method_8_code 24 = .ok (.iconst 1, 1) by decide +kernel) (by decide) ?_
  exact vx_ret (W.iret hx hb hr (fun t ht hW => ⟨rfl, by rw [ht]; exact hP, hS.F ht⟩) hS.2.2 (show decode method_8_code 25 = .ok (.ireturn, 1) by decide +kernel))
