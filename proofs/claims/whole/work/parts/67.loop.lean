/-! The law's loop -/
theorem gl_wl {hd : Cond} (k : Nat) (h : lw_tbl[k]? = some hd) (g : goodWord hd = true) : GoodIn lw_tbl (hd :: lw_g) := fun w hw => by
  rcases List.mem_cons.mp hw with rfl | hw
  · exact ⟨List.mem_of_getElem? h, good_of_word g⟩
  · exact ⟨(List.mem_filter.mp hw).1, good_of_word (List.mem_filter.mp hw).2⟩
theorem gl_ws {own : String} {idx : Nat} {y : MethodName} {ws : List Cond} (h : GoodIn lw_tbl ws) (k1 k2 k3 : Nat) (h1 : lw_tbl[k1]? = some (.methodLink own idx y)) (h2 : lw_tbl[k2]? = some (.static y)) (h3 : lw_tbl[k3]? = some (.initialized y.cls)) : GoodIn lw_tbl (va_wsS own idx y ws) := fun w hw => by
  rcases List.mem_append.mp hw with hw | hw
  · rcases List.mem_cons.mp hw with rfl | hw
    · exact ⟨List.mem_of_getElem? h1, good_of_word rfl⟩
    · rcases List.mem_cons.mp hw with rfl | hw
      · exact ⟨List.mem_of_getElem? h2, good_of_word rfl⟩
      · rcases List.mem_cons.mp hw with rfl | hw
        · exact ⟨List.mem_of_getElem? h3, good_of_word rfl⟩
        · cases hw
  · exact h w hw
theorem hl_bl {D : va_G} {tys : List (ClassId × FieldType)} {A : Nat → Prop} {ad adV : Nat → Nat} {cI cZ cJ : ClassId} {qo : Nat} {av : List Value} {σ : xS} {f : Nat → Int64} : FrameBlind (hl_P D tys A ad adV cI cZ qo cJ av σ f) := fun a U g mk h => ⟨h.1, h.2.1, va_K.moved (u := U) (U := U.calling g mk a) (Vm.Alike.refl U.vm) h.2.2.1, NW9_mv U (U.calling g mk a) h.2.2.2 (State.WarmedH.refl U) (fun _ _ _ => rfl)⟩
section LCH
variable {p : Program} {l : Launch} {e : Env} {R : Room} {s : State} {m : MethodId} {args : Array Value} {below : List Frame} {meth : Method} {c : Code} {Q : State → Prop} {H H0 : Heap} {locs : List Loc} {cells slots : Nat}
variable {D : va_G} {A A0 : Nat → Prop} {ad adV : Nat → Nat} {cI cZ cJ : ClassId} {qo : Nat} {σ : xS} {f : Nat → Int64}
theorem lw_callH {pc : Nat} {ls : Array Slot} {st0 rest : List Value} {r : Int32} {a : Array Value} (hr : va_Run p l e R s m args below meth c H locs cells slots 1 6 (F0 m pc ls st0) rest (hl_Q D A ad cI cZ qo cJ r σ f a) (hl_A A qo)) (hS : va_S A0 H0 H locs) (hA : ∀ q, hl_A A qo q → A0 q)
    (kk : ∀ (H1 : Heap) (locs1 : List Loc), va_P D x_cl (xo ad cI cZ σ qo cJ f) H1 → va_S A0 H0 H1 locs1 → W p l e R s m args below meth c H1 locs1 (cells + 1) (slots + 6) Q (F0 m (pc + 3) ls (.int r :: rest))) : W p l e R s m args below meth c H locs cells slots Q (F0 m pc ls st0) := by
  intro T hT X
  obtain ⟨v', st₀, t, T', L, h0, X', hL, e1, e2, ⟨hv, hP1, hz, hk⟩, st⟩ := hr T hT X
  rw [h0] at hz hk
  cases hv
  obtain ⟨t2, a1, b1⟩ := kk T'.heap (locs ++ L) (by rw [e1]; exact hP1) ⟨Nat.le_trans hS.1 (by rw [e1]; exact hz), fun q h1 h2 => by rw [e1, hk q (Nat.lt_of_lt_of_le h1 hS.1) (fun z => h2 (hA q z))]; exact hS.2.1 q h1 h2, fun q hq => by
      rcases List.mem_append.mp hq with h | h
      · exact hS.2.2 q h
      · exact hA _ (hL q h)⟩ T' rfl X'
  exact ⟨t2, st t2 a1, b1⟩
end LCH
theorem lw_gt {L i : Nat} (hL : L ≤ 2048) (hi : i ≤ 4096) : (nI L - (4 : Int32) < nI i) ↔ L < i + 4 := by
  by_cases g : 4 ≤ L
  · have e : nI L - (4 : Int32) = nI (L - 4) := nI_sub (b := 4) g
    rw [e, nI_ltI (by omega) (by omega)]
    omega
  · have h4 : ∀ x, x < 4 → nI x - (4 : Int32) < 0 := by decide
    have h0 : (0 : Int32) ≤ nI i := nI_pos' (by omega)
    exact ⟨fun _ => by omega, fun _ => Int32.lt_of_lt_of_le (h4 L (by omega)) h0⟩
theorem iv_up {c : Nat} {A : aS} (h : Iv c A) : Iv (c + 1) A := by
  obtain ⟨a, b, e, f, g⟩ := h
  exact ⟨a, b, e, by omega, by omega⟩
set_option maxHeartbeats 8000000 in
set_option maxRecDepth 100000 in
theorem lc_key {p : Program} {l : Launch} {e : Env} {s : State} {m : MethodId} {below : List Frame} {meth : Method} {c : Code} {b L : Nat} {xs : Nat → Int32} (hL : L ≤ 2048) (hlt : l.stackTraces = false) (C0 : lw_At p s m meth c b L xs) {D : va_G} {tys : List (ClassId × FieldType)} {A : Nat → Prop} {ad adV : Nat → Nat} {cI cZ cJ : ClassId} (hD : ∀ σ : xS, va_D A (x_w ad cI cZ x_sh σ)) {t1 t2 t3 : Nat} (ht1 : tys[t1]? = some (cI, .int)) (ht2 : tys[t2]? = some (cZ, .boolean)) (ht3 : tys[t3]? = some (cJ, .long)) {qo : Nat} (hq : ¬ A qo) (hAs : ∀ q, A q → s.heap.size ≤ q) (hqs : s.heap.size ≤ qo) (hK : va_K D x_cl tys s) (hN : NW9 (fun q => s.heap.size ≤ q) ad adV s) {k : Nat} (hk : 4 * k + 4 ≤ L) {A9 : aS} {σ : xS} {f : Nat → Int64} {H : Heap} {locs : List Loc} {ls : Array Slot} (hP : va_P D x_cl (xo ad cI cZ σ qo cJ f) H) (hXC : XC A9 σ) (hXM : XM A9 σ) (hiv : Iv k A9) (hS : va_S (fun q => s.heap.size ≤ q) s.heap H locs) (hl : lv_has ls 7 [(4, .int (nI (4 * k))), (0, .ref b), (1, .ref (ad 0)), (2, .ref (ad 19)), (3, .ref qo)]) (next : ∀ (A9 : aS) (σ : xS) (f : Nat → Int64) (H : Heap) (locs : List Loc) (ls : Array Slot), va_P D x_cl (xo ad cI cZ σ qo cJ f) H → XC A9 σ → XM A9 σ → Iv (k + 1) A9 → va_S (fun q => s.heap.size ≤ q) s.heap H locs → lv_has ls 7 [(4, .int (nI (4 * k))), (0, .ref b), (1, .ref (ad 0)), (2, .ref (ad 19)), (3, .ref qo)] → W p l e room_1 s m #[Value.ref b] below meth c H locs (40 + (k + 1)) (3000 + 6 * (k + 1)) (lw_Z below #[Value.ref b] s) (F0 m 561 ls [])) : W p l e room_1 s m #[Value.ref b] below meth c H locs (40 + k) (3000 + 6 * k) (lw_Z below #[Value.ref b] s) (F0 m 88 ls []) := by
  obtain ⟨hx, hb, hr, hml, hown, hts, hX, hbl, hlocks, -⟩ := C0
  have hown : s.vm.findClass "DeskMachineLaw" = some m.cls := hown
  have hbA : ¬ s.heap.size ≤ b := by omega
  have hAh : ∀ q, hl_A A qo q → s.heap.size ≤ q := fun q h => h.elim (hAs q) (fun e => by rw [e]; exact hqs)
  have hcb : 40 + k + 1 ≤ 1059 := by omega
  have hsb : 3000 + 6 * k + 6 ≤ 10883 := by omega
  obtain ⟨t, σ1, f1, r2, σ2, R9, d2, ht, hM, q2, x2, y2, i2, z2, w2⟩ := op_key hlt hD ht1 ht2 ht3 hq (f := f) hXC hXM hiv (xs (4 * k + 1))
  refine lv_aload_n hx hb dL_law_88 rfl (lv_at hl 2 rfl) ?_
  refine lv_aload_n hx hb dL_law_89 rfl (lv_at hl 1 rfl) ?_
  refine lv_iload hx hb dL_law_90 (lv_at hl 0 rfl) ?_
  refine lv_iconst (v := 1) hx hb dL_law_92 (by decide) ?_
  refine lv_iadd hx hb dL_law_93 ?_
  refine lv_topi (fun x9 e9 => ?_)
  have e9 : x9 = nI (4 * k + 1) := e9.trans (nI_add _ 1)
  subst e9
  refine va_sld hx hb hX hbl hbA hS (vp_in_nI (n := 4 * k + 1) (by omega) (by omega)) dL_law_94 ?_
  refine lv_topi (fun x9 e9 => ?_)
  have e9 : x9 = xs (4 * k + 1) := e9.trans (congrArg xs (nI_clamp (by omega)))
  subst e9
  refine lv_aload_n hx hb dL_law_95 rfl (lv_at hl 4 rfl) ?_
  refine lw_callH (vx_runSW (As := [.ref (ad 0), .int (xs (4 * k + 1)), .ref qo]) (rest := []) ⟨hx, hb, hml, hown, hts⟩ hM (vx_cwSW (hh := [(0, 9, 12, 13), (0, 9, 15, 15)]) (bytes := method_3_code) (maxL := 4) (ret := some .int) 3 hts (gl_ws (gl_wl 343 (by decide +kernel) rfl) 341 342 111 (by decide +kernel) (by decide +kernel) (by decide +kernel)) rfl rfl rfl (by decide +kernel) ⟨Nat.le_of_ble_eq_true rfl, Nat.le_of_ble_eq_true rfl⟩) ⟨hl_bl, fun U hU hW => ⟨rfl, by rw [hU]; exact hP, va_K.moved hW.alike hK, NW9_nar (NW9_mv s U hN hW (fun q h1 h2 => by rw [hU]; exact hS.2.1 q h1 h2)) hAs⟩⟩ rfl rfl hl.1 rfl (Nat.le_of_ble_eq_true rfl) dL_law_96 ⟨hcb, hsb⟩) hS hAh (fun H locs hP hS => ?_)
  have hcb : 40 + k + 1 + 0 ≤ 1059 := by omega
  have hsb : 3000 + 6 * k + 6 + 0 ≤ 10883 := by omega
  refine lv_istore (nL := 7) hx hb dL_law_99 hl (by decide) rfl (fun ls hl => ?_)
  have hl : lv_has ls 7 [(5, .int (nI t)), (4, .int (nI (4 * k))), (0, .ref b), (1, .ref (ad 0)), (2, .ref (ad 19)), (3, .ref qo)] := hl
  refine lv_aload_n hx hb dL_law_101 rfl (lv_at hl 4 rfl) ?_
  refine lv_aload_n hx hb dL_law_102 rfl (lv_at hl 2 rfl) ?_
  refine lv_iload hx hb dL_law_103 (lv_at hl 1 rfl) ?_
  refine lv_iconst (v := 1) hx hb dL_law_105 (by decide) ?_
  refine lv_iadd hx hb dL_law_106 ?_
  refine lv_topi (fun x9 e9 => ?_)
  have e9 : x9 = nI (4 * k + 1) := e9.trans (nI_add _ 1)
  subst e9
  refine va_sld hx hb hX hbl hbA hS (vp_in_nI (n := 4 * k + 1) (by omega) (by omega)) dL_law_107 ?_
  refine lv_topi (fun x9 e9 => ?_)
  have e9 : x9 = xs (4 * k + 1) := e9.trans (congrArg xs (nI_clamp (by omega)))
  subst e9
  have hM9 : Met l x_i106.1 (x_ws x_i106) (x_rmo x_i106) (x_Pc D x_cl tys ad cI cZ x_sh (NW9 A ad adV) (.ref 19 :: [.int (xs (4 * k + 1))]) _) (x_Qc D x_cl A ad cI cZ x_sh false _) 0 0 A := x_M_ok hD ht1 ht2 d2 106 _ _ _ q2
  refine x_callO (va_runV (As := [.int (xs (4 * k + 1))]) (rest := []) (C := "DeskMachineModel") (b := ad 19) ⟨hx, hb, hml, hown, hts⟩ hM9 ⟨callB_of 1 hts (lw_gx 1003 (by decide +kernel)) rfl rfl rfl (hts (.initialized "DeskMachineModel") (List.mem_of_getElem? (i := 120) (by decide +kernel))) (hts (.methodLink "DeskMachineLaw" 44 x_i106.1) (List.mem_of_getElem? (i := 1000) (by decide +kernel))) (by decide +kernel) ⟨Nat.le_of_ble_eq_true rfl, Nat.le_of_ble_eq_true rfl⟩, (hts (.instanceMethod x_i106.1) (List.mem_of_getElem? (i := 1001) (by decide +kernel))), (hts (.selects "DeskMachineModel" x_i106.1 x_i106.1) (List.mem_of_getElem? (i := 1002) (by decide +kernel)))⟩ ⟨x_Pc_blind NW9_mv, va_recv hK (xo_l hP) (q0 := 19) rfl rfl, fun U hU hW => ⟨rfl, by rw [hU]; exact xo_l hP, va_K.moved hW.alike hK, NW9_nar (NW9_mv s U hN hW (fun q h1 h2 => by rw [hU]; exact hS.2.1 q h1 h2)) hAs⟩⟩ rfl rfl hl.1 rfl (Nat.le_of_ble_eq_true rfl) dL_law_108 ⟨hcb, hsb⟩) hP hq hS (fun q h => hAs q h) (fun H locs hP hS => ?_)
  refine W.eq (g2 := F0 m 111 ls [.int r2]) rfl ?_
  refine lv_istore (nL := 7) hx hb dL_law_111 hl (by decide) rfl (fun ls hl => ?_)
  have hl : lv_has ls 7 [(6, .int r2), (5, .int (nI t)), (4, .int (nI (4 * k))), (0, .ref b), (1, .ref (ad 0)), (2, .ref (ad 19)), (3, .ref qo)] := hl
  refine lv_aload_n hx hb dL_law_113 rfl (lv_at hl 5 rfl) ?_
  have q3 : x_M 1 171 [.ref 19] σ2 = some (nI t, σ2) := by rw [m171, yv_thr y2, z2]
  have hM9 : Met l x_i171.1 (x_ws x_i171) (x_rmo x_i171) (x_Pc D x_cl tys ad cI cZ x_sh (NW9 A ad adV) (.ref 19 :: []) _) (x_Qc D x_cl A ad cI cZ x_sh false _) 0 0 A := x_M_ok hD ht1 ht2 1 171 _ _ _ q3
  refine x_callO (va_runV (As := []) (rest := []) (C := "DeskMachineModel") (b := ad 19) ⟨hx, hb, hml, hown, hts⟩ hM9 ⟨callB_of 0 hts (lw_gx 999 (by decide +kernel)) rfl rfl rfl (hts (.initialized "DeskMachineModel") (List.mem_of_getElem? (i := 120) (by decide +kernel))) (hts (.methodLink "DeskMachineLaw" 45 x_i171.1) (List.mem_of_getElem? (i := 996) (by decide +kernel))) (by decide +kernel) ⟨Nat.le_of_ble_eq_true rfl, Nat.le_of_ble_eq_true rfl⟩, (hts (.instanceMethod x_i171.1) (List.mem_of_getElem? (i := 997) (by decide +kernel))), (hts (.selects "DeskMachineModel" x_i171.1 x_i171.1) (List.mem_of_getElem? (i := 998) (by decide +kernel)))⟩ ⟨x_Pc_blind NW9_mv, va_recv hK (xo_l hP) (q0 := 19) rfl rfl, fun U hU hW => ⟨rfl, by rw [hU]; exact xo_l hP, va_K.moved hW.alike hK, NW9_nar (NW9_mv s U hN hW (fun q h1 h2 => by rw [hU]; exact hS.2.1 q h1 h2)) hAs⟩⟩ rfl rfl hl.1 rfl (Nat.le_of_ble_eq_true rfl) dL_law_114 ⟨hcb, hsb⟩) hP hq hS (fun q h => hAs q h) (fun H locs hP hS => ?_)
  refine W.eq (g2 := F0 m 117 ls [.int (nI t)]) rfl ?_
  refine lv_iload hx hb dL_law_117 (lv_at hl 1 rfl) ?_
  refine lv_icmp_eq (tgt := 124) hx hb dL_law_119 (by decide) (fun _ => ?_) (fun h9 => absurd rfl h9)
  refine lv_iload hx hb dL_law_124 (lv_at hl 1 rfl) ?_
  have fin : ∀ (H : Heap) (locs : List Loc), va_P D x_cl (xo ad cI cZ σ2 qo cJ f1) H → va_S (fun q => s.heap.size ≤ q) s.heap H locs → W p l e room_1 s m #[Value.ref b] below meth c H locs (40 + k + 1) (3000 + 6 * k + 6) (lw_Z below #[Value.ref b] s) (F0 m 141 ls []) := fun H locs hP hS => by
    refine lv_goto (tgt := 561) hx hb dL_law_141 (by decide) ?_
    refine W.widen (k := 40 + (k + 1)) (n := 3000 + 6 * (k + 1)) (by omega) (by omega) ?_
    exact next R9 σ2 f1 H locs ls hP x2 y2 i2 hS (lv_sub hl [2, 3, 4, 5, 6] rfl)
  refine lv_if_ne (tgt := 141) hx hb dL_law_126 (by decide) (fun _ => fin H locs hP hS) (fun h0 => ?_)
  have t0 : t = 0 := (nI_eq (b := 0) (by omega) (by omega)).mp h0
  have w2 := w2 t0
  refine lv_aload_n hx hb dL_law_129 rfl (lv_at hl 6 rfl) ?_
  refine lv_iconst (v := 0) hx hb dL_law_130 (by decide) ?_
  refine va_lald hx hb hK hP 27 t3 rfl ht3 (vp_in_nI (n := 0) (N := 1) (by decide) (by decide)) dL_law_131 ?_
  refine lv_topl (fun z9 e9 => ?_)
  have e9 : z9 = L_i r2 := (e9.trans (congrArg f1 (by decide))).trans w2
  refine lv_iload hx hb dL_law_132 (lv_at hl 0 rfl) ?_
  refine lv_i2l (v := r2.toInt64) hx hb dL_law_134 rfl ?_
  refine W.lcmp hx hb dL_law_135 ?_
  refine lv_if_eq (tgt := 141) hx hb dL_law_136 (by decide) (fun _ => fin H locs hP hS) (fun h9 => absurd ((lg_cmp_eq _ _).mpr e9) h9)
set_option maxHeartbeats 8000000 in
set_option maxRecDepth 100000 in
theorem lc_run {p : Program} {l : Launch} {e : Env} {s : State} {m : MethodId} {below : List Frame} {meth : Method} {c : Code} {b L : Nat} {xs : Nat → Int32} (hL : L ≤ 2048) (hlt : l.stackTraces = false) (C0 : lw_At p s m meth c b L xs) {D : va_G} {tys : List (ClassId × FieldType)} {A : Nat → Prop} {ad adV : Nat → Nat} {cI cZ cJ : ClassId} (hD : ∀ σ : xS, va_D A (x_w ad cI cZ x_sh σ)) {t1 t2 t3 : Nat} (ht1 : tys[t1]? = some (cI, .int)) (ht2 : tys[t2]? = some (cZ, .boolean)) (ht3 : tys[t3]? = some (cJ, .long)) {qo : Nat} (hq : ¬ A qo) (hAs : ∀ q, A q → s.heap.size ≤ q) (hqs : s.heap.size ≤ qo) (hK : va_K D x_cl tys s) (hN : NW9 (fun q => s.heap.size ≤ q) ad adV s) {k : Nat} (hk : 4 * k + 4 ≤ L) {A9 : aS} {σ : xS} {f : Nat → Int64} {H : Heap} {locs : List Loc} {ls : Array Slot} (hP : va_P D x_cl (xo ad cI cZ σ qo cJ f) H) (hXC : XC A9 σ) (hXM : XM A9 σ) (hiv : Iv k A9) (hS : va_S (fun q => s.heap.size ≤ q) s.heap H locs) (hl : lv_has ls 7 [(4, .int (nI (4 * k))), (0, .ref b), (1, .ref (ad 0)), (2, .ref (ad 19)), (3, .ref qo)]) (next : ∀ (A9 : aS) (σ : xS) (f : Nat → Int64) (H : Heap) (locs : List Loc) (ls : Array Slot), va_P D x_cl (xo ad cI cZ σ qo cJ f) H → XC A9 σ → XM A9 σ → Iv (k + 1) A9 → va_S (fun q => s.heap.size ≤ q) s.heap H locs → lv_has ls 7 [(4, .int (nI (4 * k))), (0, .ref b), (1, .ref (ad 0)), (2, .ref (ad 19)), (3, .ref qo)] → W p l e room_1 s m #[Value.ref b] below meth c H locs (40 + (k + 1)) (3000 + 6 * (k + 1)) (lw_Z below #[Value.ref b] s) (F0 m 561 ls [])) : W p l e room_1 s m #[Value.ref b] below meth c H locs (40 + k) (3000 + 6 * k) (lw_Z below #[Value.ref b] s) (F0 m 144 ls []) := by
  obtain ⟨hx, hb, hr, hml, hown, hts, hX, hbl, hlocks, -⟩ := C0
  have hown : s.vm.findClass "DeskMachineLaw" = some m.cls := hown
  have hbA : ¬ s.heap.size ≤ b := by omega
  have hAh : ∀ q, hl_A A qo q → s.heap.size ≤ q := fun q h => h.elim (hAs q) (fun e => by rw [e]; exact hqs)
  have hcb : 40 + k + 1 ≤ 1059 := by omega
  have hsb : 3000 + 6 * k + 6 ≤ 10883 := by omega
  obtain ⟨t, σ1, f1, r2, σ2, R9, d2, ht, hM, q2, x2, y2, i2, z2, w2⟩ := op_run hlt hD ht1 ht2 ht3 hq (f := f) hXC hXM hiv (by omega) (xs (4 * k + 1))
  refine lv_aload_n hx hb dL_law_144 rfl (lv_at hl 2 rfl) ?_
  refine lv_aload_n hx hb dL_law_145 rfl (lv_at hl 1 rfl) ?_
  refine lv_iload hx hb dL_law_146 (lv_at hl 0 rfl) ?_
  refine lv_iconst (v := 1) hx hb dL_law_148 (by decide) ?_
  refine lv_iadd hx hb dL_law_149 ?_
  refine lv_topi (fun x9 e9 => ?_)
  have e9 : x9 = nI (4 * k + 1) := e9.trans (nI_add _ 1)
  subst e9
  refine va_sld hx hb hX hbl hbA hS (vp_in_nI (n := 4 * k + 1) (by omega) (by omega)) dL_law_150 ?_
  refine lv_topi (fun x9 e9 => ?_)
  have e9 : x9 = xs (4 * k + 1) := e9.trans (congrArg xs (nI_clamp (by omega)))
  subst e9
  refine lv_aload_n hx hb dL_law_151 rfl (lv_at hl 4 rfl) ?_
  refine lw_callH (vx_runSW (As := [.ref (ad 0), .int (xs (4 * k + 1)), .ref qo]) (rest := []) ⟨hx, hb, hml, hown, hts⟩ hM (vx_cwSW (hh := [(0, 9, 12, 13)]) (bytes := method_4_code) (maxL := 4) (ret := some .int) 3 hts (gl_ws (gl_wl 440 (by decide +kernel) rfl) 438 439 111 (by decide +kernel) (by decide +kernel) (by decide +kernel)) rfl rfl rfl (by decide +kernel) ⟨Nat.le_of_ble_eq_true rfl, Nat.le_of_ble_eq_true rfl⟩) ⟨hl_bl, fun U hU hW => ⟨rfl, by rw [hU]; exact hP, va_K.moved hW.alike hK, NW9_nar (NW9_mv s U hN hW (fun q h1 h2 => by rw [hU]; exact hS.2.1 q h1 h2)) hAs⟩⟩ rfl rfl hl.1 rfl (Nat.le_of_ble_eq_true rfl) dL_law_152 ⟨hcb, hsb⟩) hS hAh (fun H locs hP hS => ?_)
  have hcb : 40 + k + 1 + 0 ≤ 1059 := by omega
  have hsb : 3000 + 6 * k + 6 + 0 ≤ 10883 := by omega
  refine lv_istore (nL := 7) hx hb dL_law_155 hl (by decide) rfl (fun ls hl => ?_)
  have hl : lv_has ls 7 [(5, .int (nI t)), (4, .int (nI (4 * k))), (0, .ref b), (1, .ref (ad 0)), (2, .ref (ad 19)), (3, .ref qo)] := hl
  refine lv_aload_n hx hb dL_law_157 rfl (lv_at hl 4 rfl) ?_
  refine lv_aload_n hx hb dL_law_158 rfl (lv_at hl 2 rfl) ?_
  refine lv_iload hx hb dL_law_159 (lv_at hl 1 rfl) ?_
  refine lv_iconst (v := 1) hx hb dL_law_161 (by decide) ?_
  refine lv_iadd hx hb dL_law_162 ?_
  refine lv_topi (fun x9 e9 => ?_)
  have e9 : x9 = nI (4 * k + 1) := e9.trans (nI_add _ 1)
  subst e9
  refine va_sld hx hb hX hbl hbA hS (vp_in_nI (n := 4 * k + 1) (by omega) (by omega)) dL_law_163 ?_
  refine lv_topi (fun x9 e9 => ?_)
  have e9 : x9 = xs (4 * k + 1) := e9.trans (congrArg xs (nI_clamp (by omega)))
  subst e9
  have hM9 : Met l x_i161.1 (x_ws x_i161) (x_rmo x_i161) (x_Pc D x_cl tys ad cI cZ x_sh (NW9 A ad adV) (.ref 19 :: [.int (xs (4 * k + 1))]) _) (x_Qc D x_cl A ad cI cZ x_sh false _) 0 0 A := x_M_ok hD ht1 ht2 d2 161 _ _ _ q2
  refine x_callO (va_runV (As := [.int (xs (4 * k + 1))]) (rest := []) (C := "DeskMachineModel") (b := ad 19) ⟨hx, hb, hml, hown, hts⟩ hM9 ⟨callB_of 1 hts (lw_gx 1007 (by decide +kernel)) rfl rfl rfl (hts (.initialized "DeskMachineModel") (List.mem_of_getElem? (i := 120) (by decide +kernel))) (hts (.methodLink "DeskMachineLaw" 51 x_i161.1) (List.mem_of_getElem? (i := 1004) (by decide +kernel))) (by decide +kernel) ⟨Nat.le_of_ble_eq_true rfl, Nat.le_of_ble_eq_true rfl⟩, (hts (.instanceMethod x_i161.1) (List.mem_of_getElem? (i := 1005) (by decide +kernel))), (hts (.selects "DeskMachineModel" x_i161.1 x_i161.1) (List.mem_of_getElem? (i := 1006) (by decide +kernel)))⟩ ⟨x_Pc_blind NW9_mv, va_recv hK (xo_l hP) (q0 := 19) rfl rfl, fun U hU hW => ⟨rfl, by rw [hU]; exact xo_l hP, va_K.moved hW.alike hK, NW9_nar (NW9_mv s U hN hW (fun q h1 h2 => by rw [hU]; exact hS.2.1 q h1 h2)) hAs⟩⟩ rfl rfl hl.1 rfl (Nat.le_of_ble_eq_true rfl) dL_law_164 ⟨hcb, hsb⟩) hP hq hS (fun q h => hAs q h) (fun H locs hP hS => ?_)
  refine W.eq (g2 := F0 m 167 ls [.int r2]) rfl ?_
  refine lv_istore (nL := 7) hx hb dL_law_167 hl (by decide) rfl (fun ls hl => ?_)
  have hl : lv_has ls 7 [(6, .int r2), (5, .int (nI t)), (4, .int (nI (4 * k))), (0, .ref b), (1, .ref (ad 0)), (2, .ref (ad 19)), (3, .ref qo)] := hl
  refine lv_aload_n hx hb dL_law_169 rfl (lv_at hl 5 rfl) ?_
  have q3 : x_M 1 171 [.ref 19] σ2 = some (nI t, σ2) := by rw [m171, yv_thr y2, z2]
  have hM9 : Met l x_i171.1 (x_ws x_i171) (x_rmo x_i171) (x_Pc D x_cl tys ad cI cZ x_sh (NW9 A ad adV) (.ref 19 :: []) _) (x_Qc D x_cl A ad cI cZ x_sh false _) 0 0 A := x_M_ok hD ht1 ht2 1 171 _ _ _ q3
  refine x_callO (va_runV (As := []) (rest := []) (C := "DeskMachineModel") (b := ad 19) ⟨hx, hb, hml, hown, hts⟩ hM9 ⟨callB_of 0 hts (lw_gx 999 (by decide +kernel)) rfl rfl rfl (hts (.initialized "DeskMachineModel") (List.mem_of_getElem? (i := 120) (by decide +kernel))) (hts (.methodLink "DeskMachineLaw" 45 x_i171.1) (List.mem_of_getElem? (i := 996) (by decide +kernel))) (by decide +kernel) ⟨Nat.le_of_ble_eq_true rfl, Nat.le_of_ble_eq_true rfl⟩, (hts (.instanceMethod x_i171.1) (List.mem_of_getElem? (i := 997) (by decide +kernel))), (hts (.selects "DeskMachineModel" x_i171.1 x_i171.1) (List.mem_of_getElem? (i := 998) (by decide +kernel)))⟩ ⟨x_Pc_blind NW9_mv, va_recv hK (xo_l hP) (q0 := 19) rfl rfl, fun U hU hW => ⟨rfl, by rw [hU]; exact xo_l hP, va_K.moved hW.alike hK, NW9_nar (NW9_mv s U hN hW (fun q h1 h2 => by rw [hU]; exact hS.2.1 q h1 h2)) hAs⟩⟩ rfl rfl hl.1 rfl (Nat.le_of_ble_eq_true rfl) dL_law_170 ⟨hcb, hsb⟩) hP hq hS (fun q h => hAs q h) (fun H locs hP hS => ?_)
  refine W.eq (g2 := F0 m 173 ls [.int (nI t)]) rfl ?_
  refine lv_iload hx hb dL_law_173 (lv_at hl 1 rfl) ?_
  refine lv_icmp_eq (tgt := 180) hx hb dL_law_175 (by decide) (fun _ => ?_) (fun h9 => absurd rfl h9)
  refine lv_iload hx hb dL_law_180 (lv_at hl 1 rfl) ?_
  have fin : ∀ (H : Heap) (locs : List Loc), va_P D x_cl (xo ad cI cZ σ2 qo cJ f1) H → va_S (fun q => s.heap.size ≤ q) s.heap H locs → W p l e room_1 s m #[Value.ref b] below meth c H locs (40 + k + 1) (3000 + 6 * k + 6) (lw_Z below #[Value.ref b] s) (F0 m 197 ls []) := fun H locs hP hS => by
    refine lv_goto (tgt := 561) hx hb dL_law_197 (by decide) ?_
    refine W.widen (k := 40 + (k + 1)) (n := 3000 + 6 * (k + 1)) (by omega) (by omega) ?_
    exact next R9 σ2 f1 H locs ls hP x2 y2 i2 hS (lv_sub hl [2, 3, 4, 5, 6] rfl)
  refine lv_if_ne (tgt := 197) hx hb dL_law_182 (by decide) (fun _ => fin H locs hP hS) (fun h0 => ?_)
  have t0 : t = 0 := (nI_eq (b := 0) (by omega) (by omega)).mp h0
  have w2 := w2 t0
  refine lv_aload_n hx hb dL_law_185 rfl (lv_at hl 6 rfl) ?_
  refine lv_iconst (v := 0) hx hb dL_law_186 (by decide) ?_
  refine va_lald hx hb hK hP 27 t3 rfl ht3 (vp_in_nI (n := 0) (N := 1) (by decide) (by decide)) dL_law_187 ?_
  refine lv_topl (fun z9 e9 => ?_)
  have e9 : z9 = L_i r2 := (e9.trans (congrArg f1 (by decide))).trans w2
  refine lv_iload hx hb dL_law_188 (lv_at hl 0 rfl) ?_
  refine lv_i2l (v := r2.toInt64) hx hb dL_law_190 rfl ?_
  refine W.lcmp hx hb dL_law_191 ?_
  refine lv_if_eq (tgt := 197) hx hb dL_law_192 (by decide) (fun _ => fin H locs hP hS) (fun h9 => absurd ((lg_cmp_eq _ _).mpr e9) h9)
set_option maxHeartbeats 8000000 in
set_option maxRecDepth 100000 in
theorem lc_poke {p : Program} {l : Launch} {e : Env} {s : State} {m : MethodId} {below : List Frame} {meth : Method} {c : Code} {b L : Nat} {xs : Nat → Int32} (hL : L ≤ 2048) (hlt : l.stackTraces = false) (C0 : lw_At p s m meth c b L xs) {D : va_G} {tys : List (ClassId × FieldType)} {A : Nat → Prop} {ad adV : Nat → Nat} {cI cZ cJ : ClassId} (hD : ∀ σ : xS, va_D A (x_w ad cI cZ x_sh σ)) {t1 t2 t3 : Nat} (ht1 : tys[t1]? = some (cI, .int)) (ht2 : tys[t2]? = some (cZ, .boolean)) (ht3 : tys[t3]? = some (cJ, .long)) {qo : Nat} (hq : ¬ A qo) (hAs : ∀ q, A q → s.heap.size ≤ q) (hqs : s.heap.size ≤ qo) (hK : va_K D x_cl tys s) (hN : NW9 (fun q => s.heap.size ≤ q) ad adV s) {k : Nat} (hk : 4 * k + 4 ≤ L) {A9 : aS} {σ : xS} {f : Nat → Int64} {H : Heap} {locs : List Loc} {ls : Array Slot} (hP : va_P D x_cl (xo ad cI cZ σ qo cJ f) H) (hXC : XC A9 σ) (hXM : XM A9 σ) (hiv : Iv k A9) (hS : va_S (fun q => s.heap.size ≤ q) s.heap H locs) (hl : lv_has ls 7 [(4, .int (nI (4 * k))), (0, .ref b), (1, .ref (ad 0)), (2, .ref (ad 19)), (3, .ref qo)]) (next : ∀ (A9 : aS) (σ : xS) (f : Nat → Int64) (H : Heap) (locs : List Loc) (ls : Array Slot), va_P D x_cl (xo ad cI cZ σ qo cJ f) H → XC A9 σ → XM A9 σ → Iv (k + 1) A9 → va_S (fun q => s.heap.size ≤ q) s.heap H locs → lv_has ls 7 [(4, .int (nI (4 * k))), (0, .ref b), (1, .ref (ad 0)), (2, .ref (ad 19)), (3, .ref qo)] → W p l e room_1 s m #[Value.ref b] below meth c H locs (40 + (k + 1)) (3000 + 6 * (k + 1)) (lw_Z below #[Value.ref b] s) (F0 m 561 ls [])) : W p l e room_1 s m #[Value.ref b] below meth c H locs (40 + k) (3000 + 6 * k) (lw_Z below #[Value.ref b] s) (F0 m 200 ls []) := by
  obtain ⟨hx, hb, hr, hml, hown, hts, hX, hbl, hlocks, -⟩ := C0
  have hown : s.vm.findClass "DeskMachineLaw" = some m.cls := hown
  have hbA : ¬ s.heap.size ≤ b := by omega
  have hAh : ∀ q, hl_A A qo q → s.heap.size ≤ q := fun q h => h.elim (hAs q) (fun e => by rw [e]; exact hqs)
  have hcb : 40 + k + 1 ≤ 1059 := by omega
  have hsb : 3000 + 6 * k + 6 ≤ 10883 := by omega
  obtain ⟨t, σ1, f1, r2, σ2, R9, d2, ht, hM, q2, x2, y2, i2, z2, w2⟩ := op_poke hlt hD ht1 ht2 ht3 hq (f := f) hXC hXM hiv (xs (4 * k + 1)) (xs (4 * k + 2))
  refine lv_aload_n hx hb dL_law_200 rfl (lv_at hl 2 rfl) ?_
  refine lv_aload_n hx hb dL_law_201 rfl (lv_at hl 1 rfl) ?_
  refine lv_iload hx hb dL_law_202 (lv_at hl 0 rfl) ?_
  refine lv_iconst (v := 1) hx hb dL_law_204 (by decide) ?_
  refine lv_iadd hx hb dL_law_205 ?_
  refine lv_topi (fun x9 e9 => ?_)
  have e9 : x9 = nI (4 * k + 1) := e9.trans (nI_add _ 1)
  subst e9
  refine va_sld hx hb hX hbl hbA hS (vp_in_nI (n := 4 * k + 1) (by omega) (by omega)) dL_law_206 ?_
  refine lv_topi (fun x9 e9 => ?_)
  have e9 : x9 = xs (4 * k + 1) := e9.trans (congrArg xs (nI_clamp (by omega)))
  subst e9
  refine lv_aload_n hx hb dL_law_207 rfl (lv_at hl 1 rfl) ?_
  refine lv_iload hx hb dL_law_208 (lv_at hl 0 rfl) ?_
  refine lv_iconst (v := 2) hx hb dL_law_210 (by decide) ?_
  refine lv_iadd hx hb dL_law_211 ?_
  refine lv_topi (fun x9 e9 => ?_)
  have e9 : x9 = nI (4 * k + 2) := e9.trans (nI_add _ 2)
  subst e9
  refine va_sld hx hb hX hbl hbA hS (vp_in_nI (n := 4 * k + 2) (by omega) (by omega)) dL_law_212 ?_
  refine lv_topi (fun x9 e9 => ?_)
  have e9 : x9 = xs (4 * k + 2) := e9.trans (congrArg xs (nI_clamp (by omega)))
  subst e9
  refine lv_aload_n hx hb dL_law_213 rfl (lv_at hl 4 rfl) ?_
  refine lw_callH (vx_runSW (As := [.ref (ad 0), .int (xs (4 * k + 1)), .int (xs (4 * k + 2)), .ref qo]) (rest := []) ⟨hx, hb, hml, hown, hts⟩ hM (vx_cwSW (hh := [(0, 17, 20, 13)]) (bytes := method_5_code) (maxL := 5) (ret := some .int) 4 hts (gl_ws (gl_wl 888 (by decide +kernel) rfl) 886 887 111 (by decide +kernel) (by decide +kernel) (by decide +kernel)) rfl rfl rfl (by decide +kernel) ⟨Nat.le_of_ble_eq_true rfl, Nat.le_of_ble_eq_true rfl⟩) ⟨hl_bl, fun U hU hW => ⟨rfl, by rw [hU]; exact hP, va_K.moved hW.alike hK, NW9_nar (NW9_mv s U hN hW (fun q h1 h2 => by rw [hU]; exact hS.2.1 q h1 h2)) hAs⟩⟩ rfl rfl hl.1 rfl (Nat.le_of_ble_eq_true rfl) dL_law_214 ⟨hcb, hsb⟩) hS hAh (fun H locs hP hS => ?_)
  have hcb : 40 + k + 1 + 0 ≤ 1059 := by omega
  have hsb : 3000 + 6 * k + 6 + 0 ≤ 10883 := by omega
  refine lv_istore (nL := 7) hx hb dL_law_217 hl (by decide) rfl (fun ls hl => ?_)
  have hl : lv_has ls 7 [(5, .int (nI t)), (4, .int (nI (4 * k))), (0, .ref b), (1, .ref (ad 0)), (2, .ref (ad 19)), (3, .ref qo)] := hl
  refine lv_aload_n hx hb dL_law_219 rfl (lv_at hl 4 rfl) ?_
  refine lv_aload_n hx hb dL_law_220 rfl (lv_at hl 2 rfl) ?_
  refine lv_iload hx hb dL_law_221 (lv_at hl 1 rfl) ?_
  refine lv_iconst (v := 1) hx hb dL_law_223 (by decide) ?_
  refine lv_iadd hx hb dL_law_224 ?_
  refine lv_topi (fun x9 e9 => ?_)
  have e9 : x9 = nI (4 * k + 1) := e9.trans (nI_add _ 1)
  subst e9
  refine va_sld hx hb hX hbl hbA hS (vp_in_nI (n := 4 * k + 1) (by omega) (by omega)) dL_law_225 ?_
  refine lv_topi (fun x9 e9 => ?_)
  have e9 : x9 = xs (4 * k + 1) := e9.trans (congrArg xs (nI_clamp (by omega)))
  subst e9
  refine lv_aload_n hx hb dL_law_226 rfl (lv_at hl 2 rfl) ?_
  refine lv_iload hx hb dL_law_227 (lv_at hl 1 rfl) ?_
  refine lv_iconst (v := 2) hx hb dL_law_229 (by decide) ?_
  refine lv_iadd hx hb dL_law_230 ?_
  refine lv_topi (fun x9 e9 => ?_)
  have e9 : x9 = nI (4 * k + 2) := e9.trans (nI_add _ 2)
  subst e9
  refine va_sld hx hb hX hbl hbA hS (vp_in_nI (n := 4 * k + 2) (by omega) (by omega)) dL_law_231 ?_
  refine lv_topi (fun x9 e9 => ?_)
  have e9 : x9 = xs (4 * k + 2) := e9.trans (congrArg xs (nI_clamp (by omega)))
  subst e9
  have hM9 : Met l x_i163.1 (x_ws x_i163) (x_rmo x_i163) (x_Pc D x_cl tys ad cI cZ x_sh (NW9 A ad adV) (.ref 19 :: [.int (xs (4 * k + 1)), .int (xs (4 * k + 2))]) _) (x_Qc D x_cl A ad cI cZ x_sh false _) 0 0 A := x_M_ok hD ht1 ht2 d2 163 _ _ _ q2
  refine x_callO (va_runV (As := [.int (xs (4 * k + 1)), .int (xs (4 * k + 2))]) (rest := []) (C := "DeskMachineModel") (b := ad 19) ⟨hx, hb, hml, hown, hts⟩ hM9 ⟨callB_of 2 hts (lw_gx 1226 (by decide +kernel)) rfl rfl rfl (hts (.initialized "DeskMachineModel") (List.mem_of_getElem? (i := 120) (by decide +kernel))) (hts (.methodLink "DeskMachineLaw" 55 x_i163.1) (List.mem_of_getElem? (i := 1223) (by decide +kernel))) (by decide +kernel) ⟨Nat.le_of_ble_eq_true rfl, Nat.le_of_ble_eq_true rfl⟩, (hts (.instanceMethod x_i163.1) (List.mem_of_getElem? (i := 1224) (by decide +kernel))), (hts (.selects "DeskMachineModel" x_i163.1 x_i163.1) (List.mem_of_getElem? (i := 1225) (by decide +kernel)))⟩ ⟨x_Pc_blind NW9_mv, va_recv hK (xo_l hP) (q0 := 19) rfl rfl, fun U hU hW => ⟨rfl, by rw [hU]; exact xo_l hP, va_K.moved hW.alike hK, NW9_nar (NW9_mv s U hN hW (fun q h1 h2 => by rw [hU]; exact hS.2.1 q h1 h2)) hAs⟩⟩ rfl rfl hl.1 rfl (Nat.le_of_ble_eq_true rfl) dL_law_232 ⟨hcb, hsb⟩) hP hq hS (fun q h => hAs q h) (fun H locs hP hS => ?_)
  refine W.eq (g2 := F0 m 235 ls [.int r2]) rfl ?_
  refine lv_istore (nL := 7) hx hb dL_law_235 hl (by decide) rfl (fun ls hl => ?_)
  have hl : lv_has ls 7 [(6, .int r2), (5, .int (nI t)), (4, .int (nI (4 * k))), (0, .ref b), (1, .ref (ad 0)), (2, .ref (ad 19)), (3, .ref qo)] := hl
  refine lv_aload_n hx hb dL_law_237 rfl (lv_at hl 5 rfl) ?_
  have q3 : x_M 1 171 [.ref 19] σ2 = some (nI t, σ2) := by rw [m171, yv_thr y2, z2]
  have hM9 : Met l x_i171.1 (x_ws x_i171) (x_rmo x_i171) (x_Pc D x_cl tys ad cI cZ x_sh (NW9 A ad adV) (.ref 19 :: []) _) (x_Qc D x_cl A ad cI cZ x_sh false _) 0 0 A := x_M_ok hD ht1 ht2 1 171 _ _ _ q3
  refine x_callO (va_runV (As := []) (rest := []) (C := "DeskMachineModel") (b := ad 19) ⟨hx, hb, hml, hown, hts⟩ hM9 ⟨callB_of 0 hts (lw_gx 999 (by decide +kernel)) rfl rfl rfl (hts (.initialized "DeskMachineModel") (List.mem_of_getElem? (i := 120) (by decide +kernel))) (hts (.methodLink "DeskMachineLaw" 45 x_i171.1) (List.mem_of_getElem? (i := 996) (by decide +kernel))) (by decide +kernel) ⟨Nat.le_of_ble_eq_true rfl, Nat.le_of_ble_eq_true rfl⟩, (hts (.instanceMethod x_i171.1) (List.mem_of_getElem? (i := 997) (by decide +kernel))), (hts (.selects "DeskMachineModel" x_i171.1 x_i171.1) (List.mem_of_getElem? (i := 998) (by decide +kernel)))⟩ ⟨x_Pc_blind NW9_mv, va_recv hK (xo_l hP) (q0 := 19) rfl rfl, fun U hU hW => ⟨rfl, by rw [hU]; exact xo_l hP, va_K.moved hW.alike hK, NW9_nar (NW9_mv s U hN hW (fun q h1 h2 => by rw [hU]; exact hS.2.1 q h1 h2)) hAs⟩⟩ rfl rfl hl.1 rfl (Nat.le_of_ble_eq_true rfl) dL_law_238 ⟨hcb, hsb⟩) hP hq hS (fun q h => hAs q h) (fun H locs hP hS => ?_)
  refine W.eq (g2 := F0 m 241 ls [.int (nI t)]) rfl ?_
  refine lv_iload hx hb dL_law_241 (lv_at hl 1 rfl) ?_
  refine lv_icmp_eq (tgt := 248) hx hb dL_law_243 (by decide) (fun _ => ?_) (fun h9 => absurd rfl h9)
  refine lv_iload hx hb dL_law_248 (lv_at hl 1 rfl) ?_
  have fin : ∀ (H : Heap) (locs : List Loc), va_P D x_cl (xo ad cI cZ σ2 qo cJ f1) H → va_S (fun q => s.heap.size ≤ q) s.heap H locs → W p l e room_1 s m #[Value.ref b] below meth c H locs (40 + k + 1) (3000 + 6 * k + 6) (lw_Z below #[Value.ref b] s) (F0 m 272 ls []) := fun H locs hP hS => by
    refine lv_goto (tgt := 561) hx hb dL_law_272 (by decide) ?_
    refine W.widen (k := 40 + (k + 1)) (n := 3000 + 6 * (k + 1)) (by omega) (by omega) ?_
    exact next R9 σ2 f1 H locs ls hP x2 y2 i2 hS (lv_sub hl [2, 3, 4, 5, 6] rfl)
  refine lv_if_ne (tgt := 272) hx hb dL_law_250 (by decide) (fun _ => fin H locs hP hS) (fun h0 => ?_)
  have t0 : t = 0 := (nI_eq (b := 0) (by omega) (by omega)).mp h0
  have w2 := w2 t0
  refine lv_aload_n hx hb dL_law_253 rfl (lv_at hl 6 rfl) ?_
  refine lv_iconst (v := 0) hx hb dL_law_254 (by decide) ?_
  refine va_lald hx hb hK hP 27 t3 rfl ht3 (vp_in_nI (n := 0) (N := 1) (by decide) (by decide)) dL_law_255 ?_
  refine lv_topl (fun z9 e9 => ?_)
  have e9 : z9 = L_b r2 := (e9.trans (congrArg f1 (by decide))).trans w2
  refine lv_iload hx hb dL_law_256 (lv_at hl 0 rfl) ?_
  refine lv_if_eq (tgt := 265) hx hb dL_law_258 (by decide) (fun r0 => ?_) (fun r0 => ?_)
  · have e9 : z9 = 0 := e9.trans (if_pos r0)
    refine lv_lconst (v := 0) hx hb dL_law_265 (by decide) ?_
    refine W.lcmp hx hb dL_law_266 ?_
    exact lv_if_eq (tgt := 272) hx hb dL_law_267 (by decide) (fun _ => fin H locs hP hS) (fun h9 => absurd ((lg_cmp_eq _ _).mpr e9) h9)
  · have e9 : z9 = 1 := e9.trans (if_neg r0)
    refine lv_lconst (v := 1) hx hb dL_law_261 (by decide) ?_
    refine lv_goto (tgt := 266) hx hb dL_law_262 (by decide) ?_
    refine W.lcmp hx hb dL_law_266 ?_
    exact lv_if_eq (tgt := 272) hx hb dL_law_267 (by decide) (fun _ => fin H locs hP hS) (fun h9 => absurd ((lg_cmp_eq _ _).mpr e9) h9)
set_option maxHeartbeats 8000000 in
set_option maxRecDepth 100000 in
theorem lc_peek {p : Program} {l : Launch} {e : Env} {s : State} {m : MethodId} {below : List Frame} {meth : Method} {c : Code} {b L : Nat} {xs : Nat → Int32} (hL : L ≤ 2048) (hlt : l.stackTraces = false) (C0 : lw_At p s m meth c b L xs) {D : va_G} {tys : List (ClassId × FieldType)} {A : Nat → Prop} {ad adV : Nat → Nat} {cI cZ cJ : ClassId} (hD : ∀ σ : xS, va_D A (x_w ad cI cZ x_sh σ)) {t1 t2 t3 : Nat} (ht1 : tys[t1]? = some (cI, .int)) (ht2 : tys[t2]? = some (cZ, .boolean)) (ht3 : tys[t3]? = some (cJ, .long)) {qo : Nat} (hq : ¬ A qo) (hAs : ∀ q, A q → s.heap.size ≤ q) (hqs : s.heap.size ≤ qo) (hK : va_K D x_cl tys s) (hN : NW9 (fun q => s.heap.size ≤ q) ad adV s) {k : Nat} (hk : 4 * k + 4 ≤ L) {A9 : aS} {σ : xS} {f : Nat → Int64} {H : Heap} {locs : List Loc} {ls : Array Slot} (hP : va_P D x_cl (xo ad cI cZ σ qo cJ f) H) (hXC : XC A9 σ) (hXM : XM A9 σ) (hiv : Iv k A9) (hS : va_S (fun q => s.heap.size ≤ q) s.heap H locs) (hl : lv_has ls 7 [(4, .int (nI (4 * k))), (0, .ref b), (1, .ref (ad 0)), (2, .ref (ad 19)), (3, .ref qo)]) (next : ∀ (A9 : aS) (σ : xS) (f : Nat → Int64) (H : Heap) (locs : List Loc) (ls : Array Slot), va_P D x_cl (xo ad cI cZ σ qo cJ f) H → XC A9 σ → XM A9 σ → Iv (k + 1) A9 → va_S (fun q => s.heap.size ≤ q) s.heap H locs → lv_has ls 7 [(4, .int (nI (4 * k))), (0, .ref b), (1, .ref (ad 0)), (2, .ref (ad 19)), (3, .ref qo)] → W p l e room_1 s m #[Value.ref b] below meth c H locs (40 + (k + 1)) (3000 + 6 * (k + 1)) (lw_Z below #[Value.ref b] s) (F0 m 561 ls [])) : W p l e room_1 s m #[Value.ref b] below meth c H locs (40 + k) (3000 + 6 * k) (lw_Z below #[Value.ref b] s) (F0 m 275 ls []) := by
  obtain ⟨hx, hb, hr, hml, hown, hts, hX, hbl, hlocks, -⟩ := C0
  have hown : s.vm.findClass "DeskMachineLaw" = some m.cls := hown
  have hbA : ¬ s.heap.size ≤ b := by omega
  have hAh : ∀ q, hl_A A qo q → s.heap.size ≤ q := fun q h => h.elim (hAs q) (fun e => by rw [e]; exact hqs)
  have hcb : 40 + k + 1 ≤ 1059 := by omega
  have hsb : 3000 + 6 * k + 6 ≤ 10883 := by omega
  obtain ⟨t, σ1, f1, r2, σ2, R9, d2, ht, hM, q2, x2, y2, i2, z2, w2⟩ := op_peek hlt hD ht1 ht2 ht3 hq (f := f) hXC hXM hiv (xs (4 * k + 1))
  refine lv_aload_n hx hb dL_law_275 rfl (lv_at hl 2 rfl) ?_
  refine lv_aload_n hx hb dL_law_276 rfl (lv_at hl 1 rfl) ?_
  refine lv_iload hx hb dL_law_277 (lv_at hl 0 rfl) ?_
  refine lv_iconst (v := 1) hx hb dL_law_279 (by decide) ?_
  refine lv_iadd hx hb dL_law_280 ?_
  refine lv_topi (fun x9 e9 => ?_)
  have e9 : x9 = nI (4 * k + 1) := e9.trans (nI_add _ 1)
  subst e9
  refine va_sld hx hb hX hbl hbA hS (vp_in_nI (n := 4 * k + 1) (by omega) (by omega)) dL_law_281 ?_
  refine lv_topi (fun x9 e9 => ?_)
  have e9 : x9 = xs (4 * k + 1) := e9.trans (congrArg xs (nI_clamp (by omega)))
  subst e9
  refine lv_aload_n hx hb dL_law_282 rfl (lv_at hl 4 rfl) ?_
  refine lw_callH (vx_runSW (As := [.ref (ad 0), .int (xs (4 * k + 1)), .ref qo]) (rest := []) ⟨hx, hb, hml, hown, hts⟩ hM (vx_cwSW (hh := [(0, 9, 12, 13)]) (bytes := method_6_code) (maxL := 4) (ret := some .int) 3 hts (gl_ws (gl_wl 899 (by decide +kernel) rfl) 897 898 111 (by decide +kernel) (by decide +kernel) (by decide +kernel)) rfl rfl rfl (by decide +kernel) ⟨Nat.le_of_ble_eq_true rfl, Nat.le_of_ble_eq_true rfl⟩) ⟨hl_bl, fun U hU hW => ⟨rfl, by rw [hU]; exact hP, va_K.moved hW.alike hK, NW9_nar (NW9_mv s U hN hW (fun q h1 h2 => by rw [hU]; exact hS.2.1 q h1 h2)) hAs⟩⟩ rfl rfl hl.1 rfl (Nat.le_of_ble_eq_true rfl) dL_law_283 ⟨hcb, hsb⟩) hS hAh (fun H locs hP hS => ?_)
  have hcb : 40 + k + 1 + 0 ≤ 1059 := by omega
  have hsb : 3000 + 6 * k + 6 + 0 ≤ 10883 := by omega
  refine lv_istore (nL := 7) hx hb dL_law_286 hl (by decide) rfl (fun ls hl => ?_)
  have hl : lv_has ls 7 [(5, .int (nI t)), (4, .int (nI (4 * k))), (0, .ref b), (1, .ref (ad 0)), (2, .ref (ad 19)), (3, .ref qo)] := hl
  refine lv_aload_n hx hb dL_law_288 rfl (lv_at hl 4 rfl) ?_
  refine lv_aload_n hx hb dL_law_289 rfl (lv_at hl 2 rfl) ?_
  refine lv_iload hx hb dL_law_290 (lv_at hl 1 rfl) ?_
  refine lv_iconst (v := 1) hx hb dL_law_292 (by decide) ?_
  refine lv_iadd hx hb dL_law_293 ?_
  refine lv_topi (fun x9 e9 => ?_)
  have e9 : x9 = nI (4 * k + 1) := e9.trans (nI_add _ 1)
  subst e9
  refine va_sld hx hb hX hbl hbA hS (vp_in_nI (n := 4 * k + 1) (by omega) (by omega)) dL_law_294 ?_
  refine lv_topi (fun x9 e9 => ?_)
  have e9 : x9 = xs (4 * k + 1) := e9.trans (congrArg xs (nI_clamp (by omega)))
  subst e9
  have hM9 : Met l x_i164.1 (x_ws x_i164) (x_rmo x_i164) (x_Pc D x_cl tys ad cI cZ x_sh (NW9 A ad adV) (.ref 19 :: [.int (xs (4 * k + 1))]) _) (x_Qc D x_cl A ad cI cZ x_sh false _) 0 0 A := x_M_ok hD ht1 ht2 d2 164 _ _ _ q2
  refine x_callO (va_runV (As := [.int (xs (4 * k + 1))]) (rest := []) (C := "DeskMachineModel") (b := ad 19) ⟨hx, hb, hml, hown, hts⟩ hM9 ⟨callB_of 1 hts (lw_gx 1233 (by decide +kernel)) rfl rfl rfl (hts (.initialized "DeskMachineModel") (List.mem_of_getElem? (i := 120) (by decide +kernel))) (hts (.methodLink "DeskMachineLaw" 58 x_i164.1) (List.mem_of_getElem? (i := 1230) (by decide +kernel))) (by decide +kernel) ⟨Nat.le_of_ble_eq_true rfl, Nat.le_of_ble_eq_true rfl⟩, (hts (.instanceMethod x_i164.1) (List.mem_of_getElem? (i := 1231) (by decide +kernel))), (hts (.selects "DeskMachineModel" x_i164.1 x_i164.1) (List.mem_of_getElem? (i := 1232) (by decide +kernel)))⟩ ⟨x_Pc_blind NW9_mv, va_recv hK (xo_l hP) (q0 := 19) rfl rfl, fun U hU hW => ⟨rfl, by rw [hU]; exact xo_l hP, va_K.moved hW.alike hK, NW9_nar (NW9_mv s U hN hW (fun q h1 h2 => by rw [hU]; exact hS.2.1 q h1 h2)) hAs⟩⟩ rfl rfl hl.1 rfl (Nat.le_of_ble_eq_true rfl) dL_law_295 ⟨hcb, hsb⟩) hP hq hS (fun q h => hAs q h) (fun H locs hP hS => ?_)
  refine W.eq (g2 := F0 m 298 ls [.int r2]) rfl ?_
  refine lv_istore (nL := 7) hx hb dL_law_298 hl (by decide) rfl (fun ls hl => ?_)
  have hl : lv_has ls 7 [(6, .int r2), (5, .int (nI t)), (4, .int (nI (4 * k))), (0, .ref b), (1, .ref (ad 0)), (2, .ref (ad 19)), (3, .ref qo)] := hl
  refine lv_aload_n hx hb dL_law_300 rfl (lv_at hl 5 rfl) ?_
  have q3 : x_M 1 171 [.ref 19] σ2 = some (nI t, σ2) := by rw [m171, yv_thr y2, z2]
  have hM9 : Met l x_i171.1 (x_ws x_i171) (x_rmo x_i171) (x_Pc D x_cl tys ad cI cZ x_sh (NW9 A ad adV) (.ref 19 :: []) _) (x_Qc D x_cl A ad cI cZ x_sh false _) 0 0 A := x_M_ok hD ht1 ht2 1 171 _ _ _ q3
  refine x_callO (va_runV (As := []) (rest := []) (C := "DeskMachineModel") (b := ad 19) ⟨hx, hb, hml, hown, hts⟩ hM9 ⟨callB_of 0 hts (lw_gx 999 (by decide +kernel)) rfl rfl rfl (hts (.initialized "DeskMachineModel") (List.mem_of_getElem? (i := 120) (by decide +kernel))) (hts (.methodLink "DeskMachineLaw" 45 x_i171.1) (List.mem_of_getElem? (i := 996) (by decide +kernel))) (by decide +kernel) ⟨Nat.le_of_ble_eq_true rfl, Nat.le_of_ble_eq_true rfl⟩, (hts (.instanceMethod x_i171.1) (List.mem_of_getElem? (i := 997) (by decide +kernel))), (hts (.selects "DeskMachineModel" x_i171.1 x_i171.1) (List.mem_of_getElem? (i := 998) (by decide +kernel)))⟩ ⟨x_Pc_blind NW9_mv, va_recv hK (xo_l hP) (q0 := 19) rfl rfl, fun U hU hW => ⟨rfl, by rw [hU]; exact xo_l hP, va_K.moved hW.alike hK, NW9_nar (NW9_mv s U hN hW (fun q h1 h2 => by rw [hU]; exact hS.2.1 q h1 h2)) hAs⟩⟩ rfl rfl hl.1 rfl (Nat.le_of_ble_eq_true rfl) dL_law_301 ⟨hcb, hsb⟩) hP hq hS (fun q h => hAs q h) (fun H locs hP hS => ?_)
  refine W.eq (g2 := F0 m 304 ls [.int (nI t)]) rfl ?_
  refine lv_iload hx hb dL_law_304 (lv_at hl 1 rfl) ?_
  refine lv_icmp_eq (tgt := 311) hx hb dL_law_306 (by decide) (fun _ => ?_) (fun h9 => absurd rfl h9)
  refine lv_iload hx hb dL_law_311 (lv_at hl 1 rfl) ?_
  have fin : ∀ (H : Heap) (locs : List Loc), va_P D x_cl (xo ad cI cZ σ2 qo cJ f1) H → va_S (fun q => s.heap.size ≤ q) s.heap H locs → W p l e room_1 s m #[Value.ref b] below meth c H locs (40 + k + 1) (3000 + 6 * k + 6) (lw_Z below #[Value.ref b] s) (F0 m 328 ls []) := fun H locs hP hS => by
    refine lv_goto (tgt := 561) hx hb dL_law_328 (by decide) ?_
    refine W.widen (k := 40 + (k + 1)) (n := 3000 + 6 * (k + 1)) (by omega) (by omega) ?_
    exact next R9 σ2 f1 H locs ls hP x2 y2 i2 hS (lv_sub hl [2, 3, 4, 5, 6] rfl)
  refine lv_if_ne (tgt := 328) hx hb dL_law_313 (by decide) (fun _ => fin H locs hP hS) (fun h0 => ?_)
  have t0 : t = 0 := (nI_eq (b := 0) (by omega) (by omega)).mp h0
  have w2 := w2 t0
  refine lv_aload_n hx hb dL_law_316 rfl (lv_at hl 6 rfl) ?_
  refine lv_iconst (v := 0) hx hb dL_law_317 (by decide) ?_
  refine va_lald hx hb hK hP 27 t3 rfl ht3 (vp_in_nI (n := 0) (N := 1) (by decide) (by decide)) dL_law_318 ?_
  refine lv_topl (fun z9 e9 => ?_)
  have e9 : z9 = L_i r2 := (e9.trans (congrArg f1 (by decide))).trans w2
  refine lv_iload hx hb dL_law_319 (lv_at hl 0 rfl) ?_
  refine lv_i2l (v := r2.toInt64) hx hb dL_law_321 rfl ?_
  refine W.lcmp hx hb dL_law_322 ?_
  refine lv_if_eq (tgt := 328) hx hb dL_law_323 (by decide) (fun _ => fin H locs hP hS) (fun h9 => absurd ((lg_cmp_eq _ _).mpr e9) h9)
set_option maxHeartbeats 8000000 in
set_option maxRecDepth 100000 in
theorem lc_disk {p : Program} {l : Launch} {e : Env} {s : State} {m : MethodId} {below : List Frame} {meth : Method} {c : Code} {b L : Nat} {xs : Nat → Int32} (hL : L ≤ 2048) (hlt : l.stackTraces = false) (C0 : lw_At p s m meth c b L xs) {D : va_G} {tys : List (ClassId × FieldType)} {A : Nat → Prop} {ad adV : Nat → Nat} {cI cZ cJ : ClassId} (hD : ∀ σ : xS, va_D A (x_w ad cI cZ x_sh σ)) {t1 t2 t3 : Nat} (ht1 : tys[t1]? = some (cI, .int)) (ht2 : tys[t2]? = some (cZ, .boolean)) (ht3 : tys[t3]? = some (cJ, .long)) {qo : Nat} (hq : ¬ A qo) (hAs : ∀ q, A q → s.heap.size ≤ q) (hqs : s.heap.size ≤ qo) (hK : va_K D x_cl tys s) (hN : NW9 (fun q => s.heap.size ≤ q) ad adV s) {k : Nat} (hk : 4 * k + 4 ≤ L) {A9 : aS} {σ : xS} {f : Nat → Int64} {H : Heap} {locs : List Loc} {ls : Array Slot} (hP : va_P D x_cl (xo ad cI cZ σ qo cJ f) H) (hXC : XC A9 σ) (hXM : XM A9 σ) (hiv : Iv k A9) (hS : va_S (fun q => s.heap.size ≤ q) s.heap H locs) (hl : lv_has ls 7 [(4, .int (nI (4 * k))), (0, .ref b), (1, .ref (ad 0)), (2, .ref (ad 19)), (3, .ref qo)]) (next : ∀ (A9 : aS) (σ : xS) (f : Nat → Int64) (H : Heap) (locs : List Loc) (ls : Array Slot), va_P D x_cl (xo ad cI cZ σ qo cJ f) H → XC A9 σ → XM A9 σ → Iv (k + 1) A9 → va_S (fun q => s.heap.size ≤ q) s.heap H locs → lv_has ls 7 [(4, .int (nI (4 * k))), (0, .ref b), (1, .ref (ad 0)), (2, .ref (ad 19)), (3, .ref qo)] → W p l e room_1 s m #[Value.ref b] below meth c H locs (40 + (k + 1)) (3000 + 6 * (k + 1)) (lw_Z below #[Value.ref b] s) (F0 m 561 ls [])) : W p l e room_1 s m #[Value.ref b] below meth c H locs (40 + k) (3000 + 6 * k) (lw_Z below #[Value.ref b] s) (F0 m 331 ls []) := by
  obtain ⟨hx, hb, hr, hml, hown, hts, hX, hbl, hlocks, -⟩ := C0
  have hown : s.vm.findClass "DeskMachineLaw" = some m.cls := hown
  have hbA : ¬ s.heap.size ≤ b := by omega
  have hAh : ∀ q, hl_A A qo q → s.heap.size ≤ q := fun q h => h.elim (hAs q) (fun e => by rw [e]; exact hqs)
  have hcb : 40 + k + 1 ≤ 1059 := by omega
  have hsb : 3000 + 6 * k + 6 ≤ 10883 := by omega
  obtain ⟨t, σ1, f1, r2, σ2, R9, d2, ht, hM, q2, x2, y2, i2, z2, w2⟩ := op_disk hlt hD ht1 ht2 ht3 hq (f := f) hXC hXM hiv (xs (4 * k + 1)) (xs (4 * k + 2))
  refine lv_aload_n hx hb dL_law_331 rfl (lv_at hl 2 rfl) ?_
  refine lv_aload_n hx hb dL_law_332 rfl (lv_at hl 1 rfl) ?_
  refine lv_iload hx hb dL_law_333 (lv_at hl 0 rfl) ?_
  refine lv_iconst (v := 1) hx hb dL_law_335 (by decide) ?_
  refine lv_iadd hx hb dL_law_336 ?_
  refine lv_topi (fun x9 e9 => ?_)
  have e9 : x9 = nI (4 * k + 1) := e9.trans (nI_add _ 1)
  subst e9
  refine va_sld hx hb hX hbl hbA hS (vp_in_nI (n := 4 * k + 1) (by omega) (by omega)) dL_law_337 ?_
  refine lv_topi (fun x9 e9 => ?_)
  have e9 : x9 = xs (4 * k + 1) := e9.trans (congrArg xs (nI_clamp (by omega)))
  subst e9
  refine lv_aload_n hx hb dL_law_338 rfl (lv_at hl 1 rfl) ?_
  refine lv_iload hx hb dL_law_339 (lv_at hl 0 rfl) ?_
  refine lv_iconst (v := 2) hx hb dL_law_341 (by decide) ?_
  refine lv_iadd hx hb dL_law_342 ?_
  refine lv_topi (fun x9 e9 => ?_)
  have e9 : x9 = nI (4 * k + 2) := e9.trans (nI_add _ 2)
  subst e9
  refine va_sld hx hb hX hbl hbA hS (vp_in_nI (n := 4 * k + 2) (by omega) (by omega)) dL_law_343 ?_
  refine lv_topi (fun x9 e9 => ?_)
  have e9 : x9 = xs (4 * k + 2) := e9.trans (congrArg xs (nI_clamp (by omega)))
  subst e9
  refine lv_aload_n hx hb dL_law_344 rfl (lv_at hl 4 rfl) ?_
  refine lw_callH (vx_runSW (As := [.ref (ad 0), .int (xs (4 * k + 1)), .int (xs (4 * k + 2)), .ref qo]) (rest := []) ⟨hx, hb, hml, hown, hts⟩ hM (vx_cwSW (hh := [(0, 10, 13, 13)]) (bytes := method_7_code) (maxL := 5) (ret := some .int) 4 hts (gl_ws (gl_wl 906 (by decide +kernel) rfl) 904 905 111 (by decide +kernel) (by decide +kernel) (by decide +kernel)) rfl rfl rfl (by decide +kernel) ⟨Nat.le_of_ble_eq_true rfl, Nat.le_of_ble_eq_true rfl⟩) ⟨hl_bl, fun U hU hW => ⟨rfl, by rw [hU]; exact hP, va_K.moved hW.alike hK, NW9_nar (NW9_mv s U hN hW (fun q h1 h2 => by rw [hU]; exact hS.2.1 q h1 h2)) hAs⟩⟩ rfl rfl hl.1 rfl (Nat.le_of_ble_eq_true rfl) dL_law_345 ⟨hcb, hsb⟩) hS hAh (fun H locs hP hS => ?_)
  have hcb : 40 + k + 1 + 0 ≤ 1059 := by omega
  have hsb : 3000 + 6 * k + 6 + 0 ≤ 10883 := by omega
  refine lv_istore (nL := 7) hx hb dL_law_348 hl (by decide) rfl (fun ls hl => ?_)
  have hl : lv_has ls 7 [(5, .int (nI t)), (4, .int (nI (4 * k))), (0, .ref b), (1, .ref (ad 0)), (2, .ref (ad 19)), (3, .ref qo)] := hl
  refine lv_aload_n hx hb dL_law_350 rfl (lv_at hl 4 rfl) ?_
  refine lv_aload_n hx hb dL_law_351 rfl (lv_at hl 2 rfl) ?_
  refine lv_iload hx hb dL_law_352 (lv_at hl 1 rfl) ?_
  refine lv_iconst (v := 1) hx hb dL_law_354 (by decide) ?_
  refine lv_iadd hx hb dL_law_355 ?_
  refine lv_topi (fun x9 e9 => ?_)
  have e9 : x9 = nI (4 * k + 1) := e9.trans (nI_add _ 1)
  subst e9
  refine va_sld hx hb hX hbl hbA hS (vp_in_nI (n := 4 * k + 1) (by omega) (by omega)) dL_law_356 ?_
  refine lv_topi (fun x9 e9 => ?_)
  have e9 : x9 = xs (4 * k + 1) := e9.trans (congrArg xs (nI_clamp (by omega)))
  subst e9
  refine lv_aload_n hx hb dL_law_357 rfl (lv_at hl 2 rfl) ?_
  refine lv_iload hx hb dL_law_358 (lv_at hl 1 rfl) ?_
  refine lv_iconst (v := 2) hx hb dL_law_360 (by decide) ?_
  refine lv_iadd hx hb dL_law_361 ?_
  refine lv_topi (fun x9 e9 => ?_)
  have e9 : x9 = nI (4 * k + 2) := e9.trans (nI_add _ 2)
  subst e9
  refine va_sld hx hb hX hbl hbA hS (vp_in_nI (n := 4 * k + 2) (by omega) (by omega)) dL_law_362 ?_
  refine lv_topi (fun x9 e9 => ?_)
  have e9 : x9 = xs (4 * k + 2) := e9.trans (congrArg xs (nI_clamp (by omega)))
  subst e9
  have hM9 : Met l x_i166.1 (x_ws x_i166) (x_rmo x_i166) (x_Pc D x_cl tys ad cI cZ x_sh (NW9 A ad adV) (.ref 19 :: [.int (xs (4 * k + 1)), .int (xs (4 * k + 2))]) _) (x_Qc D x_cl A ad cI cZ x_sh false _) 0 0 A := x_M_ok hD ht1 ht2 d2 166 _ _ _ q2
  refine x_callO (va_runV (As := [.int (xs (4 * k + 1)), .int (xs (4 * k + 2))]) (rest := []) (C := "DeskMachineModel") (b := ad 19) ⟨hx, hb, hml, hown, hts⟩ hM9 ⟨callB_of 2 hts (lw_gx 1237 (by decide +kernel)) rfl rfl rfl (hts (.initialized "DeskMachineModel") (List.mem_of_getElem? (i := 120) (by decide +kernel))) (hts (.methodLink "DeskMachineLaw" 61 x_i166.1) (List.mem_of_getElem? (i := 1234) (by decide +kernel))) (by decide +kernel) ⟨Nat.le_of_ble_eq_true rfl, Nat.le_of_ble_eq_true rfl⟩, (hts (.instanceMethod x_i166.1) (List.mem_of_getElem? (i := 1235) (by decide +kernel))), (hts (.selects "DeskMachineModel" x_i166.1 x_i166.1) (List.mem_of_getElem? (i := 1236) (by decide +kernel)))⟩ ⟨x_Pc_blind NW9_mv, va_recv hK (xo_l hP) (q0 := 19) rfl rfl, fun U hU hW => ⟨rfl, by rw [hU]; exact xo_l hP, va_K.moved hW.alike hK, NW9_nar (NW9_mv s U hN hW (fun q h1 h2 => by rw [hU]; exact hS.2.1 q h1 h2)) hAs⟩⟩ rfl rfl hl.1 rfl (Nat.le_of_ble_eq_true rfl) dL_law_363 ⟨hcb, hsb⟩) hP hq hS (fun q h => hAs q h) (fun H locs hP hS => ?_)
  refine W.eq (g2 := F0 m 366 ls [.int r2]) rfl ?_
  refine lv_istore (nL := 7) hx hb dL_law_366 hl (by decide) rfl (fun ls hl => ?_)
  have hl : lv_has ls 7 [(6, .int r2), (5, .int (nI t)), (4, .int (nI (4 * k))), (0, .ref b), (1, .ref (ad 0)), (2, .ref (ad 19)), (3, .ref qo)] := hl
  refine lv_aload_n hx hb dL_law_368 rfl (lv_at hl 5 rfl) ?_
  have q3 : x_M 1 171 [.ref 19] σ2 = some (nI t, σ2) := by rw [m171, yv_thr y2, z2]
  have hM9 : Met l x_i171.1 (x_ws x_i171) (x_rmo x_i171) (x_Pc D x_cl tys ad cI cZ x_sh (NW9 A ad adV) (.ref 19 :: []) _) (x_Qc D x_cl A ad cI cZ x_sh false _) 0 0 A := x_M_ok hD ht1 ht2 1 171 _ _ _ q3
  refine x_callO (va_runV (As := []) (rest := []) (C := "DeskMachineModel") (b := ad 19) ⟨hx, hb, hml, hown, hts⟩ hM9 ⟨callB_of 0 hts (lw_gx 999 (by decide +kernel)) rfl rfl rfl (hts (.initialized "DeskMachineModel") (List.mem_of_getElem? (i := 120) (by decide +kernel))) (hts (.methodLink "DeskMachineLaw" 45 x_i171.1) (List.mem_of_getElem? (i := 996) (by decide +kernel))) (by decide +kernel) ⟨Nat.le_of_ble_eq_true rfl, Nat.le_of_ble_eq_true rfl⟩, (hts (.instanceMethod x_i171.1) (List.mem_of_getElem? (i := 997) (by decide +kernel))), (hts (.selects "DeskMachineModel" x_i171.1 x_i171.1) (List.mem_of_getElem? (i := 998) (by decide +kernel)))⟩ ⟨x_Pc_blind NW9_mv, va_recv hK (xo_l hP) (q0 := 19) rfl rfl, fun U hU hW => ⟨rfl, by rw [hU]; exact xo_l hP, va_K.moved hW.alike hK, NW9_nar (NW9_mv s U hN hW (fun q h1 h2 => by rw [hU]; exact hS.2.1 q h1 h2)) hAs⟩⟩ rfl rfl hl.1 rfl (Nat.le_of_ble_eq_true rfl) dL_law_369 ⟨hcb, hsb⟩) hP hq hS (fun q h => hAs q h) (fun H locs hP hS => ?_)
  refine W.eq (g2 := F0 m 372 ls [.int (nI t)]) rfl ?_
  refine lv_iload hx hb dL_law_372 (lv_at hl 1 rfl) ?_
  refine lv_icmp_eq (tgt := 379) hx hb dL_law_374 (by decide) (fun _ => ?_) (fun h9 => absurd rfl h9)
  refine lv_iload hx hb dL_law_379 (lv_at hl 1 rfl) ?_
  have fin : ∀ (H : Heap) (locs : List Loc), va_P D x_cl (xo ad cI cZ σ2 qo cJ f1) H → va_S (fun q => s.heap.size ≤ q) s.heap H locs → W p l e room_1 s m #[Value.ref b] below meth c H locs (40 + k + 1) (3000 + 6 * k + 6) (lw_Z below #[Value.ref b] s) (F0 m 396 ls []) := fun H locs hP hS => by
    refine lv_goto (tgt := 561) hx hb dL_law_396 (by decide) ?_
    refine W.widen (k := 40 + (k + 1)) (n := 3000 + 6 * (k + 1)) (by omega) (by omega) ?_
    exact next R9 σ2 f1 H locs ls hP x2 y2 i2 hS (lv_sub hl [2, 3, 4, 5, 6] rfl)
  refine lv_if_ne (tgt := 396) hx hb dL_law_381 (by decide) (fun _ => fin H locs hP hS) (fun h0 => ?_)
  have t0 : t = 0 := (nI_eq (b := 0) (by omega) (by omega)).mp h0
  have w2 := w2 t0
  refine lv_aload_n hx hb dL_law_384 rfl (lv_at hl 6 rfl) ?_
  refine lv_iconst (v := 0) hx hb dL_law_385 (by decide) ?_
  refine va_lald hx hb hK hP 27 t3 rfl ht3 (vp_in_nI (n := 0) (N := 1) (by decide) (by decide)) dL_law_386 ?_
  refine lv_topl (fun z9 e9 => ?_)
  have e9 : z9 = L_i r2 := (e9.trans (congrArg f1 (by decide))).trans w2
  refine lv_iload hx hb dL_law_387 (lv_at hl 0 rfl) ?_
  refine lv_i2l (v := r2.toInt64) hx hb dL_law_389 rfl ?_
  refine W.lcmp hx hb dL_law_390 ?_
  refine lv_if_eq (tgt := 396) hx hb dL_law_391 (by decide) (fun _ => fin H locs hP hS) (fun h9 => absurd ((lg_cmp_eq _ _).mpr e9) h9)
set_option maxHeartbeats 8000000 in
set_option maxRecDepth 100000 in
theorem lc_burn {p : Program} {l : Launch} {e : Env} {s : State} {m : MethodId} {below : List Frame} {meth : Method} {c : Code} {b L : Nat} {xs : Nat → Int32} (hL : L ≤ 2048) (hlt : l.stackTraces = false) (C0 : lw_At p s m meth c b L xs) {D : va_G} {tys : List (ClassId × FieldType)} {A : Nat → Prop} {ad adV : Nat → Nat} {cI cZ cJ : ClassId} (hD : ∀ σ : xS, va_D A (x_w ad cI cZ x_sh σ)) {t1 t2 t3 : Nat} (ht1 : tys[t1]? = some (cI, .int)) (ht2 : tys[t2]? = some (cZ, .boolean)) (ht3 : tys[t3]? = some (cJ, .long)) {qo : Nat} (hq : ¬ A qo) (hAs : ∀ q, A q → s.heap.size ≤ q) (hqs : s.heap.size ≤ qo) (hK : va_K D x_cl tys s) (hN : NW9 (fun q => s.heap.size ≤ q) ad adV s) {k : Nat} (hk : 4 * k + 4 ≤ L) {A9 : aS} {σ : xS} {f : Nat → Int64} {H : Heap} {locs : List Loc} {ls : Array Slot} (hP : va_P D x_cl (xo ad cI cZ σ qo cJ f) H) (hXC : XC A9 σ) (hXM : XM A9 σ) (hiv : Iv k A9) (hS : va_S (fun q => s.heap.size ≤ q) s.heap H locs) (hl : lv_has ls 7 [(4, .int (nI (4 * k))), (0, .ref b), (1, .ref (ad 0)), (2, .ref (ad 19)), (3, .ref qo)]) (next : ∀ (A9 : aS) (σ : xS) (f : Nat → Int64) (H : Heap) (locs : List Loc) (ls : Array Slot), va_P D x_cl (xo ad cI cZ σ qo cJ f) H → XC A9 σ → XM A9 σ → Iv (k + 1) A9 → va_S (fun q => s.heap.size ≤ q) s.heap H locs → lv_has ls 7 [(4, .int (nI (4 * k))), (0, .ref b), (1, .ref (ad 0)), (2, .ref (ad 19)), (3, .ref qo)] → W p l e room_1 s m #[Value.ref b] below meth c H locs (40 + (k + 1)) (3000 + 6 * (k + 1)) (lw_Z below #[Value.ref b] s) (F0 m 561 ls [])) : W p l e room_1 s m #[Value.ref b] below meth c H locs (40 + k) (3000 + 6 * k) (lw_Z below #[Value.ref b] s) (F0 m 399 ls []) := by
  obtain ⟨hx, hb, hr, hml, hown, hts, hX, hbl, hlocks, -⟩ := C0
  have hown : s.vm.findClass "DeskMachineLaw" = some m.cls := hown
  have hbA : ¬ s.heap.size ≤ b := by omega
  have hAh : ∀ q, hl_A A qo q → s.heap.size ≤ q := fun q h => h.elim (hAs q) (fun e => by rw [e]; exact hqs)
  have hcb : 40 + k + 1 ≤ 1059 := by omega
  have hsb : 3000 + 6 * k + 6 ≤ 10883 := by omega
  obtain ⟨t, σ1, f1, r2, σ2, R9, d2, ht, hM, q2, x2, y2, i2, z2, w2⟩ := op_burn hlt hD ht1 ht2 ht3 hq (f := f) hXC hXM hiv (xs (4 * k + 1)) (xs (4 * k + 2)) (xs (4 * k + 3))
  refine lv_aload_n hx hb dL_law_399 rfl (lv_at hl 2 rfl) ?_
  refine lv_aload_n hx hb dL_law_400 rfl (lv_at hl 1 rfl) ?_
  refine lv_iload hx hb dL_law_401 (lv_at hl 0 rfl) ?_
  refine lv_iconst (v := 1) hx hb dL_law_403 (by decide) ?_
  refine lv_iadd hx hb dL_law_404 ?_
  refine lv_topi (fun x9 e9 => ?_)
  have e9 : x9 = nI (4 * k + 1) := e9.trans (nI_add _ 1)
  subst e9
  refine va_sld hx hb hX hbl hbA hS (vp_in_nI (n := 4 * k + 1) (by omega) (by omega)) dL_law_405 ?_
  refine lv_topi (fun x9 e9 => ?_)
  have e9 : x9 = xs (4 * k + 1) := e9.trans (congrArg xs (nI_clamp (by omega)))
  subst e9
  refine lv_aload_n hx hb dL_law_406 rfl (lv_at hl 1 rfl) ?_
  refine lv_iload hx hb dL_law_407 (lv_at hl 0 rfl) ?_
  refine lv_iconst (v := 2) hx hb dL_law_409 (by decide) ?_
  refine lv_iadd hx hb dL_law_410 ?_
  refine lv_topi (fun x9 e9 => ?_)
  have e9 : x9 = nI (4 * k + 2) := e9.trans (nI_add _ 2)
  subst e9
  refine va_sld hx hb hX hbl hbA hS (vp_in_nI (n := 4 * k + 2) (by omega) (by omega)) dL_law_411 ?_
  refine lv_topi (fun x9 e9 => ?_)
  have e9 : x9 = xs (4 * k + 2) := e9.trans (congrArg xs (nI_clamp (by omega)))
  subst e9
  refine lv_aload_n hx hb dL_law_412 rfl (lv_at hl 1 rfl) ?_
  refine lv_iload hx hb dL_law_413 (lv_at hl 0 rfl) ?_
  refine lv_iconst (v := 3) hx hb dL_law_415 (by decide) ?_
  refine lv_iadd hx hb dL_law_416 ?_
  refine lv_topi (fun x9 e9 => ?_)
  have e9 : x9 = nI (4 * k + 3) := e9.trans (nI_add _ 3)
  subst e9
  refine va_sld hx hb hX hbl hbA hS (vp_in_nI (n := 4 * k + 3) (by omega) (by omega)) dL_law_417 ?_
  refine lv_topi (fun x9 e9 => ?_)
  have e9 : x9 = xs (4 * k + 3) := e9.trans (congrArg xs (nI_clamp (by omega)))
  subst e9
  refine lv_aload_n hx hb dL_law_418 rfl (lv_at hl 4 rfl) ?_
  refine lw_callH (vx_runSW (As := [.ref (ad 0), .int (xs (4 * k + 1)), .int (xs (4 * k + 2)), .int (xs (4 * k + 3)), .ref qo]) (rest := []) ⟨hx, hb, hml, hown, hts⟩ hM (vx_cwSW (hh := [(0, 19, 22, 13)]) (bytes := method_8_code) (maxL := 6) (ret := some .int) 5 hts (gl_ws (gl_wl 917 (by decide +kernel) rfl) 915 916 111 (by decide +kernel) (by decide +kernel) (by decide +kernel)) rfl rfl rfl (by decide +kernel) ⟨Nat.le_of_ble_eq_true rfl, Nat.le_of_ble_eq_true rfl⟩) ⟨hl_bl, fun U hU hW => ⟨rfl, by rw [hU]; exact hP, va_K.moved hW.alike hK, NW9_nar (NW9_mv s U hN hW (fun q h1 h2 => by rw [hU]; exact hS.2.1 q h1 h2)) hAs⟩⟩ rfl rfl hl.1 rfl (Nat.le_of_ble_eq_true rfl) dL_law_419 ⟨hcb, hsb⟩) hS hAh (fun H locs hP hS => ?_)
  have hcb : 40 + k + 1 + 0 ≤ 1059 := by omega
  have hsb : 3000 + 6 * k + 6 + 0 ≤ 10883 := by omega
  refine lv_istore (nL := 7) hx hb dL_law_422 hl (by decide) rfl (fun ls hl => ?_)
  have hl : lv_has ls 7 [(5, .int (nI t)), (4, .int (nI (4 * k))), (0, .ref b), (1, .ref (ad 0)), (2, .ref (ad 19)), (3, .ref qo)] := hl
  refine lv_aload_n hx hb dL_law_424 rfl (lv_at hl 4 rfl) ?_
  refine lv_aload_n hx hb dL_law_425 rfl (lv_at hl 2 rfl) ?_
  refine lv_iload hx hb dL_law_426 (lv_at hl 1 rfl) ?_
  refine lv_iconst (v := 1) hx hb dL_law_428 (by decide) ?_
  refine lv_iadd hx hb dL_law_429 ?_
  refine lv_topi (fun x9 e9 => ?_)
  have e9 : x9 = nI (4 * k + 1) := e9.trans (nI_add _ 1)
  subst e9
  refine va_sld hx hb hX hbl hbA hS (vp_in_nI (n := 4 * k + 1) (by omega) (by omega)) dL_law_430 ?_
  refine lv_topi (fun x9 e9 => ?_)
  have e9 : x9 = xs (4 * k + 1) := e9.trans (congrArg xs (nI_clamp (by omega)))
  subst e9
  refine lv_aload_n hx hb dL_law_431 rfl (lv_at hl 2 rfl) ?_
  refine lv_iload hx hb dL_law_432 (lv_at hl 1 rfl) ?_
  refine lv_iconst (v := 2) hx hb dL_law_434 (by decide) ?_
  refine lv_iadd hx hb dL_law_435 ?_
  refine lv_topi (fun x9 e9 => ?_)
  have e9 : x9 = nI (4 * k + 2) := e9.trans (nI_add _ 2)
  subst e9
  refine va_sld hx hb hX hbl hbA hS (vp_in_nI (n := 4 * k + 2) (by omega) (by omega)) dL_law_436 ?_
  refine lv_topi (fun x9 e9 => ?_)
  have e9 : x9 = xs (4 * k + 2) := e9.trans (congrArg xs (nI_clamp (by omega)))
  subst e9
  refine lv_aload_n hx hb dL_law_437 rfl (lv_at hl 2 rfl) ?_
  refine lv_iload hx hb dL_law_438 (lv_at hl 1 rfl) ?_
  refine lv_iconst (v := 3) hx hb dL_law_440 (by decide) ?_
  refine lv_iadd hx hb dL_law_441 ?_
  refine lv_topi (fun x9 e9 => ?_)
  have e9 : x9 = nI (4 * k + 3) := e9.trans (nI_add _ 3)
  subst e9
  refine va_sld hx hb hX hbl hbA hS (vp_in_nI (n := 4 * k + 3) (by omega) (by omega)) dL_law_442 ?_
  refine lv_topi (fun x9 e9 => ?_)
  have e9 : x9 = xs (4 * k + 3) := e9.trans (congrArg xs (nI_clamp (by omega)))
  subst e9
  have hM9 : Met l x_i167.1 (x_ws x_i167) (x_rmo x_i167) (x_Pc D x_cl tys ad cI cZ x_sh (NW9 A ad adV) (.ref 19 :: [.int (xs (4 * k + 1)), .int (xs (4 * k + 2)), .int (xs (4 * k + 3))]) _) (x_Qc D x_cl A ad cI cZ x_sh false _) 0 0 A := x_M_ok hD ht1 ht2 d2 167 _ _ _ q2
  refine x_callO (va_runV (As := [.int (xs (4 * k + 1)), .int (xs (4 * k + 2)), .int (xs (4 * k + 3))]) (rest := []) (C := "DeskMachineModel") (b := ad 19) ⟨hx, hb, hml, hown, hts⟩ hM9 ⟨callB_of 3 hts (lw_gx 1244 (by decide +kernel)) rfl rfl rfl (hts (.initialized "DeskMachineModel") (List.mem_of_getElem? (i := 120) (by decide +kernel))) (hts (.methodLink "DeskMachineLaw" 65 x_i167.1) (List.mem_of_getElem? (i := 1241) (by decide +kernel))) (by decide +kernel) ⟨Nat.le_of_ble_eq_true rfl, Nat.le_of_ble_eq_true rfl⟩, (hts (.instanceMethod x_i167.1) (List.mem_of_getElem? (i := 1242) (by decide +kernel))), (hts (.selects "DeskMachineModel" x_i167.1 x_i167.1) (List.mem_of_getElem? (i := 1243) (by decide +kernel)))⟩ ⟨x_Pc_blind NW9_mv, va_recv hK (xo_l hP) (q0 := 19) rfl rfl, fun U hU hW => ⟨rfl, by rw [hU]; exact xo_l hP, va_K.moved hW.alike hK, NW9_nar (NW9_mv s U hN hW (fun q h1 h2 => by rw [hU]; exact hS.2.1 q h1 h2)) hAs⟩⟩ rfl rfl hl.1 rfl (Nat.le_of_ble_eq_true rfl) dL_law_443 ⟨hcb, hsb⟩) hP hq hS (fun q h => hAs q h) (fun H locs hP hS => ?_)
  refine W.eq (g2 := F0 m 446 ls [.int r2]) rfl ?_
  refine lv_istore (nL := 7) hx hb dL_law_446 hl (by decide) rfl (fun ls hl => ?_)
  have hl : lv_has ls 7 [(6, .int r2), (5, .int (nI t)), (4, .int (nI (4 * k))), (0, .ref b), (1, .ref (ad 0)), (2, .ref (ad 19)), (3, .ref qo)] := hl
  refine lv_aload_n hx hb dL_law_448 rfl (lv_at hl 5 rfl) ?_
  have q3 : x_M 1 171 [.ref 19] σ2 = some (nI t, σ2) := by rw [m171, yv_thr y2, z2]
  have hM9 : Met l x_i171.1 (x_ws x_i171) (x_rmo x_i171) (x_Pc D x_cl tys ad cI cZ x_sh (NW9 A ad adV) (.ref 19 :: []) _) (x_Qc D x_cl A ad cI cZ x_sh false _) 0 0 A := x_M_ok hD ht1 ht2 1 171 _ _ _ q3
  refine x_callO (va_runV (As := []) (rest := []) (C := "DeskMachineModel") (b := ad 19) ⟨hx, hb, hml, hown, hts⟩ hM9 ⟨callB_of 0 hts (lw_gx 999 (by decide +kernel)) rfl rfl rfl (hts (.initialized "DeskMachineModel") (List.mem_of_getElem? (i := 120) (by decide +kernel))) (hts (.methodLink "DeskMachineLaw" 45 x_i171.1) (List.mem_of_getElem? (i := 996) (by decide +kernel))) (by decide +kernel) ⟨Nat.le_of_ble_eq_true rfl, Nat.le_of_ble_eq_true rfl⟩, (hts (.instanceMethod x_i171.1) (List.mem_of_getElem? (i := 997) (by decide +kernel))), (hts (.selects "DeskMachineModel" x_i171.1 x_i171.1) (List.mem_of_getElem? (i := 998) (by decide +kernel)))⟩ ⟨x_Pc_blind NW9_mv, va_recv hK (xo_l hP) (q0 := 19) rfl rfl, fun U hU hW => ⟨rfl, by rw [hU]; exact xo_l hP, va_K.moved hW.alike hK, NW9_nar (NW9_mv s U hN hW (fun q h1 h2 => by rw [hU]; exact hS.2.1 q h1 h2)) hAs⟩⟩ rfl rfl hl.1 rfl (Nat.le_of_ble_eq_true rfl) dL_law_449 ⟨hcb, hsb⟩) hP hq hS (fun q h => hAs q h) (fun H locs hP hS => ?_)
  refine W.eq (g2 := F0 m 452 ls [.int (nI t)]) rfl ?_
  refine lv_iload hx hb dL_law_452 (lv_at hl 1 rfl) ?_
  refine lv_icmp_eq (tgt := 459) hx hb dL_law_454 (by decide) (fun _ => ?_) (fun h9 => absurd rfl h9)
  refine lv_iload hx hb dL_law_459 (lv_at hl 1 rfl) ?_
  have fin : ∀ (H : Heap) (locs : List Loc), va_P D x_cl (xo ad cI cZ σ2 qo cJ f1) H → va_S (fun q => s.heap.size ≤ q) s.heap H locs → W p l e room_1 s m #[Value.ref b] below meth c H locs (40 + k + 1) (3000 + 6 * k + 6) (lw_Z below #[Value.ref b] s) (F0 m 483 ls []) := fun H locs hP hS => by
    refine lv_goto (tgt := 561) hx hb dL_law_483 (by decide) ?_
    refine W.widen (k := 40 + (k + 1)) (n := 3000 + 6 * (k + 1)) (by omega) (by omega) ?_
    exact next R9 σ2 f1 H locs ls hP x2 y2 i2 hS (lv_sub hl [2, 3, 4, 5, 6] rfl)
  refine lv_if_ne (tgt := 483) hx hb dL_law_461 (by decide) (fun _ => fin H locs hP hS) (fun h0 => ?_)
  have t0 : t = 0 := (nI_eq (b := 0) (by omega) (by omega)).mp h0
  have w2 := w2 t0
  refine lv_aload_n hx hb dL_law_464 rfl (lv_at hl 6 rfl) ?_
  refine lv_iconst (v := 0) hx hb dL_law_465 (by decide) ?_
  refine va_lald hx hb hK hP 27 t3 rfl ht3 (vp_in_nI (n := 0) (N := 1) (by decide) (by decide)) dL_law_466 ?_
  refine lv_topl (fun z9 e9 => ?_)
  have e9 : z9 = L_b r2 := (e9.trans (congrArg f1 (by decide))).trans w2
  refine lv_iload hx hb dL_law_467 (lv_at hl 0 rfl) ?_
  refine lv_if_eq (tgt := 476) hx hb dL_law_469 (by decide) (fun r0 => ?_) (fun r0 => ?_)
  · have e9 : z9 = 0 := e9.trans (if_pos r0)
    refine lv_lconst (v := 0) hx hb dL_law_476 (by decide) ?_
    refine W.lcmp hx hb dL_law_477 ?_
    exact lv_if_eq (tgt := 483) hx hb dL_law_478 (by decide) (fun _ => fin H locs hP hS) (fun h9 => absurd ((lg_cmp_eq _ _).mpr e9) h9)
  · have e9 : z9 = 1 := e9.trans (if_neg r0)
    refine lv_lconst (v := 1) hx hb dL_law_472 (by decide) ?_
    refine lv_goto (tgt := 477) hx hb dL_law_473 (by decide) ?_
    refine W.lcmp hx hb dL_law_477 ?_
    exact lv_if_eq (tgt := 483) hx hb dL_law_478 (by decide) (fun _ => fin H locs hP hS) (fun h9 => absurd ((lg_cmp_eq _ _).mpr e9) h9)
set_option maxHeartbeats 8000000 in
set_option maxRecDepth 100000 in
theorem lc_shown {p : Program} {l : Launch} {e : Env} {s : State} {m : MethodId} {below : List Frame} {meth : Method} {c : Code} {b L : Nat} {xs : Nat → Int32} (hL : L ≤ 2048) (hlt : l.stackTraces = false) (C0 : lw_At p s m meth c b L xs) {D : va_G} {tys : List (ClassId × FieldType)} {A : Nat → Prop} {ad adV : Nat → Nat} {cI cZ cJ : ClassId} (hD : ∀ σ : xS, va_D A (x_w ad cI cZ x_sh σ)) {t1 t2 t3 : Nat} (ht1 : tys[t1]? = some (cI, .int)) (ht2 : tys[t2]? = some (cZ, .boolean)) (ht3 : tys[t3]? = some (cJ, .long)) {qo : Nat} (hq : ¬ A qo) (hAs : ∀ q, A q → s.heap.size ≤ q) (hqs : s.heap.size ≤ qo) (hK : va_K D x_cl tys s) (hN : NW9 (fun q => s.heap.size ≤ q) ad adV s) {k : Nat} (hk : 4 * k + 4 ≤ L) {A9 : aS} {σ : xS} {f : Nat → Int64} {H : Heap} {locs : List Loc} {ls : Array Slot} (hP : va_P D x_cl (xo ad cI cZ σ qo cJ f) H) (hXC : XC A9 σ) (hXM : XM A9 σ) (hiv : Iv k A9) (hS : va_S (fun q => s.heap.size ≤ q) s.heap H locs) (hl : lv_has ls 7 [(4, .int (nI (4 * k))), (0, .ref b), (1, .ref (ad 0)), (2, .ref (ad 19)), (3, .ref qo)]) (next : ∀ (A9 : aS) (σ : xS) (f : Nat → Int64) (H : Heap) (locs : List Loc) (ls : Array Slot), va_P D x_cl (xo ad cI cZ σ qo cJ f) H → XC A9 σ → XM A9 σ → Iv (k + 1) A9 → va_S (fun q => s.heap.size ≤ q) s.heap H locs → lv_has ls 7 [(4, .int (nI (4 * k))), (0, .ref b), (1, .ref (ad 0)), (2, .ref (ad 19)), (3, .ref qo)] → W p l e room_1 s m #[Value.ref b] below meth c H locs (40 + (k + 1)) (3000 + 6 * (k + 1)) (lw_Z below #[Value.ref b] s) (F0 m 561 ls [])) : W p l e room_1 s m #[Value.ref b] below meth c H locs (40 + k) (3000 + 6 * k) (lw_Z below #[Value.ref b] s) (F0 m 486 ls []) := by
  obtain ⟨hx, hb, hr, hml, hown, hts, hX, hbl, hlocks, -⟩ := C0
  have hown : s.vm.findClass "DeskMachineLaw" = some m.cls := hown
  have hbA : ¬ s.heap.size ≤ b := by omega
  have hAh : ∀ q, hl_A A qo q → s.heap.size ≤ q := fun q h => h.elim (hAs q) (fun e => by rw [e]; exact hqs)
  have hcb : 40 + k + 0 ≤ 1059 := by omega
  have hsb : 3000 + 6 * k + 0 ≤ 10883 := by omega
  obtain ⟨r, R9, σ1, σ2, q1, q2, x2, y2, i2, z2⟩ := law_same (d := 0) (vs := [(xs (4 * k + 1))]) hXM (fun τ kt => shown_ok 0 hXC kt hiv (xs (4 * k + 1)))
  refine lv_aload_n hx hb dL_law_486 rfl (lv_at hl 2 rfl) ?_
  refine lv_aload_n hx hb dL_law_487 rfl (lv_at hl 1 rfl) ?_
  refine lv_iload hx hb dL_law_488 (lv_at hl 0 rfl) ?_
  refine lv_iconst (v := 1) hx hb dL_law_490 (by decide) ?_
  refine lv_iadd hx hb dL_law_491 ?_
  refine lv_topi (fun x9 e9 => ?_)
  have e9 : x9 = nI (4 * k + 1) := e9.trans (nI_add _ 1)
  subst e9
  refine va_sld hx hb hX hbl hbA hS (vp_in_nI (n := 4 * k + 1) (by omega) (by omega)) dL_law_492 ?_
  refine lv_topi (fun x9 e9 => ?_)
  have e9 : x9 = xs (4 * k + 1) := e9.trans (congrArg xs (nI_clamp (by omega)))
  subst e9
  have hM9 : Met l x_i103.1 (x_ws x_i103) (x_rmo x_i103) (x_Pc D x_cl tys ad cI cZ x_sh (NW9 A ad adV) (.ref 0 :: [.int (xs (4 * k + 1))]) _) (x_Qc D x_cl A ad cI cZ x_sh false _) 0 0 A := x_M_ok hD ht1 ht2 2 103 _ _ _ q1
  refine x_callO (va_runV (As := [.int (xs (4 * k + 1))]) (rest := []) (C := "DeskMachine") (b := ad 0) ⟨hx, hb, hml, hown, hts⟩ hM9 ⟨callB_of 1 hts (lw_gx 320 (by decide +kernel)) rfl rfl rfl (hts (.initialized "DeskMachine") (List.mem_of_getElem? (i := 112) (by decide +kernel))) (hts (.methodLink "DeskMachineLaw" 66 x_i103.1) (List.mem_of_getElem? (i := 317) (by decide +kernel))) (by decide +kernel) ⟨Nat.le_of_ble_eq_true rfl, Nat.le_of_ble_eq_true rfl⟩, (hts (.instanceMethod x_i103.1) (List.mem_of_getElem? (i := 318) (by decide +kernel))), (hts (.selects "DeskMachine" x_i103.1 x_i103.1) (List.mem_of_getElem? (i := 319) (by decide +kernel)))⟩ ⟨x_Pc_blind NW9_mv, va_recv hK (xo_l hP) (q0 := 0) rfl rfl, fun U hU hW => ⟨rfl, by rw [hU]; exact xo_l hP, va_K.moved hW.alike hK, NW9_nar (NW9_mv s U hN hW (fun q h1 h2 => by rw [hU]; exact hS.2.1 q h1 h2)) hAs⟩⟩ rfl rfl hl.1 rfl (Nat.le_of_ble_eq_true rfl) dL_law_493 ⟨hcb, hsb⟩) hP hq hS (fun q h => hAs q h) (fun H locs hP hS => ?_)
  refine W.eq (g2 := F0 m 496 ls [.int r]) rfl ?_
  refine lv_aload_n hx hb dL_law_496 rfl (lv_at hl 3 rfl) ?_
  refine lv_aload_n hx hb dL_law_497 rfl (lv_at hl 1 rfl) ?_
  refine lv_iload hx hb dL_law_498 (lv_at hl 0 rfl) ?_
  refine lv_iconst (v := 1) hx hb dL_law_500 (by decide) ?_
  refine lv_iadd hx hb dL_law_501 ?_
  refine lv_topi (fun x9 e9 => ?_)
  have e9 : x9 = nI (4 * k + 1) := e9.trans (nI_add _ 1)
  subst e9
  refine va_sld hx hb hX hbl hbA hS (vp_in_nI (n := 4 * k + 1) (by omega) (by omega)) dL_law_502 ?_
  refine lv_topi (fun x9 e9 => ?_)
  have e9 : x9 = xs (4 * k + 1) := e9.trans (congrArg xs (nI_clamp (by omega)))
  subst e9
  have hM9 : Met l x_i168.1 (x_ws x_i168) (x_rmo x_i168) (x_Pc D x_cl tys ad cI cZ x_sh (NW9 A ad adV) (.ref 19 :: [.int (xs (4 * k + 1))]) _) (x_Qc D x_cl A ad cI cZ x_sh false _) 0 0 A := x_M_ok hD ht1 ht2 2 168 _ _ _ q2
  refine x_callO (va_runV (As := [.int (xs (4 * k + 1))]) (rest := [.int r]) (C := "DeskMachineModel") (b := ad 19) ⟨hx, hb, hml, hown, hts⟩ hM9 ⟨callB_of 1 hts (lw_gx 1248 (by decide +kernel)) rfl rfl rfl (hts (.initialized "DeskMachineModel") (List.mem_of_getElem? (i := 120) (by decide +kernel))) (hts (.methodLink "DeskMachineLaw" 69 x_i168.1) (List.mem_of_getElem? (i := 1245) (by decide +kernel))) (by decide +kernel) ⟨Nat.le_of_ble_eq_true rfl, Nat.le_of_ble_eq_true rfl⟩, (hts (.instanceMethod x_i168.1) (List.mem_of_getElem? (i := 1246) (by decide +kernel))), (hts (.selects "DeskMachineModel" x_i168.1 x_i168.1) (List.mem_of_getElem? (i := 1247) (by decide +kernel)))⟩ ⟨x_Pc_blind NW9_mv, va_recv hK (xo_l hP) (q0 := 19) rfl rfl, fun U hU hW => ⟨rfl, by rw [hU]; exact xo_l hP, va_K.moved hW.alike hK, NW9_nar (NW9_mv s U hN hW (fun q h1 h2 => by rw [hU]; exact hS.2.1 q h1 h2)) hAs⟩⟩ rfl rfl hl.1 rfl (Nat.le_of_ble_eq_true rfl) dL_law_503 ⟨hcb, hsb⟩) hP hq hS (fun q h => hAs q h) (fun H locs hP hS => ?_)
  refine W.eq (g2 := F0 m 506 ls [.int r, .int r]) rfl ?_
  refine lv_icmp_eq (tgt := 561) hx hb dL_law_506 (by decide) (fun _ => ?_) (fun h9 => absurd rfl h9)
  refine W.widen (k := 40 + (k + 1)) (n := 3000 + 6 * (k + 1)) (by omega) (by omega) ?_
  exact next R9 σ2 f H locs ls hP x2 y2 i2 hS hl
set_option maxHeartbeats 8000000 in
set_option maxRecDepth 100000 in
theorem lc_reg {p : Program} {l : Launch} {e : Env} {s : State} {m : MethodId} {below : List Frame} {meth : Method} {c : Code} {b L : Nat} {xs : Nat → Int32} (hL : L ≤ 2048) (hlt : l.stackTraces = false) (C0 : lw_At p s m meth c b L xs) {D : va_G} {tys : List (ClassId × FieldType)} {A : Nat → Prop} {ad adV : Nat → Nat} {cI cZ cJ : ClassId} (hD : ∀ σ : xS, va_D A (x_w ad cI cZ x_sh σ)) {t1 t2 t3 : Nat} (ht1 : tys[t1]? = some (cI, .int)) (ht2 : tys[t2]? = some (cZ, .boolean)) (ht3 : tys[t3]? = some (cJ, .long)) {qo : Nat} (hq : ¬ A qo) (hAs : ∀ q, A q → s.heap.size ≤ q) (hqs : s.heap.size ≤ qo) (hK : va_K D x_cl tys s) (hN : NW9 (fun q => s.heap.size ≤ q) ad adV s) {k : Nat} (hk : 4 * k + 4 ≤ L) {A9 : aS} {σ : xS} {f : Nat → Int64} {H : Heap} {locs : List Loc} {ls : Array Slot} (hP : va_P D x_cl (xo ad cI cZ σ qo cJ f) H) (hXC : XC A9 σ) (hXM : XM A9 σ) (hiv : Iv k A9) (hS : va_S (fun q => s.heap.size ≤ q) s.heap H locs) (hl : lv_has ls 7 [(4, .int (nI (4 * k))), (0, .ref b), (1, .ref (ad 0)), (2, .ref (ad 19)), (3, .ref qo)]) (next : ∀ (A9 : aS) (σ : xS) (f : Nat → Int64) (H : Heap) (locs : List Loc) (ls : Array Slot), va_P D x_cl (xo ad cI cZ σ qo cJ f) H → XC A9 σ → XM A9 σ → Iv (k + 1) A9 → va_S (fun q => s.heap.size ≤ q) s.heap H locs → lv_has ls 7 [(4, .int (nI (4 * k))), (0, .ref b), (1, .ref (ad 0)), (2, .ref (ad 19)), (3, .ref qo)] → W p l e room_1 s m #[Value.ref b] below meth c H locs (40 + (k + 1)) (3000 + 6 * (k + 1)) (lw_Z below #[Value.ref b] s) (F0 m 561 ls [])) : W p l e room_1 s m #[Value.ref b] below meth c H locs (40 + k) (3000 + 6 * k) (lw_Z below #[Value.ref b] s) (F0 m 511 ls []) := by
  obtain ⟨hx, hb, hr, hml, hown, hts, hX, hbl, hlocks, -⟩ := C0
  have hown : s.vm.findClass "DeskMachineLaw" = some m.cls := hown
  have hbA : ¬ s.heap.size ≤ b := by omega
  have hAh : ∀ q, hl_A A qo q → s.heap.size ≤ q := fun q h => h.elim (hAs q) (fun e => by rw [e]; exact hqs)
  have hcb : 40 + k + 0 ≤ 1059 := by omega
  have hsb : 3000 + 6 * k + 0 ≤ 10883 := by omega
  obtain ⟨r, R9, σ1, σ2, q1, q2, x2, y2, i2, z2⟩ := law_same (d := 0) (vs := [(xs (4 * k + 1))]) hXM (fun τ kt => reg_ok 0 hXC kt hiv (xs (4 * k + 1)))
  refine lv_aload_n hx hb dL_law_511 rfl (lv_at hl 2 rfl) ?_
  refine lv_aload_n hx hb dL_law_512 rfl (lv_at hl 1 rfl) ?_
  refine lv_iload hx hb dL_law_513 (lv_at hl 0 rfl) ?_
  refine lv_iconst (v := 1) hx hb dL_law_515 (by decide) ?_
  refine lv_iadd hx hb dL_law_516 ?_
  refine lv_topi (fun x9 e9 => ?_)
  have e9 : x9 = nI (4 * k + 1) := e9.trans (nI_add _ 1)
  subst e9
  refine va_sld hx hb hX hbl hbA hS (vp_in_nI (n := 4 * k + 1) (by omega) (by omega)) dL_law_517 ?_
  refine lv_topi (fun x9 e9 => ?_)
  have e9 : x9 = xs (4 * k + 1) := e9.trans (congrArg xs (nI_clamp (by omega)))
  subst e9
  have hM9 : Met l x_i104.1 (x_ws x_i104) (x_rmo x_i104) (x_Pc D x_cl tys ad cI cZ x_sh (NW9 A ad adV) (.ref 0 :: [.int (xs (4 * k + 1))]) _) (x_Qc D x_cl A ad cI cZ x_sh false _) 0 0 A := x_M_ok hD ht1 ht2 2 104 _ _ _ q1
  refine x_callO (va_runV (As := [.int (xs (4 * k + 1))]) (rest := []) (C := "DeskMachine") (b := ad 0) ⟨hx, hb, hml, hown, hts⟩ hM9 ⟨callB_of 1 hts (lw_gx 328 (by decide +kernel)) rfl rfl rfl (hts (.initialized "DeskMachine") (List.mem_of_getElem? (i := 112) (by decide +kernel))) (hts (.methodLink "DeskMachineLaw" 70 x_i104.1) (List.mem_of_getElem? (i := 325) (by decide +kernel))) (by decide +kernel) ⟨Nat.le_of_ble_eq_true rfl, Nat.le_of_ble_eq_true rfl⟩, (hts (.instanceMethod x_i104.1) (List.mem_of_getElem? (i := 326) (by decide +kernel))), (hts (.selects "DeskMachine" x_i104.1 x_i104.1) (List.mem_of_getElem? (i := 327) (by decide +kernel)))⟩ ⟨x_Pc_blind NW9_mv, va_recv hK (xo_l hP) (q0 := 0) rfl rfl, fun U hU hW => ⟨rfl, by rw [hU]; exact xo_l hP, va_K.moved hW.alike hK, NW9_nar (NW9_mv s U hN hW (fun q h1 h2 => by rw [hU]; exact hS.2.1 q h1 h2)) hAs⟩⟩ rfl rfl hl.1 rfl (Nat.le_of_ble_eq_true rfl) dL_law_518 ⟨hcb, hsb⟩) hP hq hS (fun q h => hAs q h) (fun H locs hP hS => ?_)
  refine W.eq (g2 := F0 m 521 ls [.int r]) rfl ?_
  refine lv_aload_n hx hb dL_law_521 rfl (lv_at hl 3 rfl) ?_
  refine lv_aload_n hx hb dL_law_522 rfl (lv_at hl 1 rfl) ?_
  refine lv_iload hx hb dL_law_523 (lv_at hl 0 rfl) ?_
  refine lv_iconst (v := 1) hx hb dL_law_525 (by decide) ?_
  refine lv_iadd hx hb dL_law_526 ?_
  refine lv_topi (fun x9 e9 => ?_)
  have e9 : x9 = nI (4 * k + 1) := e9.trans (nI_add _ 1)
  subst e9
  refine va_sld hx hb hX hbl hbA hS (vp_in_nI (n := 4 * k + 1) (by omega) (by omega)) dL_law_527 ?_
  refine lv_topi (fun x9 e9 => ?_)
  have e9 : x9 = xs (4 * k + 1) := e9.trans (congrArg xs (nI_clamp (by omega)))
  subst e9
  have hM9 : Met l x_i169.1 (x_ws x_i169) (x_rmo x_i169) (x_Pc D x_cl tys ad cI cZ x_sh (NW9 A ad adV) (.ref 19 :: [.int (xs (4 * k + 1))]) _) (x_Qc D x_cl A ad cI cZ x_sh false _) 0 0 A := x_M_ok hD ht1 ht2 2 169 _ _ _ q2
  refine x_callO (va_runV (As := [.int (xs (4 * k + 1))]) (rest := [.int r]) (C := "DeskMachineModel") (b := ad 19) ⟨hx, hb, hml, hown, hts⟩ hM9 ⟨callB_of 1 hts (lw_gx 1252 (by decide +kernel)) rfl rfl rfl (hts (.initialized "DeskMachineModel") (List.mem_of_getElem? (i := 120) (by decide +kernel))) (hts (.methodLink "DeskMachineLaw" 73 x_i169.1) (List.mem_of_getElem? (i := 1249) (by decide +kernel))) (by decide +kernel) ⟨Nat.le_of_ble_eq_true rfl, Nat.le_of_ble_eq_true rfl⟩, (hts (.instanceMethod x_i169.1) (List.mem_of_getElem? (i := 1250) (by decide +kernel))), (hts (.selects "DeskMachineModel" x_i169.1 x_i169.1) (List.mem_of_getElem? (i := 1251) (by decide +kernel)))⟩ ⟨x_Pc_blind NW9_mv, va_recv hK (xo_l hP) (q0 := 19) rfl rfl, fun U hU hW => ⟨rfl, by rw [hU]; exact xo_l hP, va_K.moved hW.alike hK, NW9_nar (NW9_mv s U hN hW (fun q h1 h2 => by rw [hU]; exact hS.2.1 q h1 h2)) hAs⟩⟩ rfl rfl hl.1 rfl (Nat.le_of_ble_eq_true rfl) dL_law_528 ⟨hcb, hsb⟩) hP hq hS (fun q h => hAs q h) (fun H locs hP hS => ?_)
  refine W.eq (g2 := F0 m 531 ls [.int r, .int r]) rfl ?_
  refine lv_icmp_eq (tgt := 561) hx hb dL_law_531 (by decide) (fun _ => ?_) (fun h9 => absurd rfl h9)
  refine W.widen (k := 40 + (k + 1)) (n := 3000 + 6 * (k + 1)) (by omega) (by omega) ?_
  exact next R9 σ2 f H locs ls hP x2 y2 i2 hS hl
set_option maxHeartbeats 8000000 in
set_option maxRecDepth 100000 in
theorem lc_about {p : Program} {l : Launch} {e : Env} {s : State} {m : MethodId} {below : List Frame} {meth : Method} {c : Code} {b L : Nat} {xs : Nat → Int32} (hL : L ≤ 2048) (hlt : l.stackTraces = false) (C0 : lw_At p s m meth c b L xs) {D : va_G} {tys : List (ClassId × FieldType)} {A : Nat → Prop} {ad adV : Nat → Nat} {cI cZ cJ : ClassId} (hD : ∀ σ : xS, va_D A (x_w ad cI cZ x_sh σ)) {t1 t2 t3 : Nat} (ht1 : tys[t1]? = some (cI, .int)) (ht2 : tys[t2]? = some (cZ, .boolean)) (ht3 : tys[t3]? = some (cJ, .long)) {qo : Nat} (hq : ¬ A qo) (hAs : ∀ q, A q → s.heap.size ≤ q) (hqs : s.heap.size ≤ qo) (hK : va_K D x_cl tys s) (hN : NW9 (fun q => s.heap.size ≤ q) ad adV s) {k : Nat} (hk : 4 * k + 4 ≤ L) {A9 : aS} {σ : xS} {f : Nat → Int64} {H : Heap} {locs : List Loc} {ls : Array Slot} (hP : va_P D x_cl (xo ad cI cZ σ qo cJ f) H) (hXC : XC A9 σ) (hXM : XM A9 σ) (hiv : Iv k A9) (hS : va_S (fun q => s.heap.size ≤ q) s.heap H locs) (hl : lv_has ls 7 [(4, .int (nI (4 * k))), (0, .ref b), (1, .ref (ad 0)), (2, .ref (ad 19)), (3, .ref qo)]) (next : ∀ (A9 : aS) (σ : xS) (f : Nat → Int64) (H : Heap) (locs : List Loc) (ls : Array Slot), va_P D x_cl (xo ad cI cZ σ qo cJ f) H → XC A9 σ → XM A9 σ → Iv (k + 1) A9 → va_S (fun q => s.heap.size ≤ q) s.heap H locs → lv_has ls 7 [(4, .int (nI (4 * k))), (0, .ref b), (1, .ref (ad 0)), (2, .ref (ad 19)), (3, .ref qo)] → W p l e room_1 s m #[Value.ref b] below meth c H locs (40 + (k + 1)) (3000 + 6 * (k + 1)) (lw_Z below #[Value.ref b] s) (F0 m 561 ls [])) : W p l e room_1 s m #[Value.ref b] below meth c H locs (40 + k) (3000 + 6 * k) (lw_Z below #[Value.ref b] s) (F0 m 536 ls []) := by
  obtain ⟨hx, hb, hr, hml, hown, hts, hX, hbl, hlocks, -⟩ := C0
  have hown : s.vm.findClass "DeskMachineLaw" = some m.cls := hown
  have hbA : ¬ s.heap.size ≤ b := by omega
  have hAh : ∀ q, hl_A A qo q → s.heap.size ≤ q := fun q h => h.elim (hAs q) (fun e => by rw [e]; exact hqs)
  have hcb : 40 + k + 0 ≤ 1059 := by omega
  have hsb : 3000 + 6 * k + 0 ≤ 10883 := by omega
  obtain ⟨r, R9, σ1, σ2, q1, q2, x2, y2, i2, z2⟩ := law_same (d := 0) (vs := [(xs (4 * k + 1))]) hXM (fun τ kt => about_ok 0 hXC kt hiv (xs (4 * k + 1)))
  refine lv_aload_n hx hb dL_law_536 rfl (lv_at hl 2 rfl) ?_
  refine lv_aload_n hx hb dL_law_537 rfl (lv_at hl 1 rfl) ?_
  refine lv_iload hx hb dL_law_538 (lv_at hl 0 rfl) ?_
  refine lv_iconst (v := 1) hx hb dL_law_540 (by decide) ?_
  refine lv_iadd hx hb dL_law_541 ?_
  refine lv_topi (fun x9 e9 => ?_)
  have e9 : x9 = nI (4 * k + 1) := e9.trans (nI_add _ 1)
  subst e9
  refine va_sld hx hb hX hbl hbA hS (vp_in_nI (n := 4 * k + 1) (by omega) (by omega)) dL_law_542 ?_
  refine lv_topi (fun x9 e9 => ?_)
  have e9 : x9 = xs (4 * k + 1) := e9.trans (congrArg xs (nI_clamp (by omega)))
  subst e9
  have hM9 : Met l x_i105.1 (x_ws x_i105) (x_rmo x_i105) (x_Pc D x_cl tys ad cI cZ x_sh (NW9 A ad adV) (.ref 0 :: [.int (xs (4 * k + 1))]) _) (x_Qc D x_cl A ad cI cZ x_sh false _) 0 0 A := x_M_ok hD ht1 ht2 2 105 _ _ _ q1
  refine x_callO (va_runV (As := [.int (xs (4 * k + 1))]) (rest := []) (C := "DeskMachine") (b := ad 0) ⟨hx, hb, hml, hown, hts⟩ hM9 ⟨callB_of 1 hts (lw_gx 336 (by decide +kernel)) rfl rfl rfl (hts (.initialized "DeskMachine") (List.mem_of_getElem? (i := 112) (by decide +kernel))) (hts (.methodLink "DeskMachineLaw" 74 x_i105.1) (List.mem_of_getElem? (i := 333) (by decide +kernel))) (by decide +kernel) ⟨Nat.le_of_ble_eq_true rfl, Nat.le_of_ble_eq_true rfl⟩, (hts (.instanceMethod x_i105.1) (List.mem_of_getElem? (i := 334) (by decide +kernel))), (hts (.selects "DeskMachine" x_i105.1 x_i105.1) (List.mem_of_getElem? (i := 335) (by decide +kernel)))⟩ ⟨x_Pc_blind NW9_mv, va_recv hK (xo_l hP) (q0 := 0) rfl rfl, fun U hU hW => ⟨rfl, by rw [hU]; exact xo_l hP, va_K.moved hW.alike hK, NW9_nar (NW9_mv s U hN hW (fun q h1 h2 => by rw [hU]; exact hS.2.1 q h1 h2)) hAs⟩⟩ rfl rfl hl.1 rfl (Nat.le_of_ble_eq_true rfl) dL_law_543 ⟨hcb, hsb⟩) hP hq hS (fun q h => hAs q h) (fun H locs hP hS => ?_)
  refine W.eq (g2 := F0 m 546 ls [.int r]) rfl ?_
  refine lv_aload_n hx hb dL_law_546 rfl (lv_at hl 3 rfl) ?_
  refine lv_aload_n hx hb dL_law_547 rfl (lv_at hl 1 rfl) ?_
  refine lv_iload hx hb dL_law_548 (lv_at hl 0 rfl) ?_
  refine lv_iconst (v := 1) hx hb dL_law_550 (by decide) ?_
  refine lv_iadd hx hb dL_law_551 ?_
  refine lv_topi (fun x9 e9 => ?_)
  have e9 : x9 = nI (4 * k + 1) := e9.trans (nI_add _ 1)
  subst e9
  refine va_sld hx hb hX hbl hbA hS (vp_in_nI (n := 4 * k + 1) (by omega) (by omega)) dL_law_552 ?_
  refine lv_topi (fun x9 e9 => ?_)
  have e9 : x9 = xs (4 * k + 1) := e9.trans (congrArg xs (nI_clamp (by omega)))
  subst e9
  have hM9 : Met l x_i170.1 (x_ws x_i170) (x_rmo x_i170) (x_Pc D x_cl tys ad cI cZ x_sh (NW9 A ad adV) (.ref 19 :: [.int (xs (4 * k + 1))]) _) (x_Qc D x_cl A ad cI cZ x_sh false _) 0 0 A := x_M_ok hD ht1 ht2 2 170 _ _ _ q2
  refine x_callO (va_runV (As := [.int (xs (4 * k + 1))]) (rest := [.int r]) (C := "DeskMachineModel") (b := ad 19) ⟨hx, hb, hml, hown, hts⟩ hM9 ⟨callB_of 1 hts (lw_gx 1256 (by decide +kernel)) rfl rfl rfl (hts (.initialized "DeskMachineModel") (List.mem_of_getElem? (i := 120) (by decide +kernel))) (hts (.methodLink "DeskMachineLaw" 77 x_i170.1) (List.mem_of_getElem? (i := 1253) (by decide +kernel))) (by decide +kernel) ⟨Nat.le_of_ble_eq_true rfl, Nat.le_of_ble_eq_true rfl⟩, (hts (.instanceMethod x_i170.1) (List.mem_of_getElem? (i := 1254) (by decide +kernel))), (hts (.selects "DeskMachineModel" x_i170.1 x_i170.1) (List.mem_of_getElem? (i := 1255) (by decide +kernel)))⟩ ⟨x_Pc_blind NW9_mv, va_recv hK (xo_l hP) (q0 := 19) rfl rfl, fun U hU hW => ⟨rfl, by rw [hU]; exact xo_l hP, va_K.moved hW.alike hK, NW9_nar (NW9_mv s U hN hW (fun q h1 h2 => by rw [hU]; exact hS.2.1 q h1 h2)) hAs⟩⟩ rfl rfl hl.1 rfl (Nat.le_of_ble_eq_true rfl) dL_law_553 ⟨hcb, hsb⟩) hP hq hS (fun q h => hAs q h) (fun H locs hP hS => ?_)
  refine W.eq (g2 := F0 m 556 ls [.int r, .int r]) rfl ?_
  refine lv_icmp_eq (tgt := 561) hx hb dL_law_556 (by decide) (fun _ => ?_) (fun h9 => absurd rfl h9)
  refine W.widen (k := 40 + (k + 1)) (n := 3000 + 6 * (k + 1)) (by omega) (by omega) ?_
  exact next R9 σ2 f H locs ls hP x2 y2 i2 hS hl
set_option maxHeartbeats 8000000 in
set_option maxRecDepth 100000 in
theorem lw_loop {p : Program} {l : Launch} {e : Env} {s : State} {m : MethodId} {below : List Frame} {meth : Method} {c : Code} {b L : Nat} {xs : Nat → Int32} (hL : L ≤ 2048) (hlt : l.stackTraces = false) (C0 : lw_At p s m meth c b L xs) {D : va_G} {tys : List (ClassId × FieldType)} {A : Nat → Prop} {ad adV : Nat → Nat} {cI cZ cJ : ClassId} (hD : ∀ σ : xS, va_D A (x_w ad cI cZ x_sh σ)) {t1 t2 t3 : Nat} (ht1 : tys[t1]? = some (cI, .int)) (ht2 : tys[t2]? = some (cZ, .boolean)) (ht3 : tys[t3]? = some (cJ, .long)) {qo : Nat} (hq : ¬ A qo) (hAs : ∀ q, A q → s.heap.size ≤ q) (hqs : s.heap.size ≤ qo) (hK : va_K D x_cl tys s) (hN : NW9 (fun q => s.heap.size ≤ q) ad adV s) : ∀ (n k : Nat), n + k = 513 → ∀ (A9 : aS) (σ : xS) (f : Nat → Int64) (H : Heap) (locs : List Loc) (ls : Array Slot), va_P D x_cl (xo ad cI cZ σ qo cJ f) H → XC A9 σ → XM A9 σ → Iv k A9 → va_S (fun q => s.heap.size ≤ q) s.heap H locs → lv_has ls 7 [(4, .int (nI (4 * k))), (0, .ref b), (1, .ref (ad 0)), (2, .ref (ad 19)), (3, .ref qo)] → W p l e room_1 s m #[Value.ref b] below meth c H locs (40 + k) (3000 + 6 * k) (lw_Z below #[Value.ref b] s) (F0 m 23 ls []) := by
  have C1 := C0
  obtain ⟨hx, hb, hr, hml, hown, hts, hX, hbl, hlocks, -⟩ := C0
  have hown : s.vm.findClass "DeskMachineLaw" = some m.cls := hown
  have hbA : ¬ s.heap.size ≤ b := by omega
  have hAh : ∀ q, hl_A A qo q → s.heap.size ≤ q := fun q h => h.elim (hAs q) (fun e => by rw [e]; exact hqs)
  intro n
  induction n with
  | zero =>
    intro k hk A9 σ f H locs ls hP hXC hXM hiv hS hl
    refine lv_iload hx hb dL_law_23 (lv_at hl 0 rfl) ?_
    refine lv_aload_n hx hb dL_law_25 rfl (lv_at hl 1 rfl) ?_
    refine va_slen hx hb hX hbl hbA hS dL_law_26 ?_
    refine lv_iconst (v := 4) hx hb dL_law_27 (by decide) ?_
    refine lv_isub hx hb dL_law_28 ?_
    refine lv_icmp_gt (tgt := 567) hx hb dL_law_29 (by decide) (fun _ => ?_) (fun h9 => absurd ((lw_gt (L := L) (i := 4 * k) hL (by omega)).mpr (by omega)) h9)
    refine lv_iconst (v := 1) hx hb dL_law_567 (by decide) ?_
    refine va_forget (fun q hq => hS.2.2 q hq) ?_
    refine W.widen (k := 1059) (n := 10883) (by omega) (by omega) ?_
    exact lw_ret hx hb hr hlocks dL_law_568
  | succ n ih =>
    intro k hk A9 σ f H locs ls hP hXC hXM hiv hS hl
    refine lv_iload hx hb dL_law_23 (lv_at hl 0 rfl) ?_
    refine lv_aload_n hx hb dL_law_25 rfl (lv_at hl 1 rfl) ?_
    refine va_slen hx hb hX hbl hbA hS dL_law_26 ?_
    refine lv_iconst (v := 4) hx hb dL_law_27 (by decide) ?_
    refine lv_isub hx hb dL_law_28 ?_
    refine lv_icmp_gt (tgt := 567) hx hb dL_law_29 (by decide) (fun _ => ?_) (fun h9 => ?_)
    · refine lv_iconst (v := 1) hx hb dL_law_567 (by decide) ?_
      refine va_forget (fun q hq => hS.2.2 q hq) ?_
      refine W.widen (k := 1059) (n := 10883) (by omega) (by omega) ?_
      exact lw_ret hx hb hr hlocks dL_law_568
    have hk4 : 4 * k + 4 ≤ L := by
      by_cases g : 4 * k + 4 ≤ L
      · exact g
      · exact absurd ((lw_gt (L := L) (i := 4 * k) hL (by omega)).mpr (by omega)) h9
    have next : ∀ (A9 : aS) (σ : xS) (f : Nat → Int64) (H : Heap) (locs : List Loc) (ls : Array Slot), va_P D x_cl (xo ad cI cZ σ qo cJ f) H → XC A9 σ → XM A9 σ → Iv (k + 1) A9 → va_S (fun q => s.heap.size ≤ q) s.heap H locs → lv_has ls 7 [(4, .int (nI (4 * k))), (0, .ref b), (1, .ref (ad 0)), (2, .ref (ad 19)), (3, .ref qo)] → W p l e room_1 s m #[Value.ref b] below meth c H locs (40 + (k + 1)) (3000 + 6 * (k + 1)) (lw_Z below #[Value.ref b] s) (F0 m 561 ls []) := fun A9 σ f H locs ls hP h1 h2 h3 hS hl => by
      refine lv_iinc (v := nI (4 * (k + 1))) (k := 0) hx hb dL_law_561 hl rfl (nI_add (4 * k) 4) (by decide) rfl (fun ls hl => ?_)
      refine lv_goto (tgt := 23) hx hb dL_law_564 (by decide) ?_
      exact ih (k + 1) (by omega) A9 σ f H locs ls hP h1 h2 h3 hS hl
    refine lv_aload_n hx hb dL_law_32 rfl (lv_at hl 1 rfl) ?_
    refine lv_iload hx hb dL_law_33 (lv_at hl 0 rfl) ?_
    refine va_sld hx hb hX hbl hbA hS (vp_in_nI (n := 4 * k) (by omega) (by omega)) dL_law_35 ?_
    refine lv_bipush (v := 15) hx hb dL_law_36 (by decide) ?_
    refine lv_iand hx hb dL_law_38 ?_
    refine lv_topi (fun x9 e9 => ?_)
    obtain ⟨w, hw, ew⟩ := i_nI (xs (nI (4 * k)).toNatClampNeg)
    rw [ew, n_and15 hw] at e9
    have hw16 : w % 16 < 16 := by omega
    generalize w % 16 = j at e9 hw16
    subst e9
    have hj : j = 0 ∨ j = 1 ∨ j = 2 ∨ j = 3 ∨ j = 4 ∨ j = 5 ∨ j = 6 ∨ j = 7 ∨ j = 8 ∨ 8 < j := by omega
    rcases hj with rfl | rfl | rfl | rfl | rfl | rfl | rfl | rfl | rfl | hj
    · exact lv_tableIn (tgt := 88) (off := 49) hx hb dL_law_39 (by decide) (by decide) (by decide) (by decide) (lc_key hL hlt C1 hD ht1 ht2 ht3 hq hAs hqs hK hN hk4 hP hXC hXM hiv hS hl next)
    · exact lv_tableIn (tgt := 144) (off := 105) hx hb dL_law_39 (by decide) (by decide) (by decide) (by decide) (lc_run hL hlt C1 hD ht1 ht2 ht3 hq hAs hqs hK hN hk4 hP hXC hXM hiv hS hl next)
    · exact lv_tableIn (tgt := 200) (off := 161) hx hb dL_law_39 (by decide) (by decide) (by decide) (by decide) (lc_poke hL hlt C1 hD ht1 ht2 ht3 hq hAs hqs hK hN hk4 hP hXC hXM hiv hS hl next)
    · exact lv_tableIn (tgt := 275) (off := 236) hx hb dL_law_39 (by decide) (by decide) (by decide) (by decide) (lc_peek hL hlt C1 hD ht1 ht2 ht3 hq hAs hqs hK hN hk4 hP hXC hXM hiv hS hl next)
    · exact lv_tableIn (tgt := 331) (off := 292) hx hb dL_law_39 (by decide) (by decide) (by decide) (by decide) (lc_disk hL hlt C1 hD ht1 ht2 ht3 hq hAs hqs hK hN hk4 hP hXC hXM hiv hS hl next)
    · exact lv_tableIn (tgt := 399) (off := 360) hx hb dL_law_39 (by decide) (by decide) (by decide) (by decide) (lc_burn hL hlt C1 hD ht1 ht2 ht3 hq hAs hqs hK hN hk4 hP hXC hXM hiv hS hl next)
    · exact lv_tableIn (tgt := 486) (off := 447) hx hb dL_law_39 (by decide) (by decide) (by decide) (by decide) (lc_shown hL hlt C1 hD ht1 ht2 ht3 hq hAs hqs hK hN hk4 hP hXC hXM hiv hS hl next)
    · exact lv_tableIn (tgt := 511) (off := 472) hx hb dL_law_39 (by decide) (by decide) (by decide) (by decide) (lc_reg hL hlt C1 hD ht1 ht2 ht3 hq hAs hqs hK hN hk4 hP hXC hXM hiv hS hl next)
    · exact lv_tableIn (tgt := 536) (off := 497) hx hb dL_law_39 (by decide) (by decide) (by decide) (by decide) (lc_about hL hlt C1 hD ht1 ht2 ht3 hq hAs hqs hK hN hk4 hP hXC hXM hiv hS hl next)
    · refine lv_tableOut (tgt := 561) hx hb dL_law_39 (Or.inr (by rw [nI_toInt (by omega)]; omega)) (by decide) ?_
      refine W.widen (k := 40 + (k + 1)) (n := 3000 + 6 * (k + 1)) (by omega) (by omega) ?_
      exact next A9 σ f H locs ls hP hXC hXM (iv_up hiv) hS hl
