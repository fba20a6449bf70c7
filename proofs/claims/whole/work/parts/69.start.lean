/-! The law's start -/
set_option maxRecDepth 100000 in
theorem gi_X7 : GoodIn lw_tbl wsX7_init := goodIn_of _ (by decide +kernel)
set_option maxRecDepth 100000 in
theorem gi_XM : GoodIn lw_tbl wsXM_init := goodIn_of _ (by decide +kernel)
set_option maxHeartbeats 8000000 in
set_option maxRecDepth 100000 in
theorem whole_start {p : Program} {e : Env} {s : State} {m : MethodId} {below : List Frame} {meth : Method} {c : Code} (l : Launch) (hlt : l.stackTraces = false) {b L : Nat} {xs : Nat → Int32} (hL : L ≤ 2048) (C0 : lw_At p s m meth c b L xs) : W p l e room_1 s m #[Value.ref b] below meth c s.heap [] 0 0 (lw_Z below #[Value.ref b] s) (entryFrame m ([Value.ref b] : List Value).toArray 7) := by
  have C1 := C0
  obtain ⟨hx, hb, hr, hml, hown, hts, hX, hbl, hlocks, hgv⟩ := C0
  have hown : s.vm.findClass "DeskMachineLaw" = some m.cls := hown
  obtain ⟨w9, K, adV, hNW⟩ := nw_start hts hgv
  obtain ⟨k0, j0, h0⟩ := u_known (T := TX7) (N := 9) hts (fun w h => (gl_X7 w h).1) (hts (.instantiable "DeskMachine" 9) (List.mem_of_getElem? (i := 132) (by decide +kernel)))
  obtain ⟨k1, j1, h1⟩ := u_known (T := TX4) (N := 1) hts (fun w h => (gl_X4 w h).1) (hts (.instantiable "DeskMachine$Memory" 1) (List.mem_of_getElem? (i := 140) (by decide +kernel)))
  obtain ⟨k2, j2, h2⟩ := u_known (T := TX5) (N := 9) hts (fun w h => (gl_X5 w h).1) (hts (.instantiable "DeskMachine$Processor" 9) (List.mem_of_getElem? (i := 151) (by decide +kernel)))
  obtain ⟨k3, j3, h3⟩ := u_known (T := TX1) (N := 2) hts (fun w h => (gl_X1 w h).1) (hts (.instantiable "DeskMachine$Disk" 2) (List.mem_of_getElem? (i := 188) (by decide +kernel)))
  obtain ⟨k4, j4, h4⟩ := u_known (T := TX3) (N := 3) hts (fun w h => (gl_X3 w h).1) (hts (.instantiable "DeskMachine$KeyQueue" 3) (List.mem_of_getElem? (i := 202) (by decide +kernel)))
  obtain ⟨k5, j5, h5⟩ := u_known (T := TX6) (N := 2) hts (fun w h => (gl_X6 w h).1) (hts (.instantiable "DeskMachine$Screen" 2) (List.mem_of_getElem? (i := 218) (by decide +kernel)))
  obtain ⟨k6, j6, h6⟩ := u_known (T := TX2) (N := 5) hts (fun w h => (gl_X2 w h).1) (hts (.instantiable "DeskMachine$FileCalls" 5) (List.mem_of_getElem? (i := 232) (by decide +kernel)))
  obtain ⟨k7, j7, h7⟩ := u_known (T := TX0) (N := 9) hts (fun w h => (gl_X0 w h).1) (hts (.instantiable "DeskMachine$Desk" 9) (List.mem_of_getElem? (i := 255) (by decide +kernel)))
  obtain ⟨k8, j8, h8⟩ := u_known (T := TXM) (N := 22) hts (fun w h => (gl_XM w h).1) (hts (.instantiable "DeskMachineModel" 22) (List.mem_of_getElem? (i := 924) (by decide +kernel)))
  obtain ⟨dC, hdC⟩ : ∃ f : Nat → ClassId, f = fun k => match k with | 0 => k0 | 1 => k1 | 2 => k2 | 3 => k3 | 4 => k4 | 5 => k5 | 6 => k6 | 7 => k7 | _ => k8 := ⟨_, rfl⟩
  obtain ⟨dI, hdI⟩ : ∃ f : Nat → Nat → Nat, f = fun k => match k with | 0 => j0 | 1 => j1 | 2 => j2 | 3 => j3 | 4 => j4 | 5 => j5 | 6 => j6 | 7 => j7 | _ => j8 := ⟨_, rfl⟩
  have hK : va_K (dC, dI) x_cl [] s := by
    subst hdC
    subst hdI
    refine ⟨fun c q hq => ?_, fun k q hk => nomatch hk⟩
    have hc : c < 9 := (List.getElem?_eq_some_iff.mp hq).1
    have e : c = 0 ∨ c = 1 ∨ c = 2 ∨ c = 3 ∨ c = 4 ∨ c = 5 ∨ c = 6 ∨ c = 7 ∨ c = 8 := by omega
    rcases e with rfl | rfl | rfl | rfl | rfl | rfl | rfl | rfl | rfl <;> cases hq
    · exact h0
    · exact h1
    · exact h2
    · exact h3
    · exact h4
    · exact h5
    · exact h6
    · exact h7
    · exact h8
  clear hdC hdI
  have hA : ∀ q : Nat, s.heap.size ≤ q → (fun q => s.heap.size ≤ q) q := fun q h => h
  have hP : va_P (dC, dI) x_cl [] s.heap := fun k q hk => nomatch hk
  have hD : va_D (fun q => s.heap.size ≤ q) [] := ⟨fun i j p q hi => (nomatch hi), fun k q hk => (nomatch hk)⟩
  have hS : va_S (fun q => s.heap.size ≤ q) s.heap s.heap [] := va_S.rf
  have hl := lv_entry ([Value.ref b]) (n := 7) (Nat.le_of_ble_eq_true rfl)
  rw [lg_entry_eq]
  generalize (lg_sl ([Value.ref b]) ++ List.replicate (7 - (lg_sl ([Value.ref b])).length) Slot.unset).toArray = ls at hl ⊢
  have hl : lv_has ls 7 [(0, .ref b)] := hl
  refine va_new (ci := 0) (fs := [.null, .null, .null, .null, .null, .null, .null, .int 0, .int 0]) (C := RX7) (T := TX7) (N := 9) hx hb hts (fun w h => (gl_X7 w h).1) tyX7 tyX7_ok hown (hts (.classLink "DeskMachineLaw" 8 "DeskMachine") (List.mem_of_getElem? (i := 131) (by decide +kernel))) (hts (.instantiable "DeskMachine" 9) (List.mem_of_getElem? (i := 132) (by decide +kernel))) (hts (.initialized "DeskMachine") (List.mem_of_getElem? (i := 112) (by decide +kernel))) hK hP hD hS hA rfl (by decide +kernel) (Nat.le_of_ble_eq_true rfl) (Nat.le_of_ble_eq_true rfl) dL_law_0 (fun qx H hP hD hS => ?_)
  refine W.widen (k := 1) (n := 9) (by decide) (by decide) ?_
  have hP : va_P (dC, dI) x_cl [(qx, .inr (0, [.null, .null, .null, .null, .null, .null, .null, .int 0, .int 0]))] H := hP
  have hD : va_D (fun q => s.heap.size ≤ q) [(qx, .inr (0, [.null, .null, .null, .null, .null, .null, .null, .int 0, .int 0]))] := hD
  refine lv_dup hx hb dL_law_3 rfl ?_
  have hPc := hP.sub (ws' := [(qx, .inr (0, [.null, .null, .null, .null, .null, .null, .null, .int 0, .int 0]))]) [0] rfl
  have hDc := hD.sub (ws' := [(qx, .inr (0, [.null, .null, .null, .null, .null, .null, .null, .int 0, .int 0]))]) [0] (by decide) rfl
  have hKc := hK.sub (tys' := []) [] rfl
  have hFc := va_free (wc := [(qx, .inr (0, [.null, .null, .null, .null, .null, .null, .null, .int 0, .int 0]))]) hD hS hA [0] rfl
  refine va_callv (va_runI (As := []) (rest := [.ref qx]) ⟨hx, hb, hml, hown, hts⟩ (i_X7 l dC dI qx H.size) (cwI 0 hts gi_X7 rfl rfl rfl (hts (.initialized "DeskMachine") (List.mem_of_getElem? (i := 112) (by decide +kernel))) (hts (.methodLink "DeskMachineLaw" 35 yX7_init) (List.mem_of_getElem? (i := 133) (by decide +kernel))) (hts (.instanceMethod yX7_init) (List.mem_of_getElem? (i := 134) (by decide +kernel))) rfl (by decide +kernel) ⟨Nat.le_of_ble_eq_true rfl, Nat.le_of_ble_eq_true rfl⟩) ⟨fun a U g mk q => by obtain ⟨q0, q1, qP, qK, qD⟩ := q; exact ⟨q0, q1, qP, va_K.moved (u := U) (U := U.calling g mk a) (Vm.Alike.refl U.vm) qK, qD⟩, fun U hU hW => ⟨rfl, by rw [hU], by rw [hU]; exact hPc, va_K.moved hW.alike hKc, hDc.weaken (fun _ _ _ _ => trivial)⟩⟩ rfl rfl hl.1 rfl (Nat.le_of_ble_eq_true rfl) dL_law_4 ⟨Nat.le_of_ble_eq_true rfl, Nat.le_of_ble_eq_true rfl⟩) hS (fun q _ h => hFc q h) (fun q h => hFc q h) (fun u t H1 locs1 ht hvm h9 hB hsz1 hk1 hS => ?_)
  obtain ⟨q5x, q8_9x, q16x, q12_24x, q31x, q8_35x, q17_35x, q42x, q7_46x, q53x, q7_57x, q64x, q16_76x, q83x, q22_99x, q29_99x, q36_99x, q43_99x, cI, cZ, hP1, hK1, hD1⟩ := hB
  rw [ht] at hP1
  have hK1 := va_K.moved hvm.symm hK1
  obtain ⟨hP, hD⟩ := va_join (wr := []) (w1 := [(qx, .inr (0, [.ref q5x, .ref q16x, .ref q31x, .ref q42x, .ref q53x, .ref q64x, .ref q83x, .int 0, .int 0])), (q5x, .inr (1, [.ref q8_9x])), (q8_9x, .inl (cI, 512, .inl (fun _ => 0))), (q16x, .inr (2, [.ref q5x, .ref q12_24x, .int 0, .int 0, .int 0, .int 0, .int 0, .int 0, .int 0])), (q12_24x, .inl (cI, 8, .inl (fun _ => 0))), (q31x, .inr (3, [.ref q8_35x, .ref q17_35x])), (q8_35x, .inl (cI, 512, .inl (upd (upd (upd (upd (upd (upd (upd (upd (fun _ => 0) 0 229) 16 229) 32 229) 48 229) 64 229) 80 229) 96 229) 112 229))), (q17_35x, .inl (cZ, 256, .inl (fun _ => 0))), (q42x, .inr (4, [.ref q7_46x, .int 0, .int 0])), (q7_46x, .inl (cI, 40, .inl (fun _ => 0))), (q53x, .inr (5, [.ref q7_57x, .int 0])), (q7_57x, .inl (cI, 64, .inl (fun _ => 0))), (q64x, .inr (6, [.ref q5x, .ref q31x, .ref q16_76x, .int 128, .int 0])), (q16_76x, .inl (cI, 4, .inl (fun _ => 0))), (q83x, .inr (7, [.ref q5x, .ref q31x, .ref q53x, .ref q22_99x, .ref q29_99x, .ref q36_99x, .ref q43_99x, .int 0, .int 0])), (q22_99x, .inl (cI, 20, .inl (fun _ => 0))), (q29_99x, .inl (cI, 3, .inl (fun _ => 0))), (q36_99x, .inl (cI, 3, .inl (fun _ => 0))), (q43_99x, .inl (cI, 4, .inl (fun _ => 0)))]) hP hD [0] [] rfl rfl (by decide) (by decide) hk1 hFc hP1 hD1
  have hK := (hK.sub (tys' := []) [] rfl).app hK1
  generalize H1 = H at hP hS ⊢
  refine W.widen (k := 19) (n := 1466) (by decide) (by decide) ?_
  have hK : va_K (dC, dI) x_cl [(cI, .int), (cZ, .boolean)] s := hK
  have hP : va_P (dC, dI) x_cl [(qx, .inr (0, [.ref q5x, .ref q16x, .ref q31x, .ref q42x, .ref q53x, .ref q64x, .ref q83x, .int 0, .int 0])), (q5x, .inr (1, [.ref q8_9x])), (q8_9x, .inl (cI, 512, .inl (fun _ => 0))), (q16x, .inr (2, [.ref q5x, .ref q12_24x, .int 0, .int 0, .int 0, .int 0, .int 0, .int 0, .int 0])), (q12_24x, .inl (cI, 8, .inl (fun _ => 0))), (q31x, .inr (3, [.ref q8_35x, .ref q17_35x])), (q8_35x, .inl (cI, 512, .inl (upd (upd (upd (upd (upd (upd (upd (upd (fun _ => 0) 0 229) 16 229) 32 229) 48 229) 64 229) 80 229) 96 229) 112 229))), (q17_35x, .inl (cZ, 256, .inl (fun _ => 0))), (q42x, .inr (4, [.ref q7_46x, .int 0, .int 0])), (q7_46x, .inl (cI, 40, .inl (fun _ => 0))), (q53x, .inr (5, [.ref q7_57x, .int 0])), (q7_57x, .inl (cI, 64, .inl (fun _ => 0))), (q64x, .inr (6, [.ref q5x, .ref q31x, .ref q16_76x, .int 128, .int 0])), (q16_76x, .inl (cI, 4, .inl (fun _ => 0))), (q83x, .inr (7, [.ref q5x, .ref q31x, .ref q53x, .ref q22_99x, .ref q29_99x, .ref q36_99x, .ref q43_99x, .int 0, .int 0])), (q22_99x, .inl (cI, 20, .inl (fun _ => 0))), (q29_99x, .inl (cI, 3, .inl (fun _ => 0))), (q36_99x, .inl (cI, 3, .inl (fun _ => 0))), (q43_99x, .inl (cI, 4, .inl (fun _ => 0)))] H := hP
  have hD : va_D (fun q => s.heap.size ≤ q) [(qx, .inr (0, [.ref q5x, .ref q16x, .ref q31x, .ref q42x, .ref q53x, .ref q64x, .ref q83x, .int 0, .int 0])), (q5x, .inr (1, [.ref q8_9x])), (q8_9x, .inl (cI, 512, .inl (fun _ => 0))), (q16x, .inr (2, [.ref q5x, .ref q12_24x, .int 0, .int 0, .int 0, .int 0, .int 0, .int 0, .int 0])), (q12_24x, .inl (cI, 8, .inl (fun _ => 0))), (q31x, .inr (3, [.ref q8_35x, .ref q17_35x])), (q8_35x, .inl (cI, 512, .inl (upd (upd (upd (upd (upd (upd (upd (upd (fun _ => 0) 0 229) 16 229) 32 229) 48 229) 64 229) 80 229) 96 229) 112 229))), (q17_35x, .inl (cZ, 256, .inl (fun _ => 0))), (q42x, .inr (4, [.ref q7_46x, .int 0, .int 0])), (q7_46x, .inl (cI, 40, .inl (fun _ => 0))), (q53x, .inr (5, [.ref q7_57x, .int 0])), (q7_57x, .inl (cI, 64, .inl (fun _ => 0))), (q64x, .inr (6, [.ref q5x, .ref q31x, .ref q16_76x, .int 128, .int 0])), (q16_76x, .inl (cI, 4, .inl (fun _ => 0))), (q83x, .inr (7, [.ref q5x, .ref q31x, .ref q53x, .ref q22_99x, .ref q29_99x, .ref q36_99x, .ref q43_99x, .int 0, .int 0])), (q22_99x, .inl (cI, 20, .inl (fun _ => 0))), (q29_99x, .inl (cI, 3, .inl (fun _ => 0))), (q36_99x, .inl (cI, 3, .inl (fun _ => 0))), (q43_99x, .inl (cI, 4, .inl (fun _ => 0)))] := hD
  refine lv_astore_n (nL := 7) hx hb dL_law_7 rfl hl (by decide) rfl (fun ls hl => ?_)
  have hl : lv_has ls 7 [(1, .ref qx), (0, .ref b)] := hl
  refine va_new (ci := 8) (fs := [.int 0, .null, .null, .null, .int 0, .int 0, .int 0, .int 0, .int 0, .int 0, .int 0, .int 0, .int 0, .int 0, .null, .int 0, .null, .int 0, .null, .int 0, .int 0, .null]) (C := RXM) (T := TXM) (N := 22) hx hb hts (fun w h => (gl_XM w h).1) tyXM tyXM_ok hown (hts (.classLink "DeskMachineLaw" 36 "DeskMachineModel") (List.mem_of_getElem? (i := 923) (by decide +kernel))) (hts (.instantiable "DeskMachineModel" 22) (List.mem_of_getElem? (i := 924) (by decide +kernel))) (hts (.initialized "DeskMachineModel") (List.mem_of_getElem? (i := 120) (by decide +kernel))) hK hP hD hS hA rfl (by decide +kernel) (Nat.le_of_ble_eq_true rfl) (Nat.le_of_ble_eq_true rfl) dL_law_8 (fun qm H hP hD hS => ?_)
  refine W.widen (k := 20) (n := 1488) (by decide) (by decide) ?_
  have hP : va_P (dC, dI) x_cl [(qx, .inr (0, [.ref q5x, .ref q16x, .ref q31x, .ref q42x, .ref q53x, .ref q64x, .ref q83x, .int 0, .int 0])), (q5x, .inr (1, [.ref q8_9x])), (q8_9x, .inl (cI, 512, .inl (fun _ => 0))), (q16x, .inr (2, [.ref q5x, .ref q12_24x, .int 0, .int 0, .int 0, .int 0, .int 0, .int 0, .int 0])), (q12_24x, .inl (cI, 8, .inl (fun _ => 0))), (q31x, .inr (3, [.ref q8_35x, .ref q17_35x])), (q8_35x, .inl (cI, 512, .inl (upd (upd (upd (upd (upd (upd (upd (upd (fun _ => 0) 0 229) 16 229) 32 229) 48 229) 64 229) 80 229) 96 229) 112 229))), (q17_35x, .inl (cZ, 256, .inl (fun _ => 0))), (q42x, .inr (4, [.ref q7_46x, .int 0, .int 0])), (q7_46x, .inl (cI, 40, .inl (fun _ => 0))), (q53x, .inr (5, [.ref q7_57x, .int 0])), (q7_57x, .inl (cI, 64, .inl (fun _ => 0))), (q64x, .inr (6, [.ref q5x, .ref q31x, .ref q16_76x, .int 128, .int 0])), (q16_76x, .inl (cI, 4, .inl (fun _ => 0))), (q83x, .inr (7, [.ref q5x, .ref q31x, .ref q53x, .ref q22_99x, .ref q29_99x, .ref q36_99x, .ref q43_99x, .int 0, .int 0])), (q22_99x, .inl (cI, 20, .inl (fun _ => 0))), (q29_99x, .inl (cI, 3, .inl (fun _ => 0))), (q36_99x, .inl (cI, 3, .inl (fun _ => 0))), (q43_99x, .inl (cI, 4, .inl (fun _ => 0))), (qm, .inr (8, [.int 0, .null, .null, .null, .int 0, .int 0, .int 0, .int 0, .int 0, .int 0, .int 0, .int 0, .int 0, .int 0, .null, .int 0, .null, .int 0, .null, .int 0, .int 0, .null]))] H := hP
  have hD : va_D (fun q => s.heap.size ≤ q) [(qx, .inr (0, [.ref q5x, .ref q16x, .ref q31x, .ref q42x, .ref q53x, .ref q64x, .ref q83x, .int 0, .int 0])), (q5x, .inr (1, [.ref q8_9x])), (q8_9x, .inl (cI, 512, .inl (fun _ => 0))), (q16x, .inr (2, [.ref q5x, .ref q12_24x, .int 0, .int 0, .int 0, .int 0, .int 0, .int 0, .int 0])), (q12_24x, .inl (cI, 8, .inl (fun _ => 0))), (q31x, .inr (3, [.ref q8_35x, .ref q17_35x])), (q8_35x, .inl (cI, 512, .inl (upd (upd (upd (upd (upd (upd (upd (upd (fun _ => 0) 0 229) 16 229) 32 229) 48 229) 64 229) 80 229) 96 229) 112 229))), (q17_35x, .inl (cZ, 256, .inl (fun _ => 0))), (q42x, .inr (4, [.ref q7_46x, .int 0, .int 0])), (q7_46x, .inl (cI, 40, .inl (fun _ => 0))), (q53x, .inr (5, [.ref q7_57x, .int 0])), (q7_57x, .inl (cI, 64, .inl (fun _ => 0))), (q64x, .inr (6, [.ref q5x, .ref q31x, .ref q16_76x, .int 128, .int 0])), (q16_76x, .inl (cI, 4, .inl (fun _ => 0))), (q83x, .inr (7, [.ref q5x, .ref q31x, .ref q53x, .ref q22_99x, .ref q29_99x, .ref q36_99x, .ref q43_99x, .int 0, .int 0])), (q22_99x, .inl (cI, 20, .inl (fun _ => 0))), (q29_99x, .inl (cI, 3, .inl (fun _ => 0))), (q36_99x, .inl (cI, 3, .inl (fun _ => 0))), (q43_99x, .inl (cI, 4, .inl (fun _ => 0))), (qm, .inr (8, [.int 0, .null, .null, .null, .int 0, .int 0, .int 0, .int 0, .int 0, .int 0, .int 0, .int 0, .int 0, .int 0, .null, .int 0, .null, .int 0, .null, .int 0, .int 0, .null]))] := hD
  refine lv_dup hx hb dL_law_11 rfl ?_
  have hPc := hP.sub (ws' := [(qm, .inr (8, [.int 0, .null, .null, .null, .int 0, .int 0, .int 0, .int 0, .int 0, .int 0, .int 0, .int 0, .int 0, .int 0, .null, .int 0, .null, .int 0, .null, .int 0, .int 0, .null]))]) [19] rfl
  have hDc := hD.sub (ws' := [(qm, .inr (8, [.int 0, .null, .null, .null, .int 0, .int 0, .int 0, .int 0, .int 0, .int 0, .int 0, .int 0, .int 0, .int 0, .null, .int 0, .null, .int 0, .null, .int 0, .int 0, .null]))]) [19] (by decide) rfl
  have hKc := hK.sub (tys' := []) [] rfl
  have hFc := va_free (wc := [(qm, .inr (8, [.int 0, .null, .null, .null, .int 0, .int 0, .int 0, .int 0, .int 0, .int 0, .int 0, .int 0, .int 0, .int 0, .null, .int 0, .null, .int 0, .null, .int 0, .int 0, .null]))]) hD hS hA [19] rfl
  refine va_callv (va_runI (As := []) (rest := [.ref qm]) ⟨hx, hb, hml, hown, hts⟩ (i_XM l dC dI qm H.size) (cwI 0 hts gi_XM rfl rfl rfl (hts (.initialized "DeskMachineModel") (List.mem_of_getElem? (i := 120) (by decide +kernel))) (hts (.methodLink "DeskMachineLaw" 38 yXM_init) (List.mem_of_getElem? (i := 925) (by decide +kernel))) (hts (.instanceMethod yXM_init) (List.mem_of_getElem? (i := 926) (by decide +kernel))) rfl (by decide +kernel) ⟨Nat.le_of_ble_eq_true rfl, Nat.le_of_ble_eq_true rfl⟩) ⟨fun a U g mk q => by obtain ⟨q0, q1, qP, qK, qD⟩ := q; exact ⟨q0, q1, qP, va_K.moved (u := U) (U := U.calling g mk a) (Vm.Alike.refl U.vm) qK, qD⟩, fun U hU hW => ⟨rfl, by rw [hU], by rw [hU]; exact hPc, va_K.moved hW.alike hKc, hDc.weaken (fun _ _ _ _ => trivial)⟩⟩ rfl rfl hl.1 rfl (Nat.le_of_ble_eq_true rfl) dL_law_12 ⟨Nat.le_of_ble_eq_true rfl, Nat.le_of_ble_eq_true rfl⟩) hS (fun q _ h => hFc q h) (fun q h => hFc q h) (fun u t H1 locs1 ht hvm h9 hB hsz1 hk1 hS => ?_)
  obtain ⟨q8m, q17m, q25m, q45m, q53m, q61m, q73m, cM, hP1, hK1, hD1⟩ := hB
  rw [ht] at hP1
  have hK1 := va_K.moved hvm.symm hK1
  obtain ⟨hP, hD⟩ := va_join (wr := [(qx, .inr (0, [.ref q5x, .ref q16x, .ref q31x, .ref q42x, .ref q53x, .ref q64x, .ref q83x, .int 0, .int 0])), (q5x, .inr (1, [.ref q8_9x])), (q8_9x, .inl (cI, 512, .inl (fun _ => 0))), (q16x, .inr (2, [.ref q5x, .ref q12_24x, .int 0, .int 0, .int 0, .int 0, .int 0, .int 0, .int 0])), (q12_24x, .inl (cI, 8, .inl (fun _ => 0))), (q31x, .inr (3, [.ref q8_35x, .ref q17_35x])), (q8_35x, .inl (cI, 512, .inl (upd (upd (upd (upd (upd (upd (upd (upd (fun _ => 0) 0 229) 16 229) 32 229) 48 229) 64 229) 80 229) 96 229) 112 229))), (q17_35x, .inl (cZ, 256, .inl (fun _ => 0))), (q42x, .inr (4, [.ref q7_46x, .int 0, .int 0])), (q7_46x, .inl (cI, 40, .inl (fun _ => 0))), (q53x, .inr (5, [.ref q7_57x, .int 0])), (q7_57x, .inl (cI, 64, .inl (fun _ => 0))), (q64x, .inr (6, [.ref q5x, .ref q31x, .ref q16_76x, .int 128, .int 0])), (q16_76x, .inl (cI, 4, .inl (fun _ => 0))), (q83x, .inr (7, [.ref q5x, .ref q31x, .ref q53x, .ref q22_99x, .ref q29_99x, .ref q36_99x, .ref q43_99x, .int 0, .int 0])), (q22_99x, .inl (cI, 20, .inl (fun _ => 0))), (q29_99x, .inl (cI, 3, .inl (fun _ => 0))), (q36_99x, .inl (cI, 3, .inl (fun _ => 0))), (q43_99x, .inl (cI, 4, .inl (fun _ => 0)))]) (w1 := [(qm, .inr (8, [.int 0, .ref q8m, .ref q17m, .ref q25m, .int 0, .int 0, .int 128, .int 0, .int 0, .int 0, .int 0, .int 0, .int 0, .int 0, .ref q45m, .int 0, .ref q53m, .int 0, .ref q61m, .int 0, .int (-1), .ref q73m])), (q8m, .inl (cM, 512, .inl (fun _ => 0))), (q17m, .inl (cM, 512, .inl (upd (upd (upd (upd (upd (upd (upd (upd (fun _ => 0) 0 229) 16 229) 32 229) 48 229) 64 229) 80 229) 96 229) 112 229))), (q25m, .inl (cM, 8, .inl (fun _ => 0))), (q45m, .inl (cM, 40, .inl (fun _ => 0))), (q53m, .inl (cM, 20, .inl (fun _ => 0))), (q61m, .inl (cM, 64, .inl (fun _ => 0))), (q73m, .inl (cM, 4, .inl (fun _ => 0)))]) hP hD [19] [0, 1, 2, 3, 4, 5, 6, 7, 8, 9, 10, 11, 12, 13, 14, 15, 16, 17, 18] rfl rfl (by decide) (by decide) hk1 hFc hP1 hD1
  have hK := (hK.sub (tys' := [(cI, .int), (cZ, .boolean)]) [0, 1] rfl).app hK1
  generalize H1 = H at hP hS ⊢
  refine W.widen (k := 27) (n := 2648) (by decide) (by decide) ?_
  have e9 : cM = cI := Option.some.inj ((hK.2 2 _ rfl).2.symm.trans (hK.2 0 _ rfl).2)
  rw [e9] at hK hP hD
  have hK : va_K (dC, dI) x_cl [(cI, .int), (cZ, .boolean)] s := hK.sub [0, 1] rfl
  have hP : va_P (dC, dI) x_cl [(qx, .inr (0, [.ref q5x, .ref q16x, .ref q31x, .ref q42x, .ref q53x, .ref q64x, .ref q83x, .int 0, .int 0])), (q5x, .inr (1, [.ref q8_9x])), (q8_9x, .inl (cI, 512, .inl (fun _ => 0))), (q16x, .inr (2, [.ref q5x, .ref q12_24x, .int 0, .int 0, .int 0, .int 0, .int 0, .int 0, .int 0])), (q12_24x, .inl (cI, 8, .inl (fun _ => 0))), (q31x, .inr (3, [.ref q8_35x, .ref q17_35x])), (q8_35x, .inl (cI, 512, .inl (upd (upd (upd (upd (upd (upd (upd (upd (fun _ => 0) 0 229) 16 229) 32 229) 48 229) 64 229) 80 229) 96 229) 112 229))), (q17_35x, .inl (cZ, 256, .inl (fun _ => 0))), (q42x, .inr (4, [.ref q7_46x, .int 0, .int 0])), (q7_46x, .inl (cI, 40, .inl (fun _ => 0))), (q53x, .inr (5, [.ref q7_57x, .int 0])), (q7_57x, .inl (cI, 64, .inl (fun _ => 0))), (q64x, .inr (6, [.ref q5x, .ref q31x, .ref q16_76x, .int 128, .int 0])), (q16_76x, .inl (cI, 4, .inl (fun _ => 0))), (q83x, .inr (7, [.ref q5x, .ref q31x, .ref q53x, .ref q22_99x, .ref q29_99x, .ref q36_99x, .ref q43_99x, .int 0, .int 0])), (q22_99x, .inl (cI, 20, .inl (fun _ => 0))), (q29_99x, .inl (cI, 3, .inl (fun _ => 0))), (q36_99x, .inl (cI, 3, .inl (fun _ => 0))), (q43_99x, .inl (cI, 4, .inl (fun _ => 0))), (qm, .inr (8, [.int 0, .ref q8m, .ref q17m, .ref q25m, .int 0, .int 0, .int 128, .int 0, .int 0, .int 0, .int 0, .int 0, .int 0, .int 0, .ref q45m, .int 0, .ref q53m, .int 0, .ref q61m, .int 0, .int (-1), .ref q73m])), (q8m, .inl (cI, 512, .inl (fun _ => 0))), (q17m, .inl (cI, 512, .inl (upd (upd (upd (upd (upd (upd (upd (upd (fun _ => 0) 0 229) 16 229) 32 229) 48 229) 64 229) 80 229) 96 229) 112 229))), (q25m, .inl (cI, 8, .inl (fun _ => 0))), (q45m, .inl (cI, 40, .inl (fun _ => 0))), (q53m, .inl (cI, 20, .inl (fun _ => 0))), (q61m, .inl (cI, 64, .inl (fun _ => 0))), (q73m, .inl (cI, 4, .inl (fun _ => 0)))] H := hP
  have hD : va_D (fun q => s.heap.size ≤ q) [(qx, .inr (0, [.ref q5x, .ref q16x, .ref q31x, .ref q42x, .ref q53x, .ref q64x, .ref q83x, .int 0, .int 0])), (q5x, .inr (1, [.ref q8_9x])), (q8_9x, .inl (cI, 512, .inl (fun _ => 0))), (q16x, .inr (2, [.ref q5x, .ref q12_24x, .int 0, .int 0, .int 0, .int 0, .int 0, .int 0, .int 0])), (q12_24x, .inl (cI, 8, .inl (fun _ => 0))), (q31x, .inr (3, [.ref q8_35x, .ref q17_35x])), (q8_35x, .inl (cI, 512, .inl (upd (upd (upd (upd (upd (upd (upd (upd (fun _ => 0) 0 229) 16 229) 32 229) 48 229) 64 229) 80 229) 96 229) 112 229))), (q17_35x, .inl (cZ, 256, .inl (fun _ => 0))), (q42x, .inr (4, [.ref q7_46x, .int 0, .int 0])), (q7_46x, .inl (cI, 40, .inl (fun _ => 0))), (q53x, .inr (5, [.ref q7_57x, .int 0])), (q7_57x, .inl (cI, 64, .inl (fun _ => 0))), (q64x, .inr (6, [.ref q5x, .ref q31x, .ref q16_76x, .int 128, .int 0])), (q16_76x, .inl (cI, 4, .inl (fun _ => 0))), (q83x, .inr (7, [.ref q5x, .ref q31x, .ref q53x, .ref q22_99x, .ref q29_99x, .ref q36_99x, .ref q43_99x, .int 0, .int 0])), (q22_99x, .inl (cI, 20, .inl (fun _ => 0))), (q29_99x, .inl (cI, 3, .inl (fun _ => 0))), (q36_99x, .inl (cI, 3, .inl (fun _ => 0))), (q43_99x, .inl (cI, 4, .inl (fun _ => 0))), (qm, .inr (8, [.int 0, .ref q8m, .ref q17m, .ref q25m, .int 0, .int 0, .int 128, .int 0, .int 0, .int 0, .int 0, .int 0, .int 0, .int 0, .ref q45m, .int 0, .ref q53m, .int 0, .ref q61m, .int 0, .int (-1), .ref q73m])), (q8m, .inl (cI, 512, .inl (fun _ => 0))), (q17m, .inl (cI, 512, .inl (upd (upd (upd (upd (upd (upd (upd (upd (fun _ => 0) 0 229) 16 229) 32 229) 48 229) 64 229) 80 229) 96 229) 112 229))), (q25m, .inl (cI, 8, .inl (fun _ => 0))), (q45m, .inl (cI, 40, .inl (fun _ => 0))), (q53m, .inl (cI, 20, .inl (fun _ => 0))), (q61m, .inl (cI, 64, .inl (fun _ => 0))), (q73m, .inl (cI, 4, .inl (fun _ => 0)))] := hD
  refine lv_astore_n (nL := 7) hx hb dL_law_15 rfl hl (by decide) rfl (fun ls hl => ?_)
  have hl : lv_has ls 7 [(2, .ref qm), (1, .ref qx), (0, .ref b)] := hl
  refine lv_iconst (v := 1) hx hb dL_law_16 (by decide) ?_
  refine va_newa (a0 := (1, .inr (.inl (fun _ => 0)))) (N' := 1) (ty := .long) (atype := .long) hx hb (hts (.arrayClass .long) (List.mem_of_getElem? (i := 1257) (by decide +kernel))) rfl hK hP hD hS hA (fun cA => vp_cell_l cA 1 (fun _ => 0)) (by decide) (by decide) (by decide) (Nat.le_of_ble_eq_true rfl) (Nat.le_of_ble_eq_true rfl) dL_law_17 (fun qo cJ H hK hP hD hS => ?_)
  have hK : va_K (dC, dI) x_cl [(cI, .int), (cZ, .boolean), (cJ, .long)] s := hK
  have hP : va_P (dC, dI) x_cl [(qx, .inr (0, [.ref q5x, .ref q16x, .ref q31x, .ref q42x, .ref q53x, .ref q64x, .ref q83x, .int 0, .int 0])), (q5x, .inr (1, [.ref q8_9x])), (q8_9x, .inl (cI, 512, .inl (fun _ => 0))), (q16x, .inr (2, [.ref q5x, .ref q12_24x, .int 0, .int 0, .int 0, .int 0, .int 0, .int 0, .int 0])), (q12_24x, .inl (cI, 8, .inl (fun _ => 0))), (q31x, .inr (3, [.ref q8_35x, .ref q17_35x])), (q8_35x, .inl (cI, 512, .inl (upd (upd (upd (upd (upd (upd (upd (upd (fun _ => 0) 0 229) 16 229) 32 229) 48 229) 64 229) 80 229) 96 229) 112 229))), (q17_35x, .inl (cZ, 256, .inl (fun _ => 0))), (q42x, .inr (4, [.ref q7_46x, .int 0, .int 0])), (q7_46x, .inl (cI, 40, .inl (fun _ => 0))), (q53x, .inr (5, [.ref q7_57x, .int 0])), (q7_57x, .inl (cI, 64, .inl (fun _ => 0))), (q64x, .inr (6, [.ref q5x, .ref q31x, .ref q16_76x, .int 128, .int 0])), (q16_76x, .inl (cI, 4, .inl (fun _ => 0))), (q83x, .inr (7, [.ref q5x, .ref q31x, .ref q53x, .ref q22_99x, .ref q29_99x, .ref q36_99x, .ref q43_99x, .int 0, .int 0])), (q22_99x, .inl (cI, 20, .inl (fun _ => 0))), (q29_99x, .inl (cI, 3, .inl (fun _ => 0))), (q36_99x, .inl (cI, 3, .inl (fun _ => 0))), (q43_99x, .inl (cI, 4, .inl (fun _ => 0))), (qm, .inr (8, [.int 0, .ref q8m, .ref q17m, .ref q25m, .int 0, .int 0, .int 128, .int 0, .int 0, .int 0, .int 0, .int 0, .int 0, .int 0, .ref q45m, .int 0, .ref q53m, .int 0, .ref q61m, .int 0, .int (-1), .ref q73m])), (q8m, .inl (cI, 512, .inl (fun _ => 0))), (q17m, .inl (cI, 512, .inl (upd (upd (upd (upd (upd (upd (upd (upd (fun _ => 0) 0 229) 16 229) 32 229) 48 229) 64 229) 80 229) 96 229) 112 229))), (q25m, .inl (cI, 8, .inl (fun _ => 0))), (q45m, .inl (cI, 40, .inl (fun _ => 0))), (q53m, .inl (cI, 20, .inl (fun _ => 0))), (q61m, .inl (cI, 64, .inl (fun _ => 0))), (q73m, .inl (cI, 4, .inl (fun _ => 0))), (qo, .inl (cJ, 1, .inr (.inl (fun _ => 0))))] H := hP
  have hD : va_D (fun q => s.heap.size ≤ q) [(qx, .inr (0, [.ref q5x, .ref q16x, .ref q31x, .ref q42x, .ref q53x, .ref q64x, .ref q83x, .int 0, .int 0])), (q5x, .inr (1, [.ref q8_9x])), (q8_9x, .inl (cI, 512, .inl (fun _ => 0))), (q16x, .inr (2, [.ref q5x, .ref q12_24x, .int 0, .int 0, .int 0, .int 0, .int 0, .int 0, .int 0])), (q12_24x, .inl (cI, 8, .inl (fun _ => 0))), (q31x, .inr (3, [.ref q8_35x, .ref q17_35x])), (q8_35x, .inl (cI, 512, .inl (upd (upd (upd (upd (upd (upd (upd (upd (fun _ => 0) 0 229) 16 229) 32 229) 48 229) 64 229) 80 229) 96 229) 112 229))), (q17_35x, .inl (cZ, 256, .inl (fun _ => 0))), (q42x, .inr (4, [.ref q7_46x, .int 0, .int 0])), (q7_46x, .inl (cI, 40, .inl (fun _ => 0))), (q53x, .inr (5, [.ref q7_57x, .int 0])), (q7_57x, .inl (cI, 64, .inl (fun _ => 0))), (q64x, .inr (6, [.ref q5x, .ref q31x, .ref q16_76x, .int 128, .int 0])), (q16_76x, .inl (cI, 4, .inl (fun _ => 0))), (q83x, .inr (7, [.ref q5x, .ref q31x, .ref q53x, .ref q22_99x, .ref q29_99x, .ref q36_99x, .ref q43_99x, .int 0, .int 0])), (q22_99x, .inl (cI, 20, .inl (fun _ => 0))), (q29_99x, .inl (cI, 3, .inl (fun _ => 0))), (q36_99x, .inl (cI, 3, .inl (fun _ => 0))), (q43_99x, .inl (cI, 4, .inl (fun _ => 0))), (qm, .inr (8, [.int 0, .ref q8m, .ref q17m, .ref q25m, .int 0, .int 0, .int 128, .int 0, .int 0, .int 0, .int 0, .int 0, .int 0, .int 0, .ref q45m, .int 0, .ref q53m, .int 0, .ref q61m, .int 0, .int (-1), .ref q73m])), (q8m, .inl (cI, 512, .inl (fun _ => 0))), (q17m, .inl (cI, 512, .inl (upd (upd (upd (upd (upd (upd (upd (upd (fun _ => 0) 0 229) 16 229) 32 229) 48 229) 64 229) 80 229) 96 229) 112 229))), (q25m, .inl (cI, 8, .inl (fun _ => 0))), (q45m, .inl (cI, 40, .inl (fun _ => 0))), (q53m, .inl (cI, 20, .inl (fun _ => 0))), (q61m, .inl (cI, 64, .inl (fun _ => 0))), (q73m, .inl (cI, 4, .inl (fun _ => 0))), (qo, .inl (cJ, 1, .inr (.inl (fun _ => 0))))] := hD
  refine lv_astore_n (nL := 7) hx hb dL_law_19 rfl hl (by decide) rfl (fun ls hl => ?_)
  refine lv_iconst (v := 0) hx hb dL_law_20 (by decide) ?_
  refine lv_istore (nL := 7) hx hb dL_law_21 hl (by decide) rfl (fun ls hl => ?_)
  have hN := hNW [qx, q5x, q8_9x, q16x, q12_24x, q31x, q8_35x, q17_35x, q42x, q7_46x, q53x, q7_57x, q64x, q16_76x, q83x, q22_99x, q29_99x, q36_99x, q43_99x, qm, q8m, q17m, q25m, q45m, q53m, q61m, q73m]
  generalize hade : ad9 [qx, q5x, q8_9x, q16x, q12_24x, q31x, q8_35x, q17_35x, q42x, q7_46x, q53x, q7_57x, q64x, q16_76x, q83x, q22_99x, q29_99x, q36_99x, q43_99x, qm, q8m, q17m, q25m, q45m, q53m, q61m, q73m] w9 K = ad at hN
  have hP : va_P (dC, dI) x_cl (xo ad cI cZ st0 qo cJ (fun _ => 0)) H := by
    rw [← hade]
    exact hP
  have hD : va_D (fun q => s.heap.size ≤ q) (xo ad cI cZ st0 qo cJ (fun _ => 0)) := by
    rw [← hade]
    exact hD
  have hl : lv_has ls 7 [(4, .int (nI (4 * 0))), (0, .ref b), (1, .ref (ad 0)), (2, .ref (ad 19)), (3, .ref qo)] := by
    rw [← hade]
    exact lv_sub hl [0, 4, 3, 2, 1] rfl
  have hl27 : (x_w ad cI cZ x_sh st0).length = 27 := rfl
  have hD27 : ∀ σ : xS, va_D (fun q => ∃ k, k < 27 ∧ q = ad k) (x_w ad cI cZ x_sh σ) := fun σ => by
    have hw : ∀ (k : Nat) (q : Nat × va_E), (x_w ad cI cZ x_sh σ)[k]? = some q → k < 27 ∧ q.1 = ad k ∧ ∃ z, (xo ad cI cZ st0 qo cJ (fun _ => 0))[k]? = some (ad k, z) := fun k q hk => by
      rw [x_w_get] at hk
      cases hh : x_sh[k]? with
      | none => rw [hh] at hk; cases hk
      | some z =>
        rw [hh] at hk
        cases hk
        have hk27 : k < 27 := (List.getElem?_eq_some_iff.mp hh).1
        refine ⟨hk27, rfl, x_ce ad cI cZ (st0 k) z, ?_⟩
        rw [List.getElem?_append_left (by rw [hl27]; exact hk27), x_w_get, hh]
        rfl
    refine ⟨fun i j p q hi hj e => ?_, fun k q hk => ?_⟩
    · obtain ⟨a1, a2, z1, a3⟩ := hw i p hi
      obtain ⟨b1, b2, z2, b3⟩ := hw j q hj
      exact hD.1 i j _ _ a3 b3 (by rw [← a2, ← b2]; exact e)
    · obtain ⟨a1, a2, -⟩ := hw k q hk
      exact ⟨k, a1, a2⟩
  have hadk : ∀ k, k < 27 → ∃ z, (xo ad cI cZ st0 qo cJ (fun _ => 0))[k]? = some (ad k, z) := fun k hk => by
    cases hh : x_sh[k]? with
    | none => exact absurd (List.getElem?_eq_none_iff.mp hh) (by have : x_sh.length = 27 := rfl; omega)
    | some z =>
      refine ⟨x_ce ad cI cZ (st0 k) z, ?_⟩
      rw [List.getElem?_append_left (by rw [hl27]; exact hk), x_w_get, hh]
      rfl
  have hqo : (xo ad cI cZ st0 qo cJ (fun _ => 0))[27]? = some (qo, .inl (cJ, 1, .inr (.inl (fun _ => 0)))) := rfl
  have hq : ¬ (fun q => ∃ k, k < 27 ∧ q = ad k) qo := fun ⟨k, hk, e⟩ => by
    obtain ⟨z, hz⟩ := hadk k hk
    have := hD.1 k 27 _ _ hz hqo e.symm
    omega
  have hAs : ∀ q, (fun q => ∃ k, k < 27 ∧ q = ad k) q → s.heap.size ≤ q := fun q ⟨k, hk, e⟩ => by
    obtain ⟨z, hz⟩ := hadk k hk
    rw [e]
    exact hD.2 k _ hz
  refine W.widen (k := 40 + 0) (n := 3000 + 6 * 0) (by decide) (by decide) ?_
  exact lw_loop hL hlt C1 (D := (dC, dI)) (tys := [(cI, .int), (cZ, .boolean), (cJ, .long)]) (A := fun q => ∃ k, k < 27 ∧ q = ad k) (ad := ad) (adV := adV) (cI := cI) (cZ := cZ) (cJ := cJ) hD27 (t1 := 0) (t2 := 1) (t3 := 2) rfl rfl rfl (qo := qo) hq hAs (hD.2 27 _ hqo) hK hN 513 0 rfl A0 st0 (fun _ => 0) H _ ls hP xc0 xm0 iv0 hS hl
