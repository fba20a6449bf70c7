/-! The constructors of the class -/
section NEWA
variable {p : Program} {l : Launch} {e : Env} {R : Room} {s : State} {m : MethodId} {args : Array Value} {below : List Frame} {meth : Method} {c : Code} {H : Heap} {locs : List Loc} {cells slots : Nat} {Q : State → Prop}
variable {cc : ByteArray} {pc : Nat} {ls : Array Slot} {rest : List Value} {D : va_G} {cl : List vw_C} {A : Nat → Prop} {tys : List (ClassId × FieldType)} {ws : va_W} {H0 : Heap}
theorem x_newI (N' : Nat) {n : Int32} (hn : n = nI N') (hN : N' ≤ 100000) (hexec : p.tables.exec = Jvm.exec) (hb : c.code = cc) (harr : (Cond.arrayClass .int).before args s = true) (hK : va_K D cl tys s) (hP : va_P D cl ws H) (hD : va_D A ws) (hS : va_S A H0 H locs) (hA : ∀ q, H0.size ≤ q → A q) (hcells : cells + 1 ≤ R.cells) (hslots : slots + N' ≤ R.slots) (hdg : decode cc pc = .ok (.newarray .int, 2))
    (kk : ∀ (q : Nat) (cA : ClassId) (H1 : Heap), va_K D cl (tys ++ [(cA, .int)]) s → va_P D cl (ws ++ [(q, .inl (cA, N', .inl (fun _ => 0)))]) H1 → va_D A (ws ++ [(q, .inl (cA, N', .inl (fun _ => 0)))]) → va_S A H0 H1 locs → W p l e R s m args below meth c H1 locs (cells + 1) (slots + N') Q (F0 m (pc + 2) ls (.ref q :: rest))) : W p l e R s m args below meth c H locs cells slots Q (F0 m pc ls (.int n :: rest)) :=
  va_newa (a0 := (N', .inl (fun _ => 0))) (N' := N') (ty := .int) (atype := .int) hexec hb harr rfl hK hP hD hS hA (fun cA => vp_cell_i cA N' (fun _ => 0)) (by rw [hn]; exact nI_pos (by omega)) (by rw [hn]; exact nI_clamp (by omega)) (by show N' * 4 ≤ _; omega) hcells hslots hdg kk
theorem x_newZ (N' : Nat) {n : Int32} (hn : n = nI N') (hN : N' ≤ 100000) (hexec : p.tables.exec = Jvm.exec) (hb : c.code = cc) (harr : (Cond.arrayClass .boolean).before args s = true) (hK : va_K D cl tys s) (hP : va_P D cl ws H) (hD : va_D A ws) (hS : va_S A H0 H locs) (hA : ∀ q, H0.size ≤ q → A q) (hcells : cells + 1 ≤ R.cells) (hslots : slots + N' ≤ R.slots) (hdg : decode cc pc = .ok (.newarray .boolean, 2))
    (kk : ∀ (q : Nat) (cA : ClassId) (H1 : Heap), va_K D cl (tys ++ [(cA, .boolean)]) s → va_P D cl (ws ++ [(q, .inl (cA, N', .inl (fun _ => 0)))]) H1 → va_D A (ws ++ [(q, .inl (cA, N', .inl (fun _ => 0)))]) → va_S A H0 H1 locs → W p l e R s m args below meth c H1 locs (cells + 1) (slots + N') Q (F0 m (pc + 2) ls (.ref q :: rest))) : W p l e R s m args below meth c H locs cells slots Q (F0 m pc ls (.int n :: rest)) :=
  va_newa (a0 := (N', .inl (fun _ => 0))) (N' := N') (ty := .boolean) (atype := .boolean) hexec hb harr rfl hK hP hD hS hA (fun cA => vp_cell_i cA N' (fun _ => 0)) (by rw [hn]; exact nI_pos (by omega)) (by rw [hn]; exact nI_clamp (by omega)) (by show N' * 1 ≤ _; omega) hcells hslots hdg kk
end NEWA
set_option maxHeartbeats 4000000 in
set_option maxRecDepth 100000 in
theorem i_X4 (l : Launch) (dC : Nat → ClassId) (dI : Nat → Nat → Nat) (h0 sz : Nat) : Met l yX4_init wsX4_init ({ frames := 1, cells := 1, slots := 512, locals := 12 }) (va_Pc [.ref h0] (fun U => U.heap.size = sz ∧ va_P (dC, dI) x_cl [(h0, .inr (1, [.null]))] U.heap ∧ va_K (dC, dI) x_cl [] U ∧ va_D (fun _ => True) [(h0, .inr (1, [.null]))])) (va_Qv (fun _ : Unit => True) (fun (_ : Unit) (t : State) => ∃ (q8 : Nat) (c8 : ClassId), va_P (dC, dI) x_cl [(h0, .inr (1, [.ref q8])), (q8, .inl (c8, 512, .inl (fun _ => 0)))] t.heap ∧ va_K (dC, dI) x_cl [(c8, .int)] t ∧ va_D (va_A [(h0, .inr (1, [.null]))] sz) [(h0, .inr (1, [.ref q8])), (q8, .inl (c8, 512, .inl (fun _ => 0)))]) (va_A [(h0, .inr (1, [.null]))] sz)) 1 512 (va_A [(h0, .inr (1, [.null]))] sz) := by
  refine Met.ofW (cc := cX4_init) (maxL := 1) (ret := none) (by decide) rfl ?_
  intro p e s m args below meth c s₁ B hml hv
  obtain ⟨rfl, hsz, hP, hK, hD0⟩ := hv
  have hx := B.exec
  have hb := B.bytes
  have hr := B.returns
  have hts := atoms_spec (ws := wsX4_init) B.pre
  have hown : s.vm.findClass RX4 = some m.cls := findClass_of_methodNamed B.named
  have hlocks := B.notSynchronized
  have hin : meth.name = "<init>" := (name_of_methodNamed B.named B.method).1
  subst hsz
  have hD := hD0.self (sz := s.heap.size)
  generalize hAe : va_A [(h0, .inr (1, [.null]))] s.heap.size = A at hD ⊢
  have hA : ∀ q : Nat, s.heap.size ≤ q → A q := fun q h => by rw [← hAe]; exact Or.inr h
  have hS : va_S A s.heap s.heap [] := va_S.rf
  have hP : va_P (dC, dI) x_cl [(h0, .inr (1, [.null]))] s.heap := hP
  have hl := lv_entry ([.ref h0]) (n := 1) (Nat.le_of_ble_eq_true rfl)
  rw [lg_entry_eq]
  generalize (lg_sl ([.ref h0]) ++ List.replicate (1 - (lg_sl ([.ref h0])).length) Slot.unset).toArray = ls at hl ⊢
  have hl : lv_has ls 1 [(0, .ref h0)] := hl
  refine lv_aload_n hx hb dX4_init_0 rfl (lv_at hl 0 rfl) ?_
  refine W.objInit hx hb hown (hts (.methodLink RX4 1 objectInit) (by decide +kernel)) (hts (.instanceMethod objectInit) (by decide +kernel)) (hts _ (List.mem_cons_of_mem _ (List.mem_append_left _ (List.mem_of_getElem? (i := 2) rfl)))) rfl (by rw [hml]; exact hl.1) rfl dX4_init_1 (Nat.le_of_ble_eq_true rfl) (Nat.le_of_ble_eq_true rfl) ?_
  refine W.eq (g2 := F0 m 4 ls []) rfl ?_
  refine lv_aload_n hx hb dX4_init_4 rfl (lv_at hl 0 rfl) ?_
  refine lv_sipush (v := 512) hx hb dX4_init_5 (by decide) ?_
  refine x_newI 512 (by decide) (by decide) hx hb (hts (.arrayClass .int) (by decide +kernel)) hK hP hD hS hA (Nat.le_of_ble_eq_true rfl) (Nat.le_of_ble_eq_true rfl) dX4_init_8 (fun q8 c8 H hK hP hD hS => ?_)
  have hK : va_K (dC, dI) x_cl [(c8, .int)] s := hK
  have hP : va_P (dC, dI) x_cl [(h0, .inr (1, [.null])), (q8, .inl (c8, 512, .inl (fun _ => 0)))] H := hP
  have hD : va_D A [(h0, .inr (1, [.null])), (q8, .inl (c8, 512, .inl (fun _ => 0)))] := hD
  refine W.widen (k := 1) (n := 512) (by decide) (by decide) ?_
  refine va_putF (D := (dC, dI)) (ci := 1) (v := .ref q8) (ty := .array .int) (C := RX4) (T := TX4) (N := 1) hx hb hts (by decide +kernel) tyX4 tyX4_ok nmX4 hown hK hP hD hS 0 rfl rfl 0 (by decide) (hts (.fieldLink RX4 9 "DeskMachine$Memory" "bytes" "[I") (by decide +kernel)) (fun _ h9 => h9) rfl hin rfl (by decide +kernel) rfl rfl (Nat.le_of_ble_eq_true rfl) dX4_init_10 (fun H locs hP hD hS => ?_)
  have hP : va_P (dC, dI) x_cl [(h0, .inr (1, [.ref q8])), (q8, .inl (c8, 512, .inl (fun _ => 0)))] H := hP
  have hD : va_D A [(h0, .inr (1, [.ref q8])), (q8, .inl (c8, 512, .inl (fun _ => 0)))] := hD
  exact W.vret hx hb hr (fun t ht hW => ⟨⟨(), rfl, trivial, q8, c8, by rw [ht]; exact hP, va_K.moved hW.alike hK, hD⟩, hS.F ht⟩) hS.2.2 dX4_init_13
set_option maxHeartbeats 4000000 in
set_option maxRecDepth 100000 in
theorem i_X5 (l : Launch) (dC : Nat → ClassId) (dI : Nat → Nat → Nat) (h0 sz a1 : Nat) : Met l yX5_init wsX5_init ({ frames := 1, cells := 1, slots := 8, locals := 12 }) (va_Pc [.ref h0, .ref a1] (fun U => U.heap.size = sz ∧ va_P (dC, dI) x_cl [(h0, .inr (2, [.null, .null, .int 0, .int 0, .int 0, .int 0, .int 0, .int 0, .int 0]))] U.heap ∧ va_K (dC, dI) x_cl [] U ∧ va_D (fun _ => True) [(h0, .inr (2, [.null, .null, .int 0, .int 0, .int 0, .int 0, .int 0, .int 0, .int 0]))])) (va_Qv (fun _ : Unit => True) (fun (_ : Unit) (t : State) => ∃ (q12 : Nat) (c12 : ClassId), va_P (dC, dI) x_cl [(h0, .inr (2, [.ref a1, .ref q12, .int 0, .int 0, .int 0, .int 0, .int 0, .int 0, .int 0])), (q12, .inl (c12, 8, .inl (fun _ => 0)))] t.heap ∧ va_K (dC, dI) x_cl [(c12, .int)] t ∧ va_D (va_A [(h0, .inr (2, [.null, .null, .int 0, .int 0, .int 0, .int 0, .int 0, .int 0, .int 0]))] sz) [(h0, .inr (2, [.ref a1, .ref q12, .int 0, .int 0, .int 0, .int 0, .int 0, .int 0, .int 0])), (q12, .inl (c12, 8, .inl (fun _ => 0)))]) (va_A [(h0, .inr (2, [.null, .null, .int 0, .int 0, .int 0, .int 0, .int 0, .int 0, .int 0]))] sz)) 1 8 (va_A [(h0, .inr (2, [.null, .null, .int 0, .int 0, .int 0, .int 0, .int 0, .int 0, .int 0]))] sz) := by
  refine Met.ofW (cc := cX5_init) (maxL := 2) (ret := none) (by decide) rfl ?_
  intro p e s m args below meth c s₁ B hml hv
  obtain ⟨rfl, hsz, hP, hK, hD0⟩ := hv
  have hx := B.exec
  have hb := B.bytes
  have hr := B.returns
  have hts := atoms_spec (ws := wsX5_init) B.pre
  have hown : s.vm.findClass RX5 = some m.cls := findClass_of_methodNamed B.named
  have hlocks := B.notSynchronized
  have hin : meth.name = "<init>" := (name_of_methodNamed B.named B.method).1
  subst hsz
  have hD := hD0.self (sz := s.heap.size)
  generalize hAe : va_A [(h0, .inr (2, [.null, .null, .int 0, .int 0, .int 0, .int 0, .int 0, .int 0, .int 0]))] s.heap.size = A at hD ⊢
  have hA : ∀ q : Nat, s.heap.size ≤ q → A q := fun q h => by rw [← hAe]; exact Or.inr h
  have hS : va_S A s.heap s.heap [] := va_S.rf
  have hP : va_P (dC, dI) x_cl [(h0, .inr (2, [.null, .null, .int 0, .int 0, .int 0, .int 0, .int 0, .int 0, .int 0]))] s.heap := hP
  have hl := lv_entry ([.ref h0, .ref a1]) (n := 2) (Nat.le_of_ble_eq_true rfl)
  rw [lg_entry_eq]
  generalize (lg_sl ([.ref h0, .ref a1]) ++ List.replicate (2 - (lg_sl ([.ref h0, .ref a1])).length) Slot.unset).toArray = ls at hl ⊢
  have hl : lv_has ls 2 [(0, .ref h0), (1, .ref a1)] := hl
  refine lv_aload_n hx hb dX5_init_0 rfl (lv_at hl 0 rfl) ?_
  refine W.objInit hx hb hown (hts (.methodLink RX5 3 objectInit) (by decide +kernel)) (hts (.instanceMethod objectInit) (by decide +kernel)) (hts _ (List.mem_cons_of_mem _ (List.mem_append_left _ (List.mem_of_getElem? (i := 2) rfl)))) rfl (by rw [hml]; exact hl.1) rfl dX5_init_1 (Nat.le_of_ble_eq_true rfl) (Nat.le_of_ble_eq_true rfl) ?_
  refine W.eq (g2 := F0 m 4 ls []) rfl ?_
  refine lv_aload_n hx hb dX5_init_4 rfl (lv_at hl 0 rfl) ?_
  refine lv_aload_n hx hb dX5_init_5 rfl (lv_at hl 1 rfl) ?_
  refine va_putF (D := (dC, dI)) (ci := 2) (v := .ref a1) (ty := .object "DeskMachine$Memory") (C := RX5) (T := TX5) (N := 9) hx hb hts (by decide +kernel) tyX5 tyX5_ok nmX5 hown hK hP hD hS 0 rfl rfl 0 (by decide) (hts (.fieldLink RX5 9 "DeskMachine$Processor" "memory" "LDeskMachine$Memory;") (by decide +kernel)) (fun _ h9 => h9) rfl hin rfl (by decide +kernel) rfl rfl (Nat.le_of_ble_eq_true rfl) dX5_init_6 (fun H locs hP hD hS => ?_)
  have hP : va_P (dC, dI) x_cl [(h0, .inr (2, [.ref a1, .null, .int 0, .int 0, .int 0, .int 0, .int 0, .int 0, .int 0]))] H := hP
  have hD : va_D A [(h0, .inr (2, [.ref a1, .null, .int 0, .int 0, .int 0, .int 0, .int 0, .int 0, .int 0]))] := hD
  refine lv_aload_n hx hb dX5_init_9 rfl (lv_at hl 0 rfl) ?_
  refine lv_bipush (v := 8) hx hb dX5_init_10 (by decide) ?_
  refine x_newI 8 (by decide) (by decide) hx hb (hts (.arrayClass .int) (by decide +kernel)) hK hP hD hS hA (Nat.le_of_ble_eq_true rfl) (Nat.le_of_ble_eq_true rfl) dX5_init_12 (fun q12 c12 H hK hP hD hS => ?_)
  have hK : va_K (dC, dI) x_cl [(c12, .int)] s := hK
  have hP : va_P (dC, dI) x_cl [(h0, .inr (2, [.ref a1, .null, .int 0, .int 0, .int 0, .int 0, .int 0, .int 0, .int 0])), (q12, .inl (c12, 8, .inl (fun _ => 0)))] H := hP
  have hD : va_D A [(h0, .inr (2, [.ref a1, .null, .int 0, .int 0, .int 0, .int 0, .int 0, .int 0, .int 0])), (q12, .inl (c12, 8, .inl (fun _ => 0)))] := hD
  refine W.widen (k := 1) (n := 8) (by decide) (by decide) ?_
  refine va_putF (D := (dC, dI)) (ci := 2) (v := .ref q12) (ty := .array .int) (C := RX5) (T := TX5) (N := 9) hx hb hts (by decide +kernel) tyX5 tyX5_ok nmX5 hown hK hP hD hS 0 rfl rfl 1 (by decide) (hts (.fieldLink RX5 15 "DeskMachine$Processor" "registers" "[I") (by decide +kernel)) (fun _ h9 => h9) rfl hin rfl (by decide +kernel) rfl rfl (Nat.le_of_ble_eq_true rfl) dX5_init_14 (fun H locs hP hD hS => ?_)
  have hP : va_P (dC, dI) x_cl [(h0, .inr (2, [.ref a1, .ref q12, .int 0, .int 0, .int 0, .int 0, .int 0, .int 0, .int 0])), (q12, .inl (c12, 8, .inl (fun _ => 0)))] H := hP
  have hD : va_D A [(h0, .inr (2, [.ref a1, .ref q12, .int 0, .int 0, .int 0, .int 0, .int 0, .int 0, .int 0])), (q12, .inl (c12, 8, .inl (fun _ => 0)))] := hD
  exact W.vret hx hb hr (fun t ht hW => ⟨⟨(), rfl, trivial, q12, c12, by rw [ht]; exact hP, va_K.moved hW.alike hK, hD⟩, hS.F ht⟩) hS.2.2 dX5_init_17
set_option maxHeartbeats 4000000 in
set_option maxRecDepth 100000 in
theorem i_X1 (l : Launch) (dC : Nat → ClassId) (dI : Nat → Nat → Nat) (h0 sz : Nat) : Met l yX1_init wsX1_init ({ frames := 1, cells := 2, slots := 768, locals := 12 }) (va_Pc [.ref h0] (fun U => U.heap.size = sz ∧ va_P (dC, dI) x_cl [(h0, .inr (3, [.null, .null]))] U.heap ∧ va_K (dC, dI) x_cl [] U ∧ va_D (fun _ => True) [(h0, .inr (3, [.null, .null]))])) (va_Qv (fun _ : Unit => True) (fun (_ : Unit) (t : State) => ∃ (q8 q17 : Nat) (c8 c17 : ClassId), va_P (dC, dI) x_cl [(h0, .inr (3, [.ref q8, .ref q17])), (q8, .inl (c8, 512, .inl (upd (upd (upd (upd (upd (upd (upd (upd (fun _ => 0) 0 229) 16 229) 32 229) 48 229) 64 229) 80 229) 96 229) 112 229))), (q17, .inl (c17, 256, .inl (fun _ => 0)))] t.heap ∧ va_K (dC, dI) x_cl [(c8, .int), (c17, .boolean)] t ∧ va_D (va_A [(h0, .inr (3, [.null, .null]))] sz) [(h0, .inr (3, [.ref q8, .ref q17])), (q8, .inl (c8, 512, .inl (upd (upd (upd (upd (upd (upd (upd (upd (fun _ => 0) 0 229) 16 229) 32 229) 48 229) 64 229) 80 229) 96 229) 112 229))), (q17, .inl (c17, 256, .inl (fun _ => 0)))]) (va_A [(h0, .inr (3, [.null, .null]))] sz)) 2 768 (va_A [(h0, .inr (3, [.null, .null]))] sz) := by
  refine Met.ofW (cc := cX1_init) (maxL := 2) (ret := none) (by decide) rfl ?_
  intro p e s m args below meth c s₁ B hml hv
  obtain ⟨rfl, hsz, hP, hK, hD0⟩ := hv
  have hx := B.exec
  have hb := B.bytes
  have hr := B.returns
  have hts := atoms_spec (ws := wsX1_init) B.pre
  have hown : s.vm.findClass RX1 = some m.cls := findClass_of_methodNamed B.named
  have hlocks := B.notSynchronized
  have hin : meth.name = "<init>" := (name_of_methodNamed B.named B.method).1
  subst hsz
  have hD := hD0.self (sz := s.heap.size)
  generalize hAe : va_A [(h0, .inr (3, [.null, .null]))] s.heap.size = A at hD ⊢
  have hA : ∀ q : Nat, s.heap.size ≤ q → A q := fun q h => by rw [← hAe]; exact Or.inr h
  have hS : va_S A s.heap s.heap [] := va_S.rf
  have hP : va_P (dC, dI) x_cl [(h0, .inr (3, [.null, .null]))] s.heap := hP
  have hl := lv_entry ([.ref h0]) (n := 2) (Nat.le_of_ble_eq_true rfl)
  rw [lg_entry_eq]
  generalize (lg_sl ([.ref h0]) ++ List.replicate (2 - (lg_sl ([.ref h0])).length) Slot.unset).toArray = ls at hl ⊢
  have hl : lv_has ls 2 [(0, .ref h0)] := hl
  refine lv_aload_n hx hb dX1_init_0 rfl (lv_at hl 0 rfl) ?_
  refine W.objInit hx hb hown (hts (.methodLink RX1 3 objectInit) (by decide +kernel)) (hts (.instanceMethod objectInit) (by decide +kernel)) (hts _ (List.mem_cons_of_mem _ (List.mem_append_left _ (List.mem_of_getElem? (i := 2) rfl)))) rfl (by rw [hml]; exact hl.1) rfl dX1_init_1 (Nat.le_of_ble_eq_true rfl) (Nat.le_of_ble_eq_true rfl) ?_
  refine W.eq (g2 := F0 m 4 ls []) rfl ?_
  refine lv_aload_n hx hb dX1_init_4 rfl (lv_at hl 0 rfl) ?_
  refine lv_sipush (v := 512) hx hb dX1_init_5 (by decide) ?_
  refine x_newI 512 (by decide) (by decide) hx hb (hts (.arrayClass .int) (by decide +kernel)) hK hP hD hS hA (Nat.le_of_ble_eq_true rfl) (Nat.le_of_ble_eq_true rfl) dX1_init_8 (fun q8 c8 H hK hP hD hS => ?_)
  have hK : va_K (dC, dI) x_cl [(c8, .int)] s := hK
  have hP : va_P (dC, dI) x_cl [(h0, .inr (3, [.null, .null])), (q8, .inl (c8, 512, .inl (fun _ => 0)))] H := hP
  have hD : va_D A [(h0, .inr (3, [.null, .null])), (q8, .inl (c8, 512, .inl (fun _ => 0)))] := hD
  refine W.widen (k := 1) (n := 512) (by decide) (by decide) ?_
  refine va_putF (D := (dC, dI)) (ci := 3) (v := .ref q8) (ty := .array .int) (C := RX1) (T := TX1) (N := 2) hx hb hts (by decide +kernel) tyX1 tyX1_ok nmX1 hown hK hP hD hS 0 rfl rfl 0 (by decide) (hts (.fieldLink RX1 11 "DeskMachine$Disk" "bytes" "[I") (by decide +kernel)) (fun _ h9 => h9) rfl hin rfl (by decide +kernel) rfl rfl (Nat.le_of_ble_eq_true rfl) dX1_init_10 (fun H locs hP hD hS => ?_)
  have hP : va_P (dC, dI) x_cl [(h0, .inr (3, [.ref q8, .null])), (q8, .inl (c8, 512, .inl (fun _ => 0)))] H := hP
  have hD : va_D A [(h0, .inr (3, [.ref q8, .null])), (q8, .inl (c8, 512, .inl (fun _ => 0)))] := hD
  refine lv_aload_n hx hb dX1_init_13 rfl (lv_at hl 0 rfl) ?_
  refine lv_sipush (v := 256) hx hb dX1_init_14 (by decide) ?_
  refine x_newZ 256 (by decide) (by decide) hx hb (hts (.arrayClass .boolean) (by decide +kernel)) hK hP hD hS hA (Nat.le_of_ble_eq_true rfl) (Nat.le_of_ble_eq_true rfl) dX1_init_17 (fun q17 c17 H hK hP hD hS => ?_)
  have hK : va_K (dC, dI) x_cl [(c8, .int), (c17, .boolean)] s := hK
  have hP : va_P (dC, dI) x_cl [(h0, .inr (3, [.ref q8, .null])), (q8, .inl (c8, 512, .inl (fun _ => 0))), (q17, .inl (c17, 256, .inl (fun _ => 0)))] H := hP
  have hD : va_D A [(h0, .inr (3, [.ref q8, .null])), (q8, .inl (c8, 512, .inl (fun _ => 0))), (q17, .inl (c17, 256, .inl (fun _ => 0)))] := hD
  refine W.widen (k := 2) (n := 768) (by decide) (by decide) ?_
  refine va_putF (D := (dC, dI)) (ci := 3) (v := .ref q17) (ty := .array .boolean) (C := RX1) (T := TX1) (N := 2) hx hb hts (by decide +kernel) tyX1 tyX1_ok nmX1 hown hK hP hD hS 0 rfl rfl 1 (by decide) (hts (.fieldLink RX1 15 "DeskMachine$Disk" "taken" "[Z") (by decide +kernel)) (fun _ h9 => h9) rfl hin rfl (by decide +kernel) rfl rfl (Nat.le_of_ble_eq_true rfl) dX1_init_19 (fun H locs hP hD hS => ?_)
  have hP : va_P (dC, dI) x_cl [(h0, .inr (3, [.ref q8, .ref q17])), (q8, .inl (c8, 512, .inl (fun _ => 0))), (q17, .inl (c17, 256, .inl (fun _ => 0)))] H := hP
  have hD : va_D A [(h0, .inr (3, [.ref q8, .ref q17])), (q8, .inl (c8, 512, .inl (fun _ => 0))), (q17, .inl (c17, 256, .inl (fun _ => 0)))] := hD
  refine lv_iconst (v := 0) hx hb dX1_init_22 (by decide) ?_
  refine lv_istore_n (nL := 2) hx hb dX1_init_23 rfl hl (by decide) rfl (fun ls hl => ?_)
  have hl : lv_has ls 2 [(1, .int 0), (0, .ref h0)] := hl
  refine lv_iload_n hx hb dX1_init_24 rfl (lv_at hl 0 rfl) ?_
  refine lv_bipush (v := 8) hx hb dX1_init_25 (by decide) ?_
  refine lv_icmp_ge (tgt := 48) hx hb dX1_init_27 (by decide) (fun h9 => absurd h9 (by decide)) (fun _ => ?_)
  refine lv_aload_n hx hb dX1_init_30 rfl (lv_at hl 1 rfl) ?_
  refine va_get (D := (dC, dI)) (ci := 3) (v := .ref q8) (C := RX1) (T := TX1) (N := 2) hx hb hts (by decide +kernel) hown hK hP 0 rfl rfl 0 (by decide) (hts (.fieldLink RX1 11 "DeskMachine$Disk" "bytes" "[I") (by decide +kernel)) (fun _ h9 => h9) rfl dX1_init_31 ?_
  refine lv_iload_n hx hb dX1_init_34 rfl (lv_at hl 0 rfl) ?_
  refine lv_bipush (v := 16) hx hb dX1_init_35 (by decide) ?_
  refine lv_imul hx hb dX1_init_37 ?_
  refine lv_topi (fun x9 e9 => ?_)
  have e9 : x9 = nI 0 := e9.trans (by decide)
  subst e9
  refine lv_sipush (v := 229) hx hb dX1_init_38 (by decide) ?_
  refine va_iast hx hb hK hP hD hS 1 0 rfl rfl (vp_in_nI (by decide) (by decide)) dX1_init_41 (fun H locs hP hD hS => ?_)
  rw [nI_clamp (n := 0) (by decide)] at hP hD
  have hP : va_P (dC, dI) x_cl [(h0, .inr (3, [.ref q8, .ref q17])), (q8, .inl (c8, 512, .inl (upd (fun _ => 0) 0 229))), (q17, .inl (c17, 256, .inl (fun _ => 0)))] H := hP
  have hD : va_D A [(h0, .inr (3, [.ref q8, .ref q17])), (q8, .inl (c8, 512, .inl (upd (fun _ => 0) 0 229))), (q17, .inl (c17, 256, .inl (fun _ => 0)))] := hD
  refine lv_iinc (v := 1) (k := 0) hx hb dX1_init_42 hl rfl (by decide) (by decide) rfl (fun ls hl => ?_)
  have hl : lv_has ls 2 [(1, .int 1), (0, .ref h0)] := hl
  refine lv_goto (tgt := 24) hx hb dX1_init_45 (by decide) ?_
  refine lv_iload_n hx hb dX1_init_24 rfl (lv_at hl 0 rfl) ?_
  refine lv_bipush (v := 8) hx hb dX1_init_25 (by decide) ?_
  refine lv_icmp_ge (tgt := 48) hx hb dX1_init_27 (by decide) (fun h9 => absurd h9 (by decide)) (fun _ => ?_)
  refine lv_aload_n hx hb dX1_init_30 rfl (lv_at hl 1 rfl) ?_
  refine va_get (D := (dC, dI)) (ci := 3) (v := .ref q8) (C := RX1) (T := TX1) (N := 2) hx hb hts (by decide +kernel) hown hK hP 0 rfl rfl 0 (by decide) (hts (.fieldLink RX1 11 "DeskMachine$Disk" "bytes" "[I") (by decide +kernel)) (fun _ h9 => h9) rfl dX1_init_31 ?_
  refine lv_iload_n hx hb dX1_init_34 rfl (lv_at hl 0 rfl) ?_
  refine lv_bipush (v := 16) hx hb dX1_init_35 (by decide) ?_
  refine lv_imul hx hb dX1_init_37 ?_
  refine lv_topi (fun x9 e9 => ?_)
  have e9 : x9 = nI 16 := e9.trans (by decide)
  subst e9
  refine lv_sipush (v := 229) hx hb dX1_init_38 (by decide) ?_
  refine va_iast hx hb hK hP hD hS 1 0 rfl rfl (vp_in_nI (by decide) (by decide)) dX1_init_41 (fun H locs hP hD hS => ?_)
  rw [nI_clamp (n := 16) (by decide)] at hP hD
  have hP : va_P (dC, dI) x_cl [(h0, .inr (3, [.ref q8, .ref q17])), (q8, .inl (c8, 512, .inl (upd (upd (fun _ => 0) 0 229) 16 229))), (q17, .inl (c17, 256, .inl (fun _ => 0)))] H := hP
  have hD : va_D A [(h0, .inr (3, [.ref q8, .ref q17])), (q8, .inl (c8, 512, .inl (upd (upd (fun _ => 0) 0 229) 16 229))), (q17, .inl (c17, 256, .inl (fun _ => 0)))] := hD
  refine lv_iinc (v := 2) (k := 0) hx hb dX1_init_42 hl rfl (by decide) (by decide) rfl (fun ls hl => ?_)
  have hl : lv_has ls 2 [(1, .int 2), (0, .ref h0)] := hl
  refine lv_goto (tgt := 24) hx hb dX1_init_45 (by decide) ?_
  refine lv_iload_n hx hb dX1_init_24 rfl (lv_at hl 0 rfl) ?_
  refine lv_bipush (v := 8) hx hb dX1_init_25 (by decide) ?_
  refine lv_icmp_ge (tgt := 48) hx hb dX1_init_27 (by decide) (fun h9 => absurd h9 (by decide)) (fun _ => ?_)
  refine lv_aload_n hx hb dX1_init_30 rfl (lv_at hl 1 rfl) ?_
  refine va_get (D := (dC, dI)) (ci := 3) (v := .ref q8) (C := RX1) (T := TX1) (N := 2) hx hb hts (by decide +kernel) hown hK hP 0 rfl rfl 0 (by decide) (hts (.fieldLink RX1 11 "DeskMachine$Disk" "bytes" "[I") (by decide +kernel)) (fun _ h9 => h9) rfl dX1_init_31 ?_
  refine lv_iload_n hx hb dX1_init_34 rfl (lv_at hl 0 rfl) ?_
  refine lv_bipush (v := 16) hx hb dX1_init_35 (by decide) ?_
  refine lv_imul hx hb dX1_init_37 ?_
  refine lv_topi (fun x9 e9 => ?_)
  have e9 : x9 = nI 32 := e9.trans (by decide)
  subst e9
  refine lv_sipush (v := 229) hx hb dX1_init_38 (by decide) ?_
  refine va_iast hx hb hK hP hD hS 1 0 rfl rfl (vp_in_nI (by decide) (by decide)) dX1_init_41 (fun H locs hP hD hS => ?_)
  rw [nI_clamp (n := 32) (by decide)] at hP hD
  have hP : va_P (dC, dI) x_cl [(h0, .inr (3, [.ref q8, .ref q17])), (q8, .inl (c8, 512, .inl (upd (upd (upd (fun _ => 0) 0 229) 16 229) 32 229))), (q17, .inl (c17, 256, .inl (fun _ => 0)))] H := hP
  have hD : va_D A [(h0, .inr (3, [.ref q8, .ref q17])), (q8, .inl (c8, 512, .inl (upd (upd (upd (fun _ => 0) 0 229) 16 229) 32 229))), (q17, .inl (c17, 256, .inl (fun _ => 0)))] := hD
  refine lv_iinc (v := 3) (k := 0) hx hb dX1_init_42 hl rfl (by decide) (by decide) rfl (fun ls hl => ?_)
  have hl : lv_has ls 2 [(1, .int 3), (0, .ref h0)] := hl
  refine lv_goto (tgt := 24) hx hb dX1_init_45 (by decide) ?_
  refine lv_iload_n hx hb dX1_init_24 rfl (lv_at hl 0 rfl) ?_
  refine lv_bipush (v := 8) hx hb dX1_init_25 (by decide) ?_
  refine lv_icmp_ge (tgt := 48) hx hb dX1_init_27 (by decide) (fun h9 => absurd h9 (by decide)) (fun _ => ?_)
  refine lv_aload_n hx hb dX1_init_30 rfl (lv_at hl 1 rfl) ?_
  refine va_get (D := (dC, dI)) (ci := 3) (v := .ref q8) (C := RX1) (T := TX1) (N := 2) hx hb hts (by decide +kernel) hown hK hP 0 rfl rfl 0 (by decide) (hts (.fieldLink RX1 11 "DeskMachine$Disk" "bytes" "[I") (by decide +kernel)) (fun _ h9 => h9) rfl dX1_init_31 ?_
  refine lv_iload_n hx hb dX1_init_34 rfl (lv_at hl 0 rfl) ?_
  refine lv_bipush (v := 16) hx hb dX1_init_35 (by decide) ?_
  refine lv_imul hx hb dX1_init_37 ?_
  refine lv_topi (fun x9 e9 => ?_)
  have e9 : x9 = nI 48 := e9.trans (by decide)
  subst e9
  refine lv_sipush (v := 229) hx hb dX1_init_38 (by decide) ?_
  refine va_iast hx hb hK hP hD hS 1 0 rfl rfl (vp_in_nI (by decide) (by decide)) dX1_init_41 (fun H locs hP hD hS => ?_)
  rw [nI_clamp (n := 48) (by decide)] at hP hD
  have hP : va_P (dC, dI) x_cl [(h0, .inr (3, [.ref q8, .ref q17])), (q8, .inl (c8, 512, .inl (upd (upd (upd (upd (fun _ => 0) 0 229) 16 229) 32 229) 48 229))), (q17, .inl (c17, 256, .inl (fun _ => 0)))] H := hP
  have hD : va_D A [(h0, .inr (3, [.ref q8, .ref q17])), (q8, .inl (c8, 512, .inl (upd (upd (upd (upd (fun _ => 0) 0 229) 16 229) 32 229) 48 229))), (q17, .inl (c17, 256, .inl (fun _ => 0)))] := hD
  refine lv_iinc (v := 4) (k := 0) hx hb dX1_init_42 hl rfl (by decide) (by decide) rfl (fun ls hl => ?_)
  have hl : lv_has ls 2 [(1, .int 4), (0, .ref h0)] := hl
  refine lv_goto (tgt := 24) hx hb dX1_init_45 (by decide) ?_
  refine lv_iload_n hx hb dX1_init_24 rfl (lv_at hl 0 rfl) ?_
  refine lv_bipush (v := 8) hx hb dX1_init_25 (by decide) ?_
  refine lv_icmp_ge (tgt := 48) hx hb dX1_init_27 (by decide) (fun h9 => absurd h9 (by decide)) (fun _ => ?_)
  refine lv_aload_n hx hb dX1_init_30 rfl (lv_at hl 1 rfl) ?_
  refine va_get (D := (dC, dI)) (ci := 3) (v := .ref q8) (C := RX1) (T := TX1) (N := 2) hx hb hts (by decide +kernel) hown hK hP 0 rfl rfl 0 (by decide) (hts (.fieldLink RX1 11 "DeskMachine$Disk" "bytes" "[I") (by decide +kernel)) (fun _ h9 => h9) rfl dX1_init_31 ?_
  refine lv_iload_n hx hb dX1_init_34 rfl (lv_at hl 0 rfl) ?_
  refine lv_bipush (v := 16) hx hb dX1_init_35 (by decide) ?_
  refine lv_imul hx hb dX1_init_37 ?_
  refine lv_topi (fun x9 e9 => ?_)
  have e9 : x9 = nI 64 := e9.trans (by decide)
  subst e9
  refine lv_sipush (v := 229) hx hb dX1_init_38 (by decide) ?_
  refine va_iast hx hb hK hP hD hS 1 0 rfl rfl (vp_in_nI (by decide) (by decide)) dX1_init_41 (fun H locs hP hD hS => ?_)
  rw [nI_clamp (n := 64) (by decide)] at hP hD
  have hP : va_P (dC, dI) x_cl [(h0, .inr (3, [.ref q8, .ref q17])), (q8, .inl (c8, 512, .inl (upd (upd (upd (upd (upd (fun _ => 0) 0 229) 16 229) 32 229) 48 229) 64 229))), (q17, .inl (c17, 256, .inl (fun _ => 0)))] H := hP
  have hD : va_D A [(h0, .inr (3, [.ref q8, .ref q17])), (q8, .inl (c8, 512, .inl (upd (upd (upd (upd (upd (fun _ => 0) 0 229) 16 229) 32 229) 48 229) 64 229))), (q17, .inl (c17, 256, .inl (fun _ => 0)))] := hD
  refine lv_iinc (v := 5) (k := 0) hx hb dX1_init_42 hl rfl (by decide) (by decide) rfl (fun ls hl => ?_)
  have hl : lv_has ls 2 [(1, .int 5), (0, .ref h0)] := hl
  refine lv_goto (tgt := 24) hx hb dX1_init_45 (by decide) ?_
  refine lv_iload_n hx hb dX1_init_24 rfl (lv_at hl 0 rfl) ?_
  refine lv_bipush (v := 8) hx hb dX1_init_25 (by decide) ?_
  refine lv_icmp_ge (tgt := 48) hx hb dX1_init_27 (by decide) (fun h9 => absurd h9 (by decide)) (fun _ => ?_)
  refine lv_aload_n hx hb dX1_init_30 rfl (lv_at hl 1 rfl) ?_
  refine va_get (D := (dC, dI)) (ci := 3) (v := .ref q8) (C := RX1) (T := TX1) (N := 2) hx hb hts (by decide +kernel) hown hK hP 0 rfl rfl 0 (by decide) (hts (.fieldLink RX1 11 "DeskMachine$Disk" "bytes" "[I") (by decide +kernel)) (fun _ h9 => h9) rfl dX1_init_31 ?_
  refine lv_iload_n hx hb dX1_init_34 rfl (lv_at hl 0 rfl) ?_
  refine lv_bipush (v := 16) hx hb dX1_init_35 (by decide) ?_
  refine lv_imul hx hb dX1_init_37 ?_
  refine lv_topi (fun x9 e9 => ?_)
  have e9 : x9 = nI 80 := e9.trans (by decide)
  subst e9
  refine lv_sipush (v := 229) hx hb dX1_init_38 (by decide) ?_
  refine va_iast hx hb hK hP hD hS 1 0 rfl rfl (vp_in_nI (by decide) (by decide)) dX1_init_41 (fun H locs hP hD hS => ?_)
  rw [nI_clamp (n := 80) (by decide)] at hP hD
  have hP : va_P (dC, dI) x_cl [(h0, .inr (3, [.ref q8, .ref q17])), (q8, .inl (c8, 512, .inl (upd (upd (upd (upd (upd (upd (fun _ => 0) 0 229) 16 229) 32 229) 48 229) 64 229) 80 229))), (q17, .inl (c17, 256, .inl (fun _ => 0)))] H := hP
  have hD : va_D A [(h0, .inr (3, [.ref q8, .ref q17])), (q8, .inl (c8, 512, .inl (upd (upd (upd (upd (upd (upd (fun _ => 0) 0 229) 16 229) 32 229) 48 229) 64 229) 80 229))), (q17, .inl (c17, 256, .inl (fun _ => 0)))] := hD
  refine lv_iinc (v := 6) (k := 0) hx hb dX1_init_42 hl rfl (by decide) (by decide) rfl (fun ls hl => ?_)
  have hl : lv_has ls 2 [(1, .int 6), (0, .ref h0)] := hl
  refine lv_goto (tgt := 24) hx hb dX1_init_45 (by decide) ?_
  refine lv_iload_n hx hb dX1_init_24 rfl (lv_at hl 0 rfl) ?_
  refine lv_bipush (v := 8) hx hb dX1_init_25 (by decide) ?_
  refine lv_icmp_ge (tgt := 48) hx hb dX1_init_27 (by decide) (fun h9 => absurd h9 (by decide)) (fun _ => ?_)
  refine lv_aload_n hx hb dX1_init_30 rfl (lv_at hl 1 rfl) ?_
  refine va_get (D := (dC, dI)) (ci := 3) (v := .ref q8) (C := RX1) (T := TX1) (N := 2) hx hb hts (by decide +kernel) hown hK hP 0 rfl rfl 0 (by decide) (hts (.fieldLink RX1 11 "DeskMachine$Disk" "bytes" "[I") (by decide +kernel)) (fun _ h9 => h9) rfl dX1_init_31 ?_
  refine lv_iload_n hx hb dX1_init_34 rfl (lv_at hl 0 rfl) ?_
  refine lv_bipush (v := 16) hx hb dX1_init_35 (by decide) ?_
  refine lv_imul hx hb dX1_init_37 ?_
  refine lv_topi (fun x9 e9 => ?_)
  have e9 : x9 = nI 96 := e9.trans (by decide)
  subst e9
  refine lv_sipush (v := 229) hx hb dX1_init_38 (by decide) ?_
  refine va_iast hx hb hK hP hD hS 1 0 rfl rfl (vp_in_nI (by decide) (by decide)) dX1_init_41 (fun H locs hP hD hS => ?_)
  rw [nI_clamp (n := 96) (by decide)] at hP hD
  have hP : va_P (dC, dI) x_cl [(h0, .inr (3, [.ref q8, .ref q17])), (q8, .inl (c8, 512, .inl (upd (upd (upd (upd (upd (upd (upd (fun _ => 0) 0 229) 16 229) 32 229) 48 229) 64 229) 80 229) 96 229))), (q17, .inl (c17, 256, .inl (fun _ => 0)))] H := hP
  have hD : va_D A [(h0, .inr (3, [.ref q8, .ref q17])), (q8, .inl (c8, 512, .inl (upd (upd (upd (upd (upd (upd (upd (fun _ => 0) 0 229) 16 229) 32 229) 48 229) 64 229) 80 229) 96 229))), (q17, .inl (c17, 256, .inl (fun _ => 0)))] := hD
  refine lv_iinc (v := 7) (k := 0) hx hb dX1_init_42 hl rfl (by decide) (by decide) rfl (fun ls hl => ?_)
  have hl : lv_has ls 2 [(1, .int 7), (0, .ref h0)] := hl
  refine lv_goto (tgt := 24) hx hb dX1_init_45 (by decide) ?_
  refine lv_iload_n hx hb dX1_init_24 rfl (lv_at hl 0 rfl) ?_
  refine lv_bipush (v := 8) hx hb dX1_init_25 (by decide) ?_
  refine lv_icmp_ge (tgt := 48) hx hb dX1_init_27 (by decide) (fun h9 => absurd h9 (by decide)) (fun _ => ?_)
  refine lv_aload_n hx hb dX1_init_30 rfl (lv_at hl 1 rfl) ?_
  refine va_get (D := (dC, dI)) (ci := 3) (v := .ref q8) (C := RX1) (T := TX1) (N := 2) hx hb hts (by decide +kernel) hown hK hP 0 rfl rfl 0 (by decide) (hts (.fieldLink RX1 11 "DeskMachine$Disk" "bytes" "[I") (by decide +kernel)) (fun _ h9 => h9) rfl dX1_init_31 ?_
  refine lv_iload_n hx hb dX1_init_34 rfl (lv_at hl 0 rfl) ?_
  refine lv_bipush (v := 16) hx hb dX1_init_35 (by decide) ?_
  refine lv_imul hx hb dX1_init_37 ?_
  refine lv_topi (fun x9 e9 => ?_)
  have e9 : x9 = nI 112 := e9.trans (by decide)
  subst e9
  refine lv_sipush (v := 229) hx hb dX1_init_38 (by decide) ?_
  refine va_iast hx hb hK hP hD hS 1 0 rfl rfl (vp_in_nI (by decide) (by decide)) dX1_init_41 (fun H locs hP hD hS => ?_)
  rw [nI_clamp (n := 112) (by decide)] at hP hD
  have hP : va_P (dC, dI) x_cl [(h0, .inr (3, [.ref q8, .ref q17])), (q8, .inl (c8, 512, .inl (upd (upd (upd (upd (upd (upd (upd (upd (fun _ => 0) 0 229) 16 229) 32 229) 48 229) 64 229) 80 229) 96 229) 112 229))), (q17, .inl (c17, 256, .inl (fun _ => 0)))] H := hP
  have hD : va_D A [(h0, .inr (3, [.ref q8, .ref q17])), (q8, .inl (c8, 512, .inl (upd (upd (upd (upd (upd (upd (upd (upd (fun _ => 0) 0 229) 16 229) 32 229) 48 229) 64 229) 80 229) 96 229) 112 229))), (q17, .inl (c17, 256, .inl (fun _ => 0)))] := hD
  refine lv_iinc (v := 8) (k := 0) hx hb dX1_init_42 hl rfl (by decide) (by decide) rfl (fun ls hl => ?_)
  have hl : lv_has ls 2 [(1, .int 8), (0, .ref h0)] := hl
  refine lv_goto (tgt := 24) hx hb dX1_init_45 (by decide) ?_
  refine lv_iload_n hx hb dX1_init_24 rfl (lv_at hl 0 rfl) ?_
  refine lv_bipush (v := 8) hx hb dX1_init_25 (by decide) ?_
  refine lv_icmp_ge (tgt := 48) hx hb dX1_init_27 (by decide) (fun _ => ?_) (fun h9 => absurd (by decide) h9)
  exact W.vret hx hb hr (fun t ht hW => ⟨⟨(), rfl, trivial, q8, q17, c8, c17, by rw [ht]; exact hP, va_K.moved hW.alike hK, hD⟩, hS.F ht⟩) hS.2.2 dX1_init_48
set_option maxHeartbeats 4000000 in
set_option maxRecDepth 100000 in
theorem i_X3 (l : Launch) (dC : Nat → ClassId) (dI : Nat → Nat → Nat) (h0 sz : Nat) : Met l yX3_init wsX3_init ({ frames := 1, cells := 1, slots := 40, locals := 12 }) (va_Pc [.ref h0] (fun U => U.heap.size = sz ∧ va_P (dC, dI) x_cl [(h0, .inr (4, [.null, .int 0, .int 0]))] U.heap ∧ va_K (dC, dI) x_cl [] U ∧ va_D (fun _ => True) [(h0, .inr (4, [.null, .int 0, .int 0]))])) (va_Qv (fun _ : Unit => True) (fun (_ : Unit) (t : State) => ∃ (q7 : Nat) (c7 : ClassId), va_P (dC, dI) x_cl [(h0, .inr (4, [.ref q7, .int 0, .int 0])), (q7, .inl (c7, 40, .inl (fun _ => 0)))] t.heap ∧ va_K (dC, dI) x_cl [(c7, .int)] t ∧ va_D (va_A [(h0, .inr (4, [.null, .int 0, .int 0]))] sz) [(h0, .inr (4, [.ref q7, .int 0, .int 0])), (q7, .inl (c7, 40, .inl (fun _ => 0)))]) (va_A [(h0, .inr (4, [.null, .int 0, .int 0]))] sz)) 1 40 (va_A [(h0, .inr (4, [.null, .int 0, .int 0]))] sz) := by
  refine Met.ofW (cc := cX3_init) (maxL := 1) (ret := none) (by decide) rfl ?_
  intro p e s m args below meth c s₁ B hml hv
  obtain ⟨rfl, hsz, hP, hK, hD0⟩ := hv
  have hx := B.exec
  have hb := B.bytes
  have hr := B.returns
  have hts := atoms_spec (ws := wsX3_init) B.pre
  have hown : s.vm.findClass RX3 = some m.cls := findClass_of_methodNamed B.named
  have hlocks := B.notSynchronized
  have hin : meth.name = "<init>" := (name_of_methodNamed B.named B.method).1
  subst hsz
  have hD := hD0.self (sz := s.heap.size)
  generalize hAe : va_A [(h0, .inr (4, [.null, .int 0, .int 0]))] s.heap.size = A at hD ⊢
  have hA : ∀ q : Nat, s.heap.size ≤ q → A q := fun q h => by rw [← hAe]; exact Or.inr h
  have hS : va_S A s.heap s.heap [] := va_S.rf
  have hP : va_P (dC, dI) x_cl [(h0, .inr (4, [.null, .int 0, .int 0]))] s.heap := hP
  have hl := lv_entry ([.ref h0]) (n := 1) (Nat.le_of_ble_eq_true rfl)
  rw [lg_entry_eq]
  generalize (lg_sl ([.ref h0]) ++ List.replicate (1 - (lg_sl ([.ref h0])).length) Slot.unset).toArray = ls at hl ⊢
  have hl : lv_has ls 1 [(0, .ref h0)] := hl
  refine lv_aload_n hx hb dX3_init_0 rfl (lv_at hl 0 rfl) ?_
  refine W.objInit hx hb hown (hts (.methodLink RX3 1 objectInit) (by decide +kernel)) (hts (.instanceMethod objectInit) (by decide +kernel)) (hts _ (List.mem_cons_of_mem _ (List.mem_append_left _ (List.mem_of_getElem? (i := 2) rfl)))) rfl (by rw [hml]; exact hl.1) rfl dX3_init_1 (Nat.le_of_ble_eq_true rfl) (Nat.le_of_ble_eq_true rfl) ?_
  refine W.eq (g2 := F0 m 4 ls []) rfl ?_
  refine lv_aload_n hx hb dX3_init_4 rfl (lv_at hl 0 rfl) ?_
  refine lv_bipush (v := 40) hx hb dX3_init_5 (by decide) ?_
  refine x_newI 40 (by decide) (by decide) hx hb (hts (.arrayClass .int) (by decide +kernel)) hK hP hD hS hA (Nat.le_of_ble_eq_true rfl) (Nat.le_of_ble_eq_true rfl) dX3_init_7 (fun q7 c7 H hK hP hD hS => ?_)
  have hK : va_K (dC, dI) x_cl [(c7, .int)] s := hK
  have hP : va_P (dC, dI) x_cl [(h0, .inr (4, [.null, .int 0, .int 0])), (q7, .inl (c7, 40, .inl (fun _ => 0)))] H := hP
  have hD : va_D A [(h0, .inr (4, [.null, .int 0, .int 0])), (q7, .inl (c7, 40, .inl (fun _ => 0)))] := hD
  refine W.widen (k := 1) (n := 40) (by decide) (by decide) ?_
  refine va_putF (D := (dC, dI)) (ci := 4) (v := .ref q7) (ty := .array .int) (C := RX3) (T := TX3) (N := 3) hx hb hts (by decide +kernel) tyX3 tyX3_ok nmX3 hown hK hP hD hS 0 rfl rfl 0 (by decide) (hts (.fieldLink RX3 9 "DeskMachine$KeyQueue" "ring" "[I") (by decide +kernel)) (fun _ h9 => h9) rfl hin rfl (by decide +kernel) rfl rfl (Nat.le_of_ble_eq_true rfl) dX3_init_9 (fun H locs hP hD hS => ?_)
  have hP : va_P (dC, dI) x_cl [(h0, .inr (4, [.ref q7, .int 0, .int 0])), (q7, .inl (c7, 40, .inl (fun _ => 0)))] H := hP
  have hD : va_D A [(h0, .inr (4, [.ref q7, .int 0, .int 0])), (q7, .inl (c7, 40, .inl (fun _ => 0)))] := hD
  refine lv_aload_n hx hb dX3_init_12 rfl (lv_at hl 0 rfl) ?_
  refine lv_iconst (v := 0) hx hb dX3_init_13 (by decide) ?_
  refine va_put (D := (dC, dI)) (ci := 4) (v := .int 0) (ty := .int) (C := RX3) (T := TX3) (N := 3) hx hb hts (by decide +kernel) tyX3 tyX3_ok nmX3 hown hK hP hD hS 0 rfl rfl 1 (by decide) (hts (.fieldLink RX3 13 "DeskMachine$KeyQueue" "first" "I") (by decide +kernel)) (fun _ h9 => h9) rfl (by decide +kernel) rfl rfl (Nat.le_of_ble_eq_true rfl) dX3_init_14 (fun H locs hP hD hS => ?_)
  have hP : va_P (dC, dI) x_cl [(h0, .inr (4, [.ref q7, .int 0, .int 0])), (q7, .inl (c7, 40, .inl (fun _ => 0)))] H := hP
  have hD : va_D A [(h0, .inr (4, [.ref q7, .int 0, .int 0])), (q7, .inl (c7, 40, .inl (fun _ => 0)))] := hD
  refine lv_aload_n hx hb dX3_init_17 rfl (lv_at hl 0 rfl) ?_
  refine lv_iconst (v := 0) hx hb dX3_init_18 (by decide) ?_
  refine va_put (D := (dC, dI)) (ci := 4) (v := .int 0) (ty := .int) (C := RX3) (T := TX3) (N := 3) hx hb hts (by decide +kernel) tyX3 tyX3_ok nmX3 hown hK hP hD hS 0 rfl rfl 2 (by decide) (hts (.fieldLink RX3 17 "DeskMachine$KeyQueue" "count" "I") (by decide +kernel)) (fun _ h9 => h9) rfl (by decide +kernel) rfl rfl (Nat.le_of_ble_eq_true rfl) dX3_init_19 (fun H locs hP hD hS => ?_)
  have hP : va_P (dC, dI) x_cl [(h0, .inr (4, [.ref q7, .int 0, .int 0])), (q7, .inl (c7, 40, .inl (fun _ => 0)))] H := hP
  have hD : va_D A [(h0, .inr (4, [.ref q7, .int 0, .int 0])), (q7, .inl (c7, 40, .inl (fun _ => 0)))] := hD
  exact W.vret hx hb hr (fun t ht hW => ⟨⟨(), rfl, trivial, q7, c7, by rw [ht]; exact hP, va_K.moved hW.alike hK, hD⟩, hS.F ht⟩) hS.2.2 dX3_init_22
set_option maxHeartbeats 4000000 in
set_option maxRecDepth 100000 in
theorem i_X6 (l : Launch) (dC : Nat → ClassId) (dI : Nat → Nat → Nat) (h0 sz : Nat) : Met l yX6_init wsX6_init ({ frames := 1, cells := 1, slots := 64, locals := 12 }) (va_Pc [.ref h0] (fun U => U.heap.size = sz ∧ va_P (dC, dI) x_cl [(h0, .inr (5, [.null, .int 0]))] U.heap ∧ va_K (dC, dI) x_cl [] U ∧ va_D (fun _ => True) [(h0, .inr (5, [.null, .int 0]))])) (va_Qv (fun _ : Unit => True) (fun (_ : Unit) (t : State) => ∃ (q7 : Nat) (c7 : ClassId), va_P (dC, dI) x_cl [(h0, .inr (5, [.ref q7, .int 0])), (q7, .inl (c7, 64, .inl (fun _ => 0)))] t.heap ∧ va_K (dC, dI) x_cl [(c7, .int)] t ∧ va_D (va_A [(h0, .inr (5, [.null, .int 0]))] sz) [(h0, .inr (5, [.ref q7, .int 0])), (q7, .inl (c7, 64, .inl (fun _ => 0)))]) (va_A [(h0, .inr (5, [.null, .int 0]))] sz)) 1 64 (va_A [(h0, .inr (5, [.null, .int 0]))] sz) := by
  refine Met.ofW (cc := cX6_init) (maxL := 1) (ret := none) (by decide) rfl ?_
  intro p e s m args below meth c s₁ B hml hv
  obtain ⟨rfl, hsz, hP, hK, hD0⟩ := hv
  have hx := B.exec
  have hb := B.bytes
  have hr := B.returns
  have hts := atoms_spec (ws := wsX6_init) B.pre
  have hown : s.vm.findClass RX6 = some m.cls := findClass_of_methodNamed B.named
  have hlocks := B.notSynchronized
  have hin : meth.name = "<init>" := (name_of_methodNamed B.named B.method).1
  subst hsz
  have hD := hD0.self (sz := s.heap.size)
  generalize hAe : va_A [(h0, .inr (5, [.null, .int 0]))] s.heap.size = A at hD ⊢
  have hA : ∀ q : Nat, s.heap.size ≤ q → A q := fun q h => by rw [← hAe]; exact Or.inr h
  have hS : va_S A s.heap s.heap [] := va_S.rf
  have hP : va_P (dC, dI) x_cl [(h0, .inr (5, [.null, .int 0]))] s.heap := hP
  have hl := lv_entry ([.ref h0]) (n := 1) (Nat.le_of_ble_eq_true rfl)
  rw [lg_entry_eq]
  generalize (lg_sl ([.ref h0]) ++ List.replicate (1 - (lg_sl ([.ref h0])).length) Slot.unset).toArray = ls at hl ⊢
  have hl : lv_has ls 1 [(0, .ref h0)] := hl
  refine lv_aload_n hx hb dX6_init_0 rfl (lv_at hl 0 rfl) ?_
  refine W.objInit hx hb hown (hts (.methodLink RX6 3 objectInit) (by decide +kernel)) (hts (.instanceMethod objectInit) (by decide +kernel)) (hts _ (List.mem_cons_of_mem _ (List.mem_append_left _ (List.mem_of_getElem? (i := 2) rfl)))) rfl (by rw [hml]; exact hl.1) rfl dX6_init_1 (Nat.le_of_ble_eq_true rfl) (Nat.le_of_ble_eq_true rfl) ?_
  refine W.eq (g2 := F0 m 4 ls []) rfl ?_
  refine lv_aload_n hx hb dX6_init_4 rfl (lv_at hl 0 rfl) ?_
  refine lv_bipush (v := 64) hx hb dX6_init_5 (by decide) ?_
  refine x_newI 64 (by decide) (by decide) hx hb (hts (.arrayClass .int) (by decide +kernel)) hK hP hD hS hA (Nat.le_of_ble_eq_true rfl) (Nat.le_of_ble_eq_true rfl) dX6_init_7 (fun q7 c7 H hK hP hD hS => ?_)
  have hK : va_K (dC, dI) x_cl [(c7, .int)] s := hK
  have hP : va_P (dC, dI) x_cl [(h0, .inr (5, [.null, .int 0])), (q7, .inl (c7, 64, .inl (fun _ => 0)))] H := hP
  have hD : va_D A [(h0, .inr (5, [.null, .int 0])), (q7, .inl (c7, 64, .inl (fun _ => 0)))] := hD
  refine W.widen (k := 1) (n := 64) (by decide) (by decide) ?_
  refine va_putF (D := (dC, dI)) (ci := 5) (v := .ref q7) (ty := .array .int) (C := RX6) (T := TX6) (N := 2) hx hb hts (by decide +kernel) tyX6 tyX6_ok nmX6 hown hK hP hD hS 0 rfl rfl 0 (by decide) (hts (.fieldLink RX6 11 "DeskMachine$Screen" "ring" "[I") (by decide +kernel)) (fun _ h9 => h9) rfl hin rfl (by decide +kernel) rfl rfl (Nat.le_of_ble_eq_true rfl) dX6_init_9 (fun H locs hP hD hS => ?_)
  have hP : va_P (dC, dI) x_cl [(h0, .inr (5, [.ref q7, .int 0])), (q7, .inl (c7, 64, .inl (fun _ => 0)))] H := hP
  have hD : va_D A [(h0, .inr (5, [.ref q7, .int 0])), (q7, .inl (c7, 64, .inl (fun _ => 0)))] := hD
  refine lv_aload_n hx hb dX6_init_12 rfl (lv_at hl 0 rfl) ?_
  refine lv_iconst (v := 0) hx hb dX6_init_13 (by decide) ?_
  refine va_put (D := (dC, dI)) (ci := 5) (v := .int 0) (ty := .int) (C := RX6) (T := TX6) (N := 2) hx hb hts (by decide +kernel) tyX6 tyX6_ok nmX6 hown hK hP hD hS 0 rfl rfl 1 (by decide) (hts (.fieldLink RX6 15 "DeskMachine$Screen" "total" "I") (by decide +kernel)) (fun _ h9 => h9) rfl (by decide +kernel) rfl rfl (Nat.le_of_ble_eq_true rfl) dX6_init_14 (fun H locs hP hD hS => ?_)
  have hP : va_P (dC, dI) x_cl [(h0, .inr (5, [.ref q7, .int 0])), (q7, .inl (c7, 64, .inl (fun _ => 0)))] H := hP
  have hD : va_D A [(h0, .inr (5, [.ref q7, .int 0])), (q7, .inl (c7, 64, .inl (fun _ => 0)))] := hD
  exact W.vret hx hb hr (fun t ht hW => ⟨⟨(), rfl, trivial, q7, c7, by rw [ht]; exact hP, va_K.moved hW.alike hK, hD⟩, hS.F ht⟩) hS.2.2 dX6_init_17
set_option maxHeartbeats 4000000 in
set_option maxRecDepth 100000 in
theorem i_X2 (l : Launch) (dC : Nat → ClassId) (dI : Nat → Nat → Nat) (h0 sz a1 a2 : Nat) : Met l yX2_init wsX2_init ({ frames := 1, cells := 1, slots := 4, locals := 12 }) (va_Pc [.ref h0, .ref a1, .ref a2] (fun U => U.heap.size = sz ∧ va_P (dC, dI) x_cl [(h0, .inr (6, [.null, .null, .null, .int 0, .int 0]))] U.heap ∧ va_K (dC, dI) x_cl [] U ∧ va_D (fun _ => True) [(h0, .inr (6, [.null, .null, .null, .int 0, .int 0]))])) (va_Qv (fun _ : Unit => True) (fun (_ : Unit) (t : State) => ∃ (q16 : Nat) (c16 : ClassId), va_P (dC, dI) x_cl [(h0, .inr (6, [.ref a1, .ref a2, .ref q16, .int 128, .int 0])), (q16, .inl (c16, 4, .inl (fun _ => 0)))] t.heap ∧ va_K (dC, dI) x_cl [(c16, .int)] t ∧ va_D (va_A [(h0, .inr (6, [.null, .null, .null, .int 0, .int 0]))] sz) [(h0, .inr (6, [.ref a1, .ref a2, .ref q16, .int 128, .int 0])), (q16, .inl (c16, 4, .inl (fun _ => 0)))]) (va_A [(h0, .inr (6, [.null, .null, .null, .int 0, .int 0]))] sz)) 1 4 (va_A [(h0, .inr (6, [.null, .null, .null, .int 0, .int 0]))] sz) := by
  refine Met.ofW (cc := cX2_init) (maxL := 3) (ret := none) (by decide) rfl ?_
  intro p e s m args below meth c s₁ B hml hv
  obtain ⟨rfl, hsz, hP, hK, hD0⟩ := hv
  have hx := B.exec
  have hb := B.bytes
  have hr := B.returns
  have hts := atoms_spec (ws := wsX2_init) B.pre
  have hown : s.vm.findClass RX2 = some m.cls := findClass_of_methodNamed B.named
  have hlocks := B.notSynchronized
  have hin : meth.name = "<init>" := (name_of_methodNamed B.named B.method).1
  subst hsz
  have hD := hD0.self (sz := s.heap.size)
  generalize hAe : va_A [(h0, .inr (6, [.null, .null, .null, .int 0, .int 0]))] s.heap.size = A at hD ⊢
  have hA : ∀ q : Nat, s.heap.size ≤ q → A q := fun q h => by rw [← hAe]; exact Or.inr h
  have hS : va_S A s.heap s.heap [] := va_S.rf
  have hP : va_P (dC, dI) x_cl [(h0, .inr (6, [.null, .null, .null, .int 0, .int 0]))] s.heap := hP
  have hl := lv_entry ([.ref h0, .ref a1, .ref a2]) (n := 3) (Nat.le_of_ble_eq_true rfl)
  rw [lg_entry_eq]
  generalize (lg_sl ([.ref h0, .ref a1, .ref a2]) ++ List.replicate (3 - (lg_sl ([.ref h0, .ref a1, .ref a2])).length) Slot.unset).toArray = ls at hl ⊢
  have hl : lv_has ls 3 [(0, .ref h0), (1, .ref a1), (2, .ref a2)] := hl
  refine lv_aload_n hx hb dX2_init_0 rfl (lv_at hl 0 rfl) ?_
  refine W.objInit hx hb hown (hts (.methodLink RX2 3 objectInit) (by decide +kernel)) (hts (.instanceMethod objectInit) (by decide +kernel)) (hts _ (List.mem_cons_of_mem _ (List.mem_append_left _ (List.mem_of_getElem? (i := 2) rfl)))) rfl (by rw [hml]; exact hl.1) rfl dX2_init_1 (Nat.le_of_ble_eq_true rfl) (Nat.le_of_ble_eq_true rfl) ?_
  refine W.eq (g2 := F0 m 4 ls []) rfl ?_
  refine lv_aload_n hx hb dX2_init_4 rfl (lv_at hl 0 rfl) ?_
  refine lv_aload_n hx hb dX2_init_5 rfl (lv_at hl 1 rfl) ?_
  refine va_putF (D := (dC, dI)) (ci := 6) (v := .ref a1) (ty := .object "DeskMachine$Memory") (C := RX2) (T := TX2) (N := 5) hx hb hts (by decide +kernel) tyX2 tyX2_ok nmX2 hown hK hP hD hS 0 rfl rfl 0 (by decide) (hts (.fieldLink RX2 9 "DeskMachine$FileCalls" "memory" "LDeskMachine$Memory;") (by decide +kernel)) (fun _ h9 => h9) rfl hin rfl (by decide +kernel) rfl rfl (Nat.le_of_ble_eq_true rfl) dX2_init_6 (fun H locs hP hD hS => ?_)
  have hP : va_P (dC, dI) x_cl [(h0, .inr (6, [.ref a1, .null, .null, .int 0, .int 0]))] H := hP
  have hD : va_D A [(h0, .inr (6, [.ref a1, .null, .null, .int 0, .int 0]))] := hD
  refine lv_aload_n hx hb dX2_init_9 rfl (lv_at hl 0 rfl) ?_
  refine lv_aload_n hx hb dX2_init_10 rfl (lv_at hl 2 rfl) ?_
  refine va_putF (D := (dC, dI)) (ci := 6) (v := .ref a2) (ty := .object "DeskMachine$Disk") (C := RX2) (T := TX2) (N := 5) hx hb hts (by decide +kernel) tyX2 tyX2_ok nmX2 hown hK hP hD hS 0 rfl rfl 1 (by decide) (hts (.fieldLink RX2 15 "DeskMachine$FileCalls" "disk" "LDeskMachine$Disk;") (by decide +kernel)) (fun _ h9 => h9) rfl hin rfl (by decide +kernel) rfl rfl (Nat.le_of_ble_eq_true rfl) dX2_init_11 (fun H locs hP hD hS => ?_)
  have hP : va_P (dC, dI) x_cl [(h0, .inr (6, [.ref a1, .ref a2, .null, .int 0, .int 0]))] H := hP
  have hD : va_D A [(h0, .inr (6, [.ref a1, .ref a2, .null, .int 0, .int 0]))] := hD
  refine lv_aload_n hx hb dX2_init_14 rfl (lv_at hl 0 rfl) ?_
  refine lv_iconst (v := 4) hx hb dX2_init_15 (by decide) ?_
  refine x_newI 4 (by decide) (by decide) hx hb (hts (.arrayClass .int) (by decide +kernel)) hK hP hD hS hA (Nat.le_of_ble_eq_true rfl) (Nat.le_of_ble_eq_true rfl) dX2_init_16 (fun q16 c16 H hK hP hD hS => ?_)
  have hK : va_K (dC, dI) x_cl [(c16, .int)] s := hK
  have hP : va_P (dC, dI) x_cl [(h0, .inr (6, [.ref a1, .ref a2, .null, .int 0, .int 0])), (q16, .inl (c16, 4, .inl (fun _ => 0)))] H := hP
  have hD : va_D A [(h0, .inr (6, [.ref a1, .ref a2, .null, .int 0, .int 0])), (q16, .inl (c16, 4, .inl (fun _ => 0)))] := hD
  refine W.widen (k := 1) (n := 4) (by decide) (by decide) ?_
  refine va_putF (D := (dC, dI)) (ci := 6) (v := .ref q16) (ty := .array .int) (C := RX2) (T := TX2) (N := 5) hx hb hts (by decide +kernel) tyX2 tyX2_ok nmX2 hown hK hP hD hS 0 rfl rfl 2 (by decide) (hts (.fieldLink RX2 19 "DeskMachine$FileCalls" "name" "[I") (by decide +kernel)) (fun _ h9 => h9) rfl hin rfl (by decide +kernel) rfl rfl (Nat.le_of_ble_eq_true rfl) dX2_init_18 (fun H locs hP hD hS => ?_)
  have hP : va_P (dC, dI) x_cl [(h0, .inr (6, [.ref a1, .ref a2, .ref q16, .int 0, .int 0])), (q16, .inl (c16, 4, .inl (fun _ => 0)))] H := hP
  have hD : va_D A [(h0, .inr (6, [.ref a1, .ref a2, .ref q16, .int 0, .int 0])), (q16, .inl (c16, 4, .inl (fun _ => 0)))] := hD
  refine lv_aload_n hx hb dX2_init_21 rfl (lv_at hl 0 rfl) ?_
  refine lv_sipush (v := 128) hx hb dX2_init_22 (by decide) ?_
  refine va_put (D := (dC, dI)) (ci := 6) (v := .int 128) (ty := .int) (C := RX2) (T := TX2) (N := 5) hx hb hts (by decide +kernel) tyX2 tyX2_ok nmX2 hown hK hP hD hS 0 rfl rfl 3 (by decide) (hts (.fieldLink RX2 23 "DeskMachine$FileCalls" "buffer" "I") (by decide +kernel)) (fun _ h9 => h9) rfl (by decide +kernel) rfl rfl (Nat.le_of_ble_eq_true rfl) dX2_init_25 (fun H locs hP hD hS => ?_)
  have hP : va_P (dC, dI) x_cl [(h0, .inr (6, [.ref a1, .ref a2, .ref q16, .int 128, .int 0])), (q16, .inl (c16, 4, .inl (fun _ => 0)))] H := hP
  have hD : va_D A [(h0, .inr (6, [.ref a1, .ref a2, .ref q16, .int 128, .int 0])), (q16, .inl (c16, 4, .inl (fun _ => 0)))] := hD
  refine lv_aload_n hx hb dX2_init_28 rfl (lv_at hl 0 rfl) ?_
  refine lv_iconst (v := 0) hx hb dX2_init_29 (by decide) ?_
  refine va_put (D := (dC, dI)) (ci := 6) (v := .int 0) (ty := .int) (C := RX2) (T := TX2) (N := 5) hx hb hts (by decide +kernel) tyX2 tyX2_ok nmX2 hown hK hP hD hS 0 rfl rfl 4 (by decide) (hts (.fieldLink RX2 27 "DeskMachine$FileCalls" "searchFrom" "I") (by decide +kernel)) (fun _ h9 => h9) rfl (by decide +kernel) rfl rfl (Nat.le_of_ble_eq_true rfl) dX2_init_30 (fun H locs hP hD hS => ?_)
  have hP : va_P (dC, dI) x_cl [(h0, .inr (6, [.ref a1, .ref a2, .ref q16, .int 128, .int 0])), (q16, .inl (c16, 4, .inl (fun _ => 0)))] H := hP
  have hD : va_D A [(h0, .inr (6, [.ref a1, .ref a2, .ref q16, .int 128, .int 0])), (q16, .inl (c16, 4, .inl (fun _ => 0)))] := hD
  exact W.vret hx hb hr (fun t ht hW => ⟨⟨(), rfl, trivial, q16, c16, by rw [ht]; exact hP, va_K.moved hW.alike hK, hD⟩, hS.F ht⟩) hS.2.2 dX2_init_33
set_option maxHeartbeats 4000000 in
set_option maxRecDepth 100000 in
theorem i_X0 (l : Launch) (dC : Nat → ClassId) (dI : Nat → Nat → Nat) (h0 sz a1 a2 a3 : Nat) : Met l yX0_init wsX0_init ({ frames := 1, cells := 4, slots := 30, locals := 12 }) (va_Pc [.ref h0, .ref a1, .ref a2, .ref a3] (fun U => U.heap.size = sz ∧ va_P (dC, dI) x_cl [(h0, .inr (7, [.null, .null, .null, .null, .null, .null, .null, .int 0, .int 0]))] U.heap ∧ va_K (dC, dI) x_cl [] U ∧ va_D (fun _ => True) [(h0, .inr (7, [.null, .null, .null, .null, .null, .null, .null, .int 0, .int 0]))])) (va_Qv (fun _ : Unit => True) (fun (_ : Unit) (t : State) => ∃ (q22 q29 q36 q43 : Nat) (c22 : ClassId), va_P (dC, dI) x_cl [(h0, .inr (7, [.ref a1, .ref a2, .ref a3, .ref q22, .ref q29, .ref q36, .ref q43, .int 0, .int 0])), (q22, .inl (c22, 20, .inl (fun _ => 0))), (q29, .inl (c22, 3, .inl (fun _ => 0))), (q36, .inl (c22, 3, .inl (fun _ => 0))), (q43, .inl (c22, 4, .inl (fun _ => 0)))] t.heap ∧ va_K (dC, dI) x_cl [(c22, .int)] t ∧ va_D (va_A [(h0, .inr (7, [.null, .null, .null, .null, .null, .null, .null, .int 0, .int 0]))] sz) [(h0, .inr (7, [.ref a1, .ref a2, .ref a3, .ref q22, .ref q29, .ref q36, .ref q43, .int 0, .int 0])), (q22, .inl (c22, 20, .inl (fun _ => 0))), (q29, .inl (c22, 3, .inl (fun _ => 0))), (q36, .inl (c22, 3, .inl (fun _ => 0))), (q43, .inl (c22, 4, .inl (fun _ => 0)))]) (va_A [(h0, .inr (7, [.null, .null, .null, .null, .null, .null, .null, .int 0, .int 0]))] sz)) 4 30 (va_A [(h0, .inr (7, [.null, .null, .null, .null, .null, .null, .null, .int 0, .int 0]))] sz) := by
  refine Met.ofW (cc := cX0_init) (maxL := 4) (ret := none) (by decide) rfl ?_
  intro p e s m args below meth c s₁ B hml hv
  obtain ⟨rfl, hsz, hP, hK, hD0⟩ := hv
  have hx := B.exec
  have hb := B.bytes
  have hr := B.returns
  have hts := atoms_spec (ws := wsX0_init) B.pre
  have hown : s.vm.findClass RX0 = some m.cls := findClass_of_methodNamed B.named
  have hlocks := B.notSynchronized
  have hin : meth.name = "<init>" := (name_of_methodNamed B.named B.method).1
  subst hsz
  have hD := hD0.self (sz := s.heap.size)
  generalize hAe : va_A [(h0, .inr (7, [.null, .null, .null, .null, .null, .null, .null, .int 0, .int 0]))] s.heap.size = A at hD ⊢
  have hA : ∀ q : Nat, s.heap.size ≤ q → A q := fun q h => by rw [← hAe]; exact Or.inr h
  have hS : va_S A s.heap s.heap [] := va_S.rf
  have hP : va_P (dC, dI) x_cl [(h0, .inr (7, [.null, .null, .null, .null, .null, .null, .null, .int 0, .int 0]))] s.heap := hP
  have hl := lv_entry ([.ref h0, .ref a1, .ref a2, .ref a3]) (n := 4) (Nat.le_of_ble_eq_true rfl)
  rw [lg_entry_eq]
  generalize (lg_sl ([.ref h0, .ref a1, .ref a2, .ref a3]) ++ List.replicate (4 - (lg_sl ([.ref h0, .ref a1, .ref a2, .ref a3])).length) Slot.unset).toArray = ls at hl ⊢
  have hl : lv_has ls 4 [(0, .ref h0), (1, .ref a1), (2, .ref a2), (3, .ref a3)] := hl
  refine lv_aload_n hx hb dX0_init_0 rfl (lv_at hl 0 rfl) ?_
  refine W.objInit hx hb hown (hts (.methodLink RX0 3 objectInit) (by decide +kernel)) (hts (.instanceMethod objectInit) (by decide +kernel)) (hts _ (List.mem_cons_of_mem _ (List.mem_append_left _ (List.mem_of_getElem? (i := 2) rfl)))) rfl (by rw [hml]; exact hl.1) rfl dX0_init_1 (Nat.le_of_ble_eq_true rfl) (Nat.le_of_ble_eq_true rfl) ?_
  refine W.eq (g2 := F0 m 4 ls []) rfl ?_
  refine lv_aload_n hx hb dX0_init_4 rfl (lv_at hl 0 rfl) ?_
  refine lv_aload_n hx hb dX0_init_5 rfl (lv_at hl 1 rfl) ?_
  refine va_putF (D := (dC, dI)) (ci := 7) (v := .ref a1) (ty := .object "DeskMachine$Memory") (C := RX0) (T := TX0) (N := 9) hx hb hts (by decide +kernel) tyX0 tyX0_ok nmX0 hown hK hP hD hS 0 rfl rfl 0 (by decide) (hts (.fieldLink RX0 9 "DeskMachine$Desk" "memory" "LDeskMachine$Memory;") (by decide +kernel)) (fun _ h9 => h9) rfl hin rfl (by decide +kernel) rfl rfl (Nat.le_of_ble_eq_true rfl) dX0_init_6 (fun H locs hP hD hS => ?_)
  have hP : va_P (dC, dI) x_cl [(h0, .inr (7, [.ref a1, .null, .null, .null, .null, .null, .null, .int 0, .int 0]))] H := hP
  have hD : va_D A [(h0, .inr (7, [.ref a1, .null, .null, .null, .null, .null, .null, .int 0, .int 0]))] := hD
  refine lv_aload_n hx hb dX0_init_9 rfl (lv_at hl 0 rfl) ?_
  refine lv_aload_n hx hb dX0_init_10 rfl (lv_at hl 2 rfl) ?_
  refine va_putF (D := (dC, dI)) (ci := 7) (v := .ref a2) (ty := .object "DeskMachine$Disk") (C := RX0) (T := TX0) (N := 9) hx hb hts (by decide +kernel) tyX0 tyX0_ok nmX0 hown hK hP hD hS 0 rfl rfl 1 (by decide) (hts (.fieldLink RX0 15 "DeskMachine$Desk" "disk" "LDeskMachine$Disk;") (by decide +kernel)) (fun _ h9 => h9) rfl hin rfl (by decide +kernel) rfl rfl (Nat.le_of_ble_eq_true rfl) dX0_init_11 (fun H locs hP hD hS => ?_)
  have hP : va_P (dC, dI) x_cl [(h0, .inr (7, [.ref a1, .ref a2, .null, .null, .null, .null, .null, .int 0, .int 0]))] H := hP
  have hD : va_D A [(h0, .inr (7, [.ref a1, .ref a2, .null, .null, .null, .null, .null, .int 0, .int 0]))] := hD
  refine lv_aload_n hx hb dX0_init_14 rfl (lv_at hl 0 rfl) ?_
  refine lv_aload_n hx hb dX0_init_15 rfl (lv_at hl 3 rfl) ?_
  refine va_putF (D := (dC, dI)) (ci := 7) (v := .ref a3) (ty := .object "DeskMachine$Screen") (C := RX0) (T := TX0) (N := 9) hx hb hts (by decide +kernel) tyX0 tyX0_ok nmX0 hown hK hP hD hS 0 rfl rfl 2 (by decide) (hts (.fieldLink RX0 19 "DeskMachine$Desk" "screen" "LDeskMachine$Screen;") (by decide +kernel)) (fun _ h9 => h9) rfl hin rfl (by decide +kernel) rfl rfl (Nat.le_of_ble_eq_true rfl) dX0_init_16 (fun H locs hP hD hS => ?_)
  have hP : va_P (dC, dI) x_cl [(h0, .inr (7, [.ref a1, .ref a2, .ref a3, .null, .null, .null, .null, .int 0, .int 0]))] H := hP
  have hD : va_D A [(h0, .inr (7, [.ref a1, .ref a2, .ref a3, .null, .null, .null, .null, .int 0, .int 0]))] := hD
  refine lv_aload_n hx hb dX0_init_19 rfl (lv_at hl 0 rfl) ?_
  refine lv_bipush (v := 20) hx hb dX0_init_20 (by decide) ?_
  refine x_newI 20 (by decide) (by decide) hx hb (hts (.arrayClass .int) (by decide +kernel)) hK hP hD hS hA (Nat.le_of_ble_eq_true rfl) (Nat.le_of_ble_eq_true rfl) dX0_init_22 (fun q22 c22 H hK hP hD hS => ?_)
  have hK : va_K (dC, dI) x_cl [(c22, .int)] s := hK
  have hP : va_P (dC, dI) x_cl [(h0, .inr (7, [.ref a1, .ref a2, .ref a3, .null, .null, .null, .null, .int 0, .int 0])), (q22, .inl (c22, 20, .inl (fun _ => 0)))] H := hP
  have hD : va_D A [(h0, .inr (7, [.ref a1, .ref a2, .ref a3, .null, .null, .null, .null, .int 0, .int 0])), (q22, .inl (c22, 20, .inl (fun _ => 0)))] := hD
  refine W.widen (k := 1) (n := 20) (by decide) (by decide) ?_
  refine va_putF (D := (dC, dI)) (ci := 7) (v := .ref q22) (ty := .array .int) (C := RX0) (T := TX0) (N := 9) hx hb hts (by decide +kernel) tyX0 tyX0_ok nmX0 hown hK hP hD hS 0 rfl rfl 3 (by decide) (hts (.fieldLink RX0 23 "DeskMachine$Desk" "line" "[I") (by decide +kernel)) (fun _ h9 => h9) rfl hin rfl (by decide +kernel) rfl rfl (Nat.le_of_ble_eq_true rfl) dX0_init_24 (fun H locs hP hD hS => ?_)
  have hP : va_P (dC, dI) x_cl [(h0, .inr (7, [.ref a1, .ref a2, .ref a3, .ref q22, .null, .null, .null, .int 0, .int 0])), (q22, .inl (c22, 20, .inl (fun _ => 0)))] H := hP
  have hD : va_D A [(h0, .inr (7, [.ref a1, .ref a2, .ref a3, .ref q22, .null, .null, .null, .int 0, .int 0])), (q22, .inl (c22, 20, .inl (fun _ => 0)))] := hD
  refine lv_aload_n hx hb dX0_init_27 rfl (lv_at hl 0 rfl) ?_
  refine lv_iconst (v := 3) hx hb dX0_init_28 (by decide) ?_
  refine x_newI 3 (by decide) (by decide) hx hb (hts (.arrayClass .int) (by decide +kernel)) hK hP hD hS hA (Nat.le_of_ble_eq_true rfl) (Nat.le_of_ble_eq_true rfl) dX0_init_29 (fun q29 c29 H hK hP hD hS => ?_)
  have e9 : c29 = c22 := Option.some.inj ((hK.2 1 _ rfl).2.symm.trans (hK.2 0 _ rfl).2)
  rw [e9] at hK hP hD
  have hK : va_K (dC, dI) x_cl [(c22, .int)] s := hK.sub [0] rfl
  have hP : va_P (dC, dI) x_cl [(h0, .inr (7, [.ref a1, .ref a2, .ref a3, .ref q22, .null, .null, .null, .int 0, .int 0])), (q22, .inl (c22, 20, .inl (fun _ => 0))), (q29, .inl (c22, 3, .inl (fun _ => 0)))] H := hP
  have hD : va_D A [(h0, .inr (7, [.ref a1, .ref a2, .ref a3, .ref q22, .null, .null, .null, .int 0, .int 0])), (q22, .inl (c22, 20, .inl (fun _ => 0))), (q29, .inl (c22, 3, .inl (fun _ => 0)))] := hD
  refine W.widen (k := 2) (n := 23) (by decide) (by decide) ?_
  refine va_putF (D := (dC, dI)) (ci := 7) (v := .ref q29) (ty := .array .int) (C := RX0) (T := TX0) (N := 9) hx hb hts (by decide +kernel) tyX0 tyX0_ok nmX0 hown hK hP hD hS 0 rfl rfl 4 (by decide) (hts (.fieldLink RX0 27 "DeskMachine$Desk" "wordStart" "[I") (by decide +kernel)) (fun _ h9 => h9) rfl hin rfl (by decide +kernel) rfl rfl (Nat.le_of_ble_eq_true rfl) dX0_init_31 (fun H locs hP hD hS => ?_)
  have hP : va_P (dC, dI) x_cl [(h0, .inr (7, [.ref a1, .ref a2, .ref a3, .ref q22, .ref q29, .null, .null, .int 0, .int 0])), (q22, .inl (c22, 20, .inl (fun _ => 0))), (q29, .inl (c22, 3, .inl (fun _ => 0)))] H := hP
  have hD : va_D A [(h0, .inr (7, [.ref a1, .ref a2, .ref a3, .ref q22, .ref q29, .null, .null, .int 0, .int 0])), (q22, .inl (c22, 20, .inl (fun _ => 0))), (q29, .inl (c22, 3, .inl (fun _ => 0)))] := hD
  refine lv_aload_n hx hb dX0_init_34 rfl (lv_at hl 0 rfl) ?_
  refine lv_iconst (v := 3) hx hb dX0_init_35 (by decide) ?_
  refine x_newI 3 (by decide) (by decide) hx hb (hts (.arrayClass .int) (by decide +kernel)) hK hP hD hS hA (Nat.le_of_ble_eq_true rfl) (Nat.le_of_ble_eq_true rfl) dX0_init_36 (fun q36 c36 H hK hP hD hS => ?_)
  have e9 : c36 = c22 := Option.some.inj ((hK.2 1 _ rfl).2.symm.trans (hK.2 0 _ rfl).2)
  rw [e9] at hK hP hD
  have hK : va_K (dC, dI) x_cl [(c22, .int)] s := hK.sub [0] rfl
  have hP : va_P (dC, dI) x_cl [(h0, .inr (7, [.ref a1, .ref a2, .ref a3, .ref q22, .ref q29, .null, .null, .int 0, .int 0])), (q22, .inl (c22, 20, .inl (fun _ => 0))), (q29, .inl (c22, 3, .inl (fun _ => 0))), (q36, .inl (c22, 3, .inl (fun _ => 0)))] H := hP
  have hD : va_D A [(h0, .inr (7, [.ref a1, .ref a2, .ref a3, .ref q22, .ref q29, .null, .null, .int 0, .int 0])), (q22, .inl (c22, 20, .inl (fun _ => 0))), (q29, .inl (c22, 3, .inl (fun _ => 0))), (q36, .inl (c22, 3, .inl (fun _ => 0)))] := hD
  refine W.widen (k := 3) (n := 26) (by decide) (by decide) ?_
  refine va_putF (D := (dC, dI)) (ci := 7) (v := .ref q36) (ty := .array .int) (C := RX0) (T := TX0) (N := 9) hx hb hts (by decide +kernel) tyX0 tyX0_ok nmX0 hown hK hP hD hS 0 rfl rfl 5 (by decide) (hts (.fieldLink RX0 30 "DeskMachine$Desk" "wordEnd" "[I") (by decide +kernel)) (fun _ h9 => h9) rfl hin rfl (by decide +kernel) rfl rfl (Nat.le_of_ble_eq_true rfl) dX0_init_38 (fun H locs hP hD hS => ?_)
  have hP : va_P (dC, dI) x_cl [(h0, .inr (7, [.ref a1, .ref a2, .ref a3, .ref q22, .ref q29, .ref q36, .null, .int 0, .int 0])), (q22, .inl (c22, 20, .inl (fun _ => 0))), (q29, .inl (c22, 3, .inl (fun _ => 0))), (q36, .inl (c22, 3, .inl (fun _ => 0)))] H := hP
  have hD : va_D A [(h0, .inr (7, [.ref a1, .ref a2, .ref a3, .ref q22, .ref q29, .ref q36, .null, .int 0, .int 0])), (q22, .inl (c22, 20, .inl (fun _ => 0))), (q29, .inl (c22, 3, .inl (fun _ => 0))), (q36, .inl (c22, 3, .inl (fun _ => 0)))] := hD
  refine lv_aload_n hx hb dX0_init_41 rfl (lv_at hl 0 rfl) ?_
  refine lv_iconst (v := 4) hx hb dX0_init_42 (by decide) ?_
  refine x_newI 4 (by decide) (by decide) hx hb (hts (.arrayClass .int) (by decide +kernel)) hK hP hD hS hA (Nat.le_of_ble_eq_true rfl) (Nat.le_of_ble_eq_true rfl) dX0_init_43 (fun q43 c43 H hK hP hD hS => ?_)
  have e9 : c43 = c22 := Option.some.inj ((hK.2 1 _ rfl).2.symm.trans (hK.2 0 _ rfl).2)
  rw [e9] at hK hP hD
  have hK : va_K (dC, dI) x_cl [(c22, .int)] s := hK.sub [0] rfl
  have hP : va_P (dC, dI) x_cl [(h0, .inr (7, [.ref a1, .ref a2, .ref a3, .ref q22, .ref q29, .ref q36, .null, .int 0, .int 0])), (q22, .inl (c22, 20, .inl (fun _ => 0))), (q29, .inl (c22, 3, .inl (fun _ => 0))), (q36, .inl (c22, 3, .inl (fun _ => 0))), (q43, .inl (c22, 4, .inl (fun _ => 0)))] H := hP
  have hD : va_D A [(h0, .inr (7, [.ref a1, .ref a2, .ref a3, .ref q22, .ref q29, .ref q36, .null, .int 0, .int 0])), (q22, .inl (c22, 20, .inl (fun _ => 0))), (q29, .inl (c22, 3, .inl (fun _ => 0))), (q36, .inl (c22, 3, .inl (fun _ => 0))), (q43, .inl (c22, 4, .inl (fun _ => 0)))] := hD
  refine W.widen (k := 4) (n := 30) (by decide) (by decide) ?_
  refine va_putF (D := (dC, dI)) (ci := 7) (v := .ref q43) (ty := .array .int) (C := RX0) (T := TX0) (N := 9) hx hb hts (by decide +kernel) tyX0 tyX0_ok nmX0 hown hK hP hD hS 0 rfl rfl 6 (by decide) (hts (.fieldLink RX0 33 "DeskMachine$Desk" "name" "[I") (by decide +kernel)) (fun _ h9 => h9) rfl hin rfl (by decide +kernel) rfl rfl (Nat.le_of_ble_eq_true rfl) dX0_init_45 (fun H locs hP hD hS => ?_)
  have hP : va_P (dC, dI) x_cl [(h0, .inr (7, [.ref a1, .ref a2, .ref a3, .ref q22, .ref q29, .ref q36, .ref q43, .int 0, .int 0])), (q22, .inl (c22, 20, .inl (fun _ => 0))), (q29, .inl (c22, 3, .inl (fun _ => 0))), (q36, .inl (c22, 3, .inl (fun _ => 0))), (q43, .inl (c22, 4, .inl (fun _ => 0)))] H := hP
  have hD : va_D A [(h0, .inr (7, [.ref a1, .ref a2, .ref a3, .ref q22, .ref q29, .ref q36, .ref q43, .int 0, .int 0])), (q22, .inl (c22, 20, .inl (fun _ => 0))), (q29, .inl (c22, 3, .inl (fun _ => 0))), (q36, .inl (c22, 3, .inl (fun _ => 0))), (q43, .inl (c22, 4, .inl (fun _ => 0)))] := hD
  refine lv_aload_n hx hb dX0_init_48 rfl (lv_at hl 0 rfl) ?_
  refine lv_iconst (v := 0) hx hb dX0_init_49 (by decide) ?_
  refine va_put (D := (dC, dI)) (ci := 7) (v := .int 0) (ty := .int) (C := RX0) (T := TX0) (N := 9) hx hb hts (by decide +kernel) tyX0 tyX0_ok nmX0 hown hK hP hD hS 0 rfl rfl 7 (by decide) (hts (.fieldLink RX0 36 "DeskMachine$Desk" "length" "I") (by decide +kernel)) (fun _ h9 => h9) rfl (by decide +kernel) rfl rfl (Nat.le_of_ble_eq_true rfl) dX0_init_50 (fun H locs hP hD hS => ?_)
  have hP : va_P (dC, dI) x_cl [(h0, .inr (7, [.ref a1, .ref a2, .ref a3, .ref q22, .ref q29, .ref q36, .ref q43, .int 0, .int 0])), (q22, .inl (c22, 20, .inl (fun _ => 0))), (q29, .inl (c22, 3, .inl (fun _ => 0))), (q36, .inl (c22, 3, .inl (fun _ => 0))), (q43, .inl (c22, 4, .inl (fun _ => 0)))] H := hP
  have hD : va_D A [(h0, .inr (7, [.ref a1, .ref a2, .ref a3, .ref q22, .ref q29, .ref q36, .ref q43, .int 0, .int 0])), (q22, .inl (c22, 20, .inl (fun _ => 0))), (q29, .inl (c22, 3, .inl (fun _ => 0))), (q36, .inl (c22, 3, .inl (fun _ => 0))), (q43, .inl (c22, 4, .inl (fun _ => 0)))] := hD
  refine lv_aload_n hx hb dX0_init_53 rfl (lv_at hl 0 rfl) ?_
  refine lv_iconst (v := 0) hx hb dX0_init_54 (by decide) ?_
  refine va_put (D := (dC, dI)) (ci := 7) (v := .int 0) (ty := .int) (C := RX0) (T := TX0) (N := 9) hx hb hts (by decide +kernel) tyX0 tyX0_ok nmX0 hown hK hP hD hS 0 rfl rfl 8 (by decide) (hts (.fieldLink RX0 40 "DeskMachine$Desk" "words" "I") (by decide +kernel)) (fun _ h9 => h9) rfl (by decide +kernel) rfl rfl (Nat.le_of_ble_eq_true rfl) dX0_init_55 (fun H locs hP hD hS => ?_)
  have hP : va_P (dC, dI) x_cl [(h0, .inr (7, [.ref a1, .ref a2, .ref a3, .ref q22, .ref q29, .ref q36, .ref q43, .int 0, .int 0])), (q22, .inl (c22, 20, .inl (fun _ => 0))), (q29, .inl (c22, 3, .inl (fun _ => 0))), (q36, .inl (c22, 3, .inl (fun _ => 0))), (q43, .inl (c22, 4, .inl (fun _ => 0)))] H := hP
  have hD : va_D A [(h0, .inr (7, [.ref a1, .ref a2, .ref a3, .ref q22, .ref q29, .ref q36, .ref q43, .int 0, .int 0])), (q22, .inl (c22, 20, .inl (fun _ => 0))), (q29, .inl (c22, 3, .inl (fun _ => 0))), (q36, .inl (c22, 3, .inl (fun _ => 0))), (q43, .inl (c22, 4, .inl (fun _ => 0)))] := hD
  exact W.vret hx hb hr (fun t ht hW => ⟨⟨(), rfl, trivial, q22, q29, q36, q43, c22, by rw [ht]; exact hP, va_K.moved hW.alike hK, hD⟩, hS.F ht⟩) hS.2.2 dX0_init_58
set_option maxHeartbeats 4000000 in
set_option maxRecDepth 100000 in
theorem i_X7 (l : Launch) (dC : Nat → ClassId) (dI : Nat → Nat → Nat) (h0 sz : Nat) : Met l yX7_init wsX7_init ({ frames := 2, cells := 18, slots := 1457, locals := 40 }) (va_Pc [.ref h0] (fun U => U.heap.size = sz ∧ va_P (dC, dI) x_cl [(h0, .inr (0, [.null, .null, .null, .null, .null, .null, .null, .int 0, .int 0]))] U.heap ∧ va_K (dC, dI) x_cl [] U ∧ va_D (fun _ => True) [(h0, .inr (0, [.null, .null, .null, .null, .null, .null, .null, .int 0, .int 0]))])) (va_Qv (fun _ : Unit => True) (fun (_ : Unit) (t : State) => ∃ (q5 q8_9 q16 q12_24 q31 q8_35 q17_35 q42 q7_46 q53 q7_57 q64 q16_76 q83 q22_99 q29_99 q36_99 q43_99 : Nat) (c8_9 c17_35 : ClassId), va_P (dC, dI) x_cl [(h0, .inr (0, [.ref q5, .ref q16, .ref q31, .ref q42, .ref q53, .ref q64, .ref q83, .int 0, .int 0])), (q5, .inr (1, [.ref q8_9])), (q8_9, .inl (c8_9, 512, .inl (fun _ => 0))), (q16, .inr (2, [.ref q5, .ref q12_24, .int 0, .int 0, .int 0, .int 0, .int 0, .int 0, .int 0])), (q12_24, .inl (c8_9, 8, .inl (fun _ => 0))), (q31, .inr (3, [.ref q8_35, .ref q17_35])), (q8_35, .inl (c8_9, 512, .inl (upd (upd (upd (upd (upd (upd (upd (upd (fun _ => 0) 0 229) 16 229) 32 229) 48 229) 64 229) 80 229) 96 229) 112 229))), (q17_35, .inl (c17_35, 256, .inl (fun _ => 0))), (q42, .inr (4, [.ref q7_46, .int 0, .int 0])), (q7_46, .inl (c8_9, 40, .inl (fun _ => 0))), (q53, .inr (5, [.ref q7_57, .int 0])), (q7_57, .inl (c8_9, 64, .inl (fun _ => 0))), (q64, .inr (6, [.ref q5, .ref q31, .ref q16_76, .int 128, .int 0])), (q16_76, .inl (c8_9, 4, .inl (fun _ => 0))), (q83, .inr (7, [.ref q5, .ref q31, .ref q53, .ref q22_99, .ref q29_99, .ref q36_99, .ref q43_99, .int 0, .int 0])), (q22_99, .inl (c8_9, 20, .inl (fun _ => 0))), (q29_99, .inl (c8_9, 3, .inl (fun _ => 0))), (q36_99, .inl (c8_9, 3, .inl (fun _ => 0))), (q43_99, .inl (c8_9, 4, .inl (fun _ => 0)))] t.heap ∧ va_K (dC, dI) x_cl [(c8_9, .int), (c17_35, .boolean)] t ∧ va_D (va_A [(h0, .inr (0, [.null, .null, .null, .null, .null, .null, .null, .int 0, .int 0]))] sz) [(h0, .inr (0, [.ref q5, .ref q16, .ref q31, .ref q42, .ref q53, .ref q64, .ref q83, .int 0, .int 0])), (q5, .inr (1, [.ref q8_9])), (q8_9, .inl (c8_9, 512, .inl (fun _ => 0))), (q16, .inr (2, [.ref q5, .ref q12_24, .int 0, .int 0, .int 0, .int 0, .int 0, .int 0, .int 0])), (q12_24, .inl (c8_9, 8, .inl (fun _ => 0))), (q31, .inr (3, [.ref q8_35, .ref q17_35])), (q8_35, .inl (c8_9, 512, .inl (upd (upd (upd (upd (upd (upd (upd (upd (fun _ => 0) 0 229) 16 229) 32 229) 48 229) 64 229) 80 229) 96 229) 112 229))), (q17_35, .inl (c17_35, 256, .inl (fun _ => 0))), (q42, .inr (4, [.ref q7_46, .int 0, .int 0])), (q7_46, .inl (c8_9, 40, .inl (fun _ => 0))), (q53, .inr (5, [.ref q7_57, .int 0])), (q7_57, .inl (c8_9, 64, .inl (fun _ => 0))), (q64, .inr (6, [.ref q5, .ref q31, .ref q16_76, .int 128, .int 0])), (q16_76, .inl (c8_9, 4, .inl (fun _ => 0))), (q83, .inr (7, [.ref q5, .ref q31, .ref q53, .ref q22_99, .ref q29_99, .ref q36_99, .ref q43_99, .int 0, .int 0])), (q22_99, .inl (c8_9, 20, .inl (fun _ => 0))), (q29_99, .inl (c8_9, 3, .inl (fun _ => 0))), (q36_99, .inl (c8_9, 3, .inl (fun _ => 0))), (q43_99, .inl (c8_9, 4, .inl (fun _ => 0)))]) (va_A [(h0, .inr (0, [.null, .null, .null, .null, .null, .null, .null, .int 0, .int 0]))] sz)) 18 1457 (va_A [(h0, .inr (0, [.null, .null, .null, .null, .null, .null, .null, .int 0, .int 0]))] sz) := by
  refine Met.ofW (cc := cX7_init) (maxL := 1) (ret := none) (by decide) rfl ?_
  intro p e s m args below meth c s₁ B hml hv
  obtain ⟨rfl, hsz, hP, hK, hD0⟩ := hv
  have hx := B.exec
  have hb := B.bytes
  have hr := B.returns
  have hts := atoms_spec (ws := wsX7_init) B.pre
  have hown : s.vm.findClass RX7 = some m.cls := findClass_of_methodNamed B.named
  have hlocks := B.notSynchronized
  have hin : meth.name = "<init>" := (name_of_methodNamed B.named B.method).1
  subst hsz
  have hD := hD0.self (sz := s.heap.size)
  generalize hAe : va_A [(h0, .inr (0, [.null, .null, .null, .null, .null, .null, .null, .int 0, .int 0]))] s.heap.size = A at hD ⊢
  have hA : ∀ q : Nat, s.heap.size ≤ q → A q := fun q h => by rw [← hAe]; exact Or.inr h
  have hS : va_S A s.heap s.heap [] := va_S.rf
  have hP : va_P (dC, dI) x_cl [(h0, .inr (0, [.null, .null, .null, .null, .null, .null, .null, .int 0, .int 0]))] s.heap := hP
  have hl := lv_entry ([.ref h0]) (n := 1) (Nat.le_of_ble_eq_true rfl)
  rw [lg_entry_eq]
  generalize (lg_sl ([.ref h0]) ++ List.replicate (1 - (lg_sl ([.ref h0])).length) Slot.unset).toArray = ls at hl ⊢
  have hl : lv_has ls 1 [(0, .ref h0)] := hl
  refine lv_aload_n hx hb dX7_init_0 rfl (lv_at hl 0 rfl) ?_
  refine W.objInit hx hb hown (hts (.methodLink RX7 1 objectInit) (by decide +kernel)) (hts (.instanceMethod objectInit) (by decide +kernel)) (hts _ (List.mem_cons_of_mem _ (List.mem_append_left _ (List.mem_append_left _ (List.mem_append_left _ (List.mem_append_left _ (List.mem_append_left _ (List.mem_append_left _ (List.mem_append_left _ (List.mem_append_left _ (List.mem_append_left _ (List.mem_of_getElem? (i := 2) rfl)))))))))))) rfl (by rw [hml]; exact hl.1) rfl dX7_init_1 (Nat.le_of_ble_eq_true rfl) (Nat.le_of_ble_eq_true rfl) ?_
  refine W.eq (g2 := F0 m 4 ls []) rfl ?_
  refine lv_aload_n hx hb dX7_init_4 rfl (lv_at hl 0 rfl) ?_
  refine va_new (ci := 1) (fs := [.null]) (C := RX4) (T := TX4) (N := 1) hx hb hts (by decide +kernel) tyX4 tyX4_ok hown (hts (.classLink RX7 7 RX4) (by decide +kernel)) (hts (.instantiable RX4 1) (by decide +kernel)) (hts (.initialized RX4) (by decide +kernel)) hK hP hD hS hA rfl (by decide +kernel) (Nat.le_of_ble_eq_true rfl) (Nat.le_of_ble_eq_true rfl) dX7_init_5 (fun q5 H hP hD hS => ?_)
  have hP : va_P (dC, dI) x_cl [(h0, .inr (0, [.null, .null, .null, .null, .null, .null, .null, .int 0, .int 0])), (q5, .inr (1, [.null]))] H := hP
  have hD : va_D A [(h0, .inr (0, [.null, .null, .null, .null, .null, .null, .null, .int 0, .int 0])), (q5, .inr (1, [.null]))] := hD
  refine W.widen (k := 1) (n := 1) (by decide) (by decide) ?_
  refine lv_dup hx hb dX7_init_8 rfl ?_
  have hPc := hP.sub (ws' := [(q5, .inr (1, [.null]))]) [1] rfl
  have hDc := hD.sub (ws' := [(q5, .inr (1, [.null]))]) [1] (by decide) rfl
  have hKc := hK.sub (tys' := []) [] rfl
  have hFc := va_free (wc := [(q5, .inr (1, [.null]))]) hD hS hA [1] rfl
  refine va_callv (va_runI (As := []) (rest := [.ref q5, .ref h0]) ⟨hx, hb, hml, hown, hts⟩ (i_X4 l dC dI q5 H.size) (cwI 0 hts gX7_init_X4_init rfl rfl rfl (hts (.initialized RX4) (by decide +kernel)) (hts (.methodLink RX7 9 yX4_init) (by decide +kernel)) (hts (.instanceMethod yX4_init) (by decide +kernel)) rfl (by decide +kernel) ⟨Nat.le_of_ble_eq_true rfl, Nat.le_of_ble_eq_true rfl⟩) ⟨fun a U g mk q => by obtain ⟨q0, q1, qP, qK, qD⟩ := q; exact ⟨q0, q1, qP, va_K.moved (u := U) (U := U.calling g mk a) (Vm.Alike.refl U.vm) qK, qD⟩, fun U hU hW => ⟨rfl, by rw [hU], by rw [hU]; exact hPc, va_K.moved hW.alike hKc, hDc.weaken (fun _ _ _ _ => trivial)⟩⟩ rfl rfl hl.1 rfl (Nat.le_of_ble_eq_true rfl) dX7_init_9 ⟨Nat.le_of_ble_eq_true rfl, Nat.le_of_ble_eq_true rfl⟩) hS (fun q _ h => hFc q h) (fun q h => hFc q h) (fun u t H1 locs1 ht hvm h9 hB hsz1 hk1 hS => ?_)
  obtain ⟨q8_9, c8_9, hP1, hK1, hD1⟩ := hB
  rw [ht] at hP1
  have hK1 := va_K.moved hvm.symm hK1
  obtain ⟨hP, hD⟩ := va_join (wr := [(h0, .inr (0, [.null, .null, .null, .null, .null, .null, .null, .int 0, .int 0]))]) (w1 := [(q5, .inr (1, [.ref q8_9])), (q8_9, .inl (c8_9, 512, .inl (fun _ => 0)))]) hP hD [1] [0] rfl rfl (by decide) (by decide) hk1 hFc hP1 hD1
  have hK := (hK.sub (tys' := []) [] rfl).app hK1
  have hK : va_K (dC, dI) x_cl [(c8_9, .int)] s := hK.sub [0] rfl
  generalize H1 = H at hP hS ⊢
  have hP : va_P (dC, dI) x_cl [(h0, .inr (0, [.null, .null, .null, .null, .null, .null, .null, .int 0, .int 0])), (q5, .inr (1, [.ref q8_9])), (q8_9, .inl (c8_9, 512, .inl (fun _ => 0)))] H := hP
  have hD : va_D A [(h0, .inr (0, [.null, .null, .null, .null, .null, .null, .null, .int 0, .int 0])), (q5, .inr (1, [.ref q8_9])), (q8_9, .inl (c8_9, 512, .inl (fun _ => 0)))] := hD
  refine W.widen (k := 2) (n := 513) (by decide) (by decide) ?_
  refine va_putF (D := (dC, dI)) (ci := 0) (v := .ref q5) (ty := .object "DeskMachine$Memory") (C := RX7) (T := TX7) (N := 9) hx hb hts (by decide +kernel) tyX7 tyX7_ok nmX7 hown hK hP hD hS 0 rfl rfl 0 (by decide) (hts (.fieldLink RX7 10 "DeskMachine" "memory" "LDeskMachine$Memory;") (by decide +kernel)) (fun _ h9 => h9) rfl hin rfl (by decide +kernel) rfl rfl (Nat.le_of_ble_eq_true rfl) dX7_init_12 (fun H locs hP hD hS => ?_)
  have hP : va_P (dC, dI) x_cl [(h0, .inr (0, [.ref q5, .null, .null, .null, .null, .null, .null, .int 0, .int 0])), (q5, .inr (1, [.ref q8_9])), (q8_9, .inl (c8_9, 512, .inl (fun _ => 0)))] H := hP
  have hD : va_D A [(h0, .inr (0, [.ref q5, .null, .null, .null, .null, .null, .null, .int 0, .int 0])), (q5, .inr (1, [.ref q8_9])), (q8_9, .inl (c8_9, 512, .inl (fun _ => 0)))] := hD
  refine lv_aload_n hx hb dX7_init_15 rfl (lv_at hl 0 rfl) ?_
  refine va_new (ci := 2) (fs := [.null, .null, .int 0, .int 0, .int 0, .int 0, .int 0, .int 0, .int 0]) (C := RX5) (T := TX5) (N := 9) hx hb hts (by decide +kernel) tyX5 tyX5_ok hown (hts (.classLink RX7 16 RX5) (by decide +kernel)) (hts (.instantiable RX5 9) (by decide +kernel)) (hts (.initialized RX5) (by decide +kernel)) hK hP hD hS hA rfl (by decide +kernel) (Nat.le_of_ble_eq_true rfl) (Nat.le_of_ble_eq_true rfl) dX7_init_16 (fun q16 H hP hD hS => ?_)
  have hP : va_P (dC, dI) x_cl [(h0, .inr (0, [.ref q5, .null, .null, .null, .null, .null, .null, .int 0, .int 0])), (q5, .inr (1, [.ref q8_9])), (q8_9, .inl (c8_9, 512, .inl (fun _ => 0))), (q16, .inr (2, [.null, .null, .int 0, .int 0, .int 0, .int 0, .int 0, .int 0, .int 0]))] H := hP
  have hD : va_D A [(h0, .inr (0, [.ref q5, .null, .null, .null, .null, .null, .null, .int 0, .int 0])), (q5, .inr (1, [.ref q8_9])), (q8_9, .inl (c8_9, 512, .inl (fun _ => 0))), (q16, .inr (2, [.null, .null, .int 0, .int 0, .int 0, .int 0, .int 0, .int 0, .int 0]))] := hD
  refine W.widen (k := 3) (n := 522) (by decide) (by decide) ?_
  refine lv_dup hx hb dX7_init_19 rfl ?_
  refine lv_aload_n hx hb dX7_init_20 rfl (lv_at hl 0 rfl) ?_
  refine va_get (D := (dC, dI)) (ci := 0) (v := .ref q5) (C := RX7) (T := TX7) (N := 9) hx hb hts (by decide +kernel) hown hK hP 0 rfl rfl 0 (by decide) (hts (.fieldLink RX7 10 "DeskMachine" "memory" "LDeskMachine$Memory;") (by decide +kernel)) (fun _ h9 => h9) rfl dX7_init_21 ?_
  have hPc := hP.sub (ws' := [(q16, .inr (2, [.null, .null, .int 0, .int 0, .int 0, .int 0, .int 0, .int 0, .int 0]))]) [3] rfl
  have hDc := hD.sub (ws' := [(q16, .inr (2, [.null, .null, .int 0, .int 0, .int 0, .int 0, .int 0, .int 0, .int 0]))]) [3] (by decide) rfl
  have hKc := hK.sub (tys' := []) [] rfl
  have hFc := va_free (wc := [(q16, .inr (2, [.null, .null, .int 0, .int 0, .int 0, .int 0, .int 0, .int 0, .int 0]))]) hD hS hA [3] rfl
  refine va_callv (va_runI (As := [.ref q5]) (rest := [.ref q16, .ref h0]) ⟨hx, hb, hml, hown, hts⟩ (i_X5 l dC dI q16 H.size q5) (cwI 1 hts gX7_init_X5_init rfl rfl rfl (hts (.initialized RX5) (by decide +kernel)) (hts (.methodLink RX7 18 yX5_init) (by decide +kernel)) (hts (.instanceMethod yX5_init) (by decide +kernel)) rfl (by decide +kernel) ⟨Nat.le_of_ble_eq_true rfl, Nat.le_of_ble_eq_true rfl⟩) ⟨fun a U g mk q => by obtain ⟨q0, q1, qP, qK, qD⟩ := q; exact ⟨q0, q1, qP, va_K.moved (u := U) (U := U.calling g mk a) (Vm.Alike.refl U.vm) qK, qD⟩, fun U hU hW => ⟨rfl, by rw [hU], by rw [hU]; exact hPc, va_K.moved hW.alike hKc, hDc.weaken (fun _ _ _ _ => trivial)⟩⟩ rfl rfl hl.1 rfl (Nat.le_of_ble_eq_true rfl) dX7_init_24 ⟨Nat.le_of_ble_eq_true rfl, Nat.le_of_ble_eq_true rfl⟩) hS (fun q _ h => hFc q h) (fun q h => hFc q h) (fun u t H1 locs1 ht hvm h9 hB hsz1 hk1 hS => ?_)
  obtain ⟨q12_24, c12_24, hP1, hK1, hD1⟩ := hB
  rw [ht] at hP1
  have hK1 := va_K.moved hvm.symm hK1
  obtain ⟨hP, hD⟩ := va_join (wr := [(h0, .inr (0, [.ref q5, .null, .null, .null, .null, .null, .null, .int 0, .int 0])), (q5, .inr (1, [.ref q8_9])), (q8_9, .inl (c8_9, 512, .inl (fun _ => 0)))]) (w1 := [(q16, .inr (2, [.ref q5, .ref q12_24, .int 0, .int 0, .int 0, .int 0, .int 0, .int 0, .int 0])), (q12_24, .inl (c12_24, 8, .inl (fun _ => 0)))]) hP hD [3] [0, 1, 2] rfl rfl (by decide) (by decide) hk1 hFc hP1 hD1
  have hK := (hK.sub (tys' := [(c8_9, .int)]) [0] rfl).app hK1
  have e9 : c12_24 = c8_9 := Option.some.inj ((hK.2 1 _ rfl).2.symm.trans (hK.2 0 _ rfl).2)
  rw [e9] at hK hP hD
  have hK : va_K (dC, dI) x_cl [(c8_9, .int)] s := hK.sub [0] rfl
  generalize H1 = H at hP hS ⊢
  have hP : va_P (dC, dI) x_cl [(h0, .inr (0, [.ref q5, .null, .null, .null, .null, .null, .null, .int 0, .int 0])), (q5, .inr (1, [.ref q8_9])), (q8_9, .inl (c8_9, 512, .inl (fun _ => 0))), (q16, .inr (2, [.ref q5, .ref q12_24, .int 0, .int 0, .int 0, .int 0, .int 0, .int 0, .int 0])), (q12_24, .inl (c8_9, 8, .inl (fun _ => 0)))] H := hP
  have hD : va_D A [(h0, .inr (0, [.ref q5, .null, .null, .null, .null, .null, .null, .int 0, .int 0])), (q5, .inr (1, [.ref q8_9])), (q8_9, .inl (c8_9, 512, .inl (fun _ => 0))), (q16, .inr (2, [.ref q5, .ref q12_24, .int 0, .int 0, .int 0, .int 0, .int 0, .int 0, .int 0])), (q12_24, .inl (c8_9, 8, .inl (fun _ => 0)))] := hD
  refine W.widen (k := 4) (n := 530) (by decide) (by decide) ?_
  refine va_putF (D := (dC, dI)) (ci := 0) (v := .ref q16) (ty := .object "DeskMachine$Processor") (C := RX7) (T := TX7) (N := 9) hx hb hts (by decide +kernel) tyX7 tyX7_ok nmX7 hown hK hP hD hS 0 rfl rfl 1 (by decide) (hts (.fieldLink RX7 21 "DeskMachine" "processor" "LDeskMachine$Processor;") (by decide +kernel)) (fun _ h9 => h9) rfl hin rfl (by decide +kernel) rfl rfl (Nat.le_of_ble_eq_true rfl) dX7_init_27 (fun H locs hP hD hS => ?_)
  have hP : va_P (dC, dI) x_cl [(h0, .inr (0, [.ref q5, .ref q16, .null, .null, .null, .null, .null, .int 0, .int 0])), (q5, .inr (1, [.ref q8_9])), (q8_9, .inl (c8_9, 512, .inl (fun _ => 0))), (q16, .inr (2, [.ref q5, .ref q12_24, .int 0, .int 0, .int 0, .int 0, .int 0, .int 0, .int 0])), (q12_24, .inl (c8_9, 8, .inl (fun _ => 0)))] H := hP
  have hD : va_D A [(h0, .inr (0, [.ref q5, .ref q16, .null, .null, .null, .null, .null, .int 0, .int 0])), (q5, .inr (1, [.ref q8_9])), (q8_9, .inl (c8_9, 512, .inl (fun _ => 0))), (q16, .inr (2, [.ref q5, .ref q12_24, .int 0, .int 0, .int 0, .int 0, .int 0, .int 0, .int 0])), (q12_24, .inl (c8_9, 8, .inl (fun _ => 0)))] := hD
  refine lv_aload_n hx hb dX7_init_30 rfl (lv_at hl 0 rfl) ?_
  refine va_new (ci := 3) (fs := [.null, .null]) (C := RX1) (T := TX1) (N := 2) hx hb hts (by decide +kernel) tyX1 tyX1_ok hown (hts (.classLink RX7 25 RX1) (by decide +kernel)) (hts (.instantiable RX1 2) (by decide +kernel)) (hts (.initialized RX1) (by decide +kernel)) hK hP hD hS hA rfl (by decide +kernel) (Nat.le_of_ble_eq_true rfl) (Nat.le_of_ble_eq_true rfl) dX7_init_31 (fun q31 H hP hD hS => ?_)
  have hP : va_P (dC, dI) x_cl [(h0, .inr (0, [.ref q5, .ref q16, .null, .null, .null, .null, .null, .int 0, .int 0])), (q5, .inr (1, [.ref q8_9])), (q8_9, .inl (c8_9, 512, .inl (fun _ => 0))), (q16, .inr (2, [.ref q5, .ref q12_24, .int 0, .int 0, .int 0, .int 0, .int 0, .int 0, .int 0])), (q12_24, .inl (c8_9, 8, .inl (fun _ => 0))), (q31, .inr (3, [.null, .null]))] H := hP
  have hD : va_D A [(h0, .inr (0, [.ref q5, .ref q16, .null, .null, .null, .null, .null, .int 0, .int 0])), (q5, .inr (1, [.ref q8_9])), (q8_9, .inl (c8_9, 512, .inl (fun _ => 0))), (q16, .inr (2, [.ref q5, .ref q12_24, .int 0, .int 0, .int 0, .int 0, .int 0, .int 0, .int 0])), (q12_24, .inl (c8_9, 8, .inl (fun _ => 0))), (q31, .inr (3, [.null, .null]))] := hD
  refine W.widen (k := 5) (n := 532) (by decide) (by decide) ?_
  refine lv_dup hx hb dX7_init_34 rfl ?_
  have hPc := hP.sub (ws' := [(q31, .inr (3, [.null, .null]))]) [5] rfl
  have hDc := hD.sub (ws' := [(q31, .inr (3, [.null, .null]))]) [5] (by decide) rfl
  have hKc := hK.sub (tys' := []) [] rfl
  have hFc := va_free (wc := [(q31, .inr (3, [.null, .null]))]) hD hS hA [5] rfl
  refine va_callv (va_runI (As := []) (rest := [.ref q31, .ref h0]) ⟨hx, hb, hml, hown, hts⟩ (i_X1 l dC dI q31 H.size) (cwI 0 hts gX7_init_X1_init rfl rfl rfl (hts (.initialized RX1) (by decide +kernel)) (hts (.methodLink RX7 27 yX1_init) (by decide +kernel)) (hts (.instanceMethod yX1_init) (by decide +kernel)) rfl (by decide +kernel) ⟨Nat.le_of_ble_eq_true rfl, Nat.le_of_ble_eq_true rfl⟩) ⟨fun a U g mk q => by obtain ⟨q0, q1, qP, qK, qD⟩ := q; exact ⟨q0, q1, qP, va_K.moved (u := U) (U := U.calling g mk a) (Vm.Alike.refl U.vm) qK, qD⟩, fun U hU hW => ⟨rfl, by rw [hU], by rw [hU]; exact hPc, va_K.moved hW.alike hKc, hDc.weaken (fun _ _ _ _ => trivial)⟩⟩ rfl rfl hl.1 rfl (Nat.le_of_ble_eq_true rfl) dX7_init_35 ⟨Nat.le_of_ble_eq_true rfl, Nat.le_of_ble_eq_true rfl⟩) hS (fun q _ h => hFc q h) (fun q h => hFc q h) (fun u t H1 locs1 ht hvm h9 hB hsz1 hk1 hS => ?_)
  obtain ⟨q8_35, q17_35, c8_35, c17_35, hP1, hK1, hD1⟩ := hB
  rw [ht] at hP1
  have hK1 := va_K.moved hvm.symm hK1
  obtain ⟨hP, hD⟩ := va_join (wr := [(h0, .inr (0, [.ref q5, .ref q16, .null, .null, .null, .null, .null, .int 0, .int 0])), (q5, .inr (1, [.ref q8_9])), (q8_9, .inl (c8_9, 512, .inl (fun _ => 0))), (q16, .inr (2, [.ref q5, .ref q12_24, .int 0, .int 0, .int 0, .int 0, .int 0, .int 0, .int 0])), (q12_24, .inl (c8_9, 8, .inl (fun _ => 0)))]) (w1 := [(q31, .inr (3, [.ref q8_35, .ref q17_35])), (q8_35, .inl (c8_35, 512, .inl (upd (upd (upd (upd (upd (upd (upd (upd (fun _ => 0) 0 229) 16 229) 32 229) 48 229) 64 229) 80 229) 96 229) 112 229))), (q17_35, .inl (c17_35, 256, .inl (fun _ => 0)))]) hP hD [5] [0, 1, 2, 3, 4] rfl rfl (by decide) (by decide) hk1 hFc hP1 hD1
  have hK := (hK.sub (tys' := [(c8_9, .int)]) [0] rfl).app hK1
  have e9 : c8_35 = c8_9 := Option.some.inj ((hK.2 1 _ rfl).2.symm.trans (hK.2 0 _ rfl).2)
  rw [e9] at hK hP hD
  have hK : va_K (dC, dI) x_cl [(c8_9, .int), (c17_35, .boolean)] s := hK.sub [0, 2] rfl
  generalize H1 = H at hP hS ⊢
  have hP : va_P (dC, dI) x_cl [(h0, .inr (0, [.ref q5, .ref q16, .null, .null, .null, .null, .null, .int 0, .int 0])), (q5, .inr (1, [.ref q8_9])), (q8_9, .inl (c8_9, 512, .inl (fun _ => 0))), (q16, .inr (2, [.ref q5, .ref q12_24, .int 0, .int 0, .int 0, .int 0, .int 0, .int 0, .int 0])), (q12_24, .inl (c8_9, 8, .inl (fun _ => 0))), (q31, .inr (3, [.ref q8_35, .ref q17_35])), (q8_35, .inl (c8_9, 512, .inl (upd (upd (upd (upd (upd (upd (upd (upd (fun _ => 0) 0 229) 16 229) 32 229) 48 229) 64 229) 80 229) 96 229) 112 229))), (q17_35, .inl (c17_35, 256, .inl (fun _ => 0)))] H := hP
  have hD : va_D A [(h0, .inr (0, [.ref q5, .ref q16, .null, .null, .null, .null, .null, .int 0, .int 0])), (q5, .inr (1, [.ref q8_9])), (q8_9, .inl (c8_9, 512, .inl (fun _ => 0))), (q16, .inr (2, [.ref q5, .ref q12_24, .int 0, .int 0, .int 0, .int 0, .int 0, .int 0, .int 0])), (q12_24, .inl (c8_9, 8, .inl (fun _ => 0))), (q31, .inr (3, [.ref q8_35, .ref q17_35])), (q8_35, .inl (c8_9, 512, .inl (upd (upd (upd (upd (upd (upd (upd (upd (fun _ => 0) 0 229) 16 229) 32 229) 48 229) 64 229) 80 229) 96 229) 112 229))), (q17_35, .inl (c17_35, 256, .inl (fun _ => 0)))] := hD
  refine W.widen (k := 7) (n := 1300) (by decide) (by decide) ?_
  refine va_putF (D := (dC, dI)) (ci := 0) (v := .ref q31) (ty := .object "DeskMachine$Disk") (C := RX7) (T := TX7) (N := 9) hx hb hts (by decide +kernel) tyX7 tyX7_ok nmX7 hown hK hP hD hS 0 rfl rfl 2 (by decide) (hts (.fieldLink RX7 28 "DeskMachine" "store" "LDeskMachine$Disk;") (by decide +kernel)) (fun _ h9 => h9) rfl hin rfl (by decide +kernel) rfl rfl (Nat.le_of_ble_eq_true rfl) dX7_init_38 (fun H locs hP hD hS => ?_)
  have hP : va_P (dC, dI) x_cl [(h0, .inr (0, [.ref q5, .ref q16, .ref q31, .null, .null, .null, .null, .int 0, .int 0])), (q5, .inr (1, [.ref q8_9])), (q8_9, .inl (c8_9, 512, .inl (fun _ => 0))), (q16, .inr (2, [.ref q5, .ref q12_24, .int 0, .int 0, .int 0, .int 0, .int 0, .int 0, .int 0])), (q12_24, .inl (c8_9, 8, .inl (fun _ => 0))), (q31, .inr (3, [.ref q8_35, .ref q17_35])), (q8_35, .inl (c8_9, 512, .inl (upd (upd (upd (upd (upd (upd (upd (upd (fun _ => 0) 0 229) 16 229) 32 229) 48 229) 64 229) 80 229) 96 229) 112 229))), (q17_35, .inl (c17_35, 256, .inl (fun _ => 0)))] H := hP
  have hD : va_D A [(h0, .inr (0, [.ref q5, .ref q16, .ref q31, .null, .null, .null, .null, .int 0, .int 0])), (q5, .inr (1, [.ref q8_9])), (q8_9, .inl (c8_9, 512, .inl (fun _ => 0))), (q16, .inr (2, [.ref q5, .ref q12_24, .int 0, .int 0, .int 0, .int 0, .int 0, .int 0, .int 0])), (q12_24, .inl (c8_9, 8, .inl (fun _ => 0))), (q31, .inr (3, [.ref q8_35, .ref q17_35])), (q8_35, .inl (c8_9, 512, .inl (upd (upd (upd (upd (upd (upd (upd (upd (fun _ => 0) 0 229) 16 229) 32 229) 48 229) 64 229) 80 229) 96 229) 112 229))), (q17_35, .inl (c17_35, 256, .inl (fun _ => 0)))] := hD
  refine lv_aload_n hx hb dX7_init_41 rfl (lv_at hl 0 rfl) ?_
  refine va_new (ci := 4) (fs := [.null, .int 0, .int 0]) (C := RX3) (T := TX3) (N := 3) hx hb hts (by decide +kernel) tyX3 tyX3_ok hown (hts (.classLink RX7 32 RX3) (by decide +kernel)) (hts (.instantiable RX3 3) (by decide +kernel)) (hts (.initialized RX3) (by decide +kernel)) hK hP hD hS hA rfl (by decide +kernel) (Nat.le_of_ble_eq_true rfl) (Nat.le_of_ble_eq_true rfl) dX7_init_42 (fun q42 H hP hD hS => ?_)
  have hP : va_P (dC, dI) x_cl [(h0, .inr (0, [.ref q5, .ref q16, .ref q31, .null, .null, .null, .null, .int 0, .int 0])), (q5, .inr (1, [.ref q8_9])), (q8_9, .inl (c8_9, 512, .inl (fun _ => 0))), (q16, .inr (2, [.ref q5, .ref q12_24, .int 0, .int 0, .int 0, .int 0, .int 0, .int 0, .int 0])), (q12_24, .inl (c8_9, 8, .inl (fun _ => 0))), (q31, .inr (3, [.ref q8_35, .ref q17_35])), (q8_35, .inl (c8_9, 512, .inl (upd (upd (upd (upd (upd (upd (upd (upd (fun _ => 0) 0 229) 16 229) 32 229) 48 229) 64 229) 80 229) 96 229) 112 229))), (q17_35, .inl (c17_35, 256, .inl (fun _ => 0))), (q42, .inr (4, [.null, .int 0, .int 0]))] H := hP
  have hD : va_D A [(h0, .inr (0, [.ref q5, .ref q16, .ref q31, .null, .null, .null, .null, .int 0, .int 0])), (q5, .inr (1, [.ref q8_9])), (q8_9, .inl (c8_9, 512, .inl (fun _ => 0))), (q16, .inr (2, [.ref q5, .ref q12_24, .int 0, .int 0, .int 0, .int 0, .int 0, .int 0, .int 0])), (q12_24, .inl (c8_9, 8, .inl (fun _ => 0))), (q31, .inr (3, [.ref q8_35, .ref q17_35])), (q8_35, .inl (c8_9, 512, .inl (upd (upd (upd (upd (upd (upd (upd (upd (fun _ => 0) 0 229) 16 229) 32 229) 48 229) 64 229) 80 229) 96 229) 112 229))), (q17_35, .inl (c17_35, 256, .inl (fun _ => 0))), (q42, .inr (4, [.null, .int 0, .int 0]))] := hD
  refine W.widen (k := 8) (n := 1303) (by decide) (by decide) ?_
  refine lv_dup hx hb dX7_init_45 rfl ?_
  have hPc := hP.sub (ws' := [(q42, .inr (4, [.null, .int 0, .int 0]))]) [8] rfl
  have hDc := hD.sub (ws' := [(q42, .inr (4, [.null, .int 0, .int 0]))]) [8] (by decide) rfl
  have hKc := hK.sub (tys' := []) [] rfl
  have hFc := va_free (wc := [(q42, .inr (4, [.null, .int 0, .int 0]))]) hD hS hA [8] rfl
  refine va_callv (va_runI (As := []) (rest := [.ref q42, .ref h0]) ⟨hx, hb, hml, hown, hts⟩ (i_X3 l dC dI q42 H.size) (cwI 0 hts gX7_init_X3_init rfl rfl rfl (hts (.initialized RX3) (by decide +kernel)) (hts (.methodLink RX7 34 yX3_init) (by decide +kernel)) (hts (.instanceMethod yX3_init) (by decide +kernel)) rfl (by decide +kernel) ⟨Nat.le_of_ble_eq_true rfl, Nat.le_of_ble_eq_true rfl⟩) ⟨fun a U g mk q => by obtain ⟨q0, q1, qP, qK, qD⟩ := q; exact ⟨q0, q1, qP, va_K.moved (u := U) (U := U.calling g mk a) (Vm.Alike.refl U.vm) qK, qD⟩, fun U hU hW => ⟨rfl, by rw [hU], by rw [hU]; exact hPc, va_K.moved hW.alike hKc, hDc.weaken (fun _ _ _ _ => trivial)⟩⟩ rfl rfl hl.1 rfl (Nat.le_of_ble_eq_true rfl) dX7_init_46 ⟨Nat.le_of_ble_eq_true rfl, Nat.le_of_ble_eq_true rfl⟩) hS (fun q _ h => hFc q h) (fun q h => hFc q h) (fun u t H1 locs1 ht hvm h9 hB hsz1 hk1 hS => ?_)
  obtain ⟨q7_46, c7_46, hP1, hK1, hD1⟩ := hB
  rw [ht] at hP1
  have hK1 := va_K.moved hvm.symm hK1
  obtain ⟨hP, hD⟩ := va_join (wr := [(h0, .inr (0, [.ref q5, .ref q16, .ref q31, .null, .null, .null, .null, .int 0, .int 0])), (q5, .inr (1, [.ref q8_9])), (q8_9, .inl (c8_9, 512, .inl (fun _ => 0))), (q16, .inr (2, [.ref q5, .ref q12_24, .int 0, .int 0, .int 0, .int 0, .int 0, .int 0, .int 0])), (q12_24, .inl (c8_9, 8, .inl (fun _ => 0))), (q31, .inr (3, [.ref q8_35, .ref q17_35])), (q8_35, .inl (c8_9, 512, .inl (upd (upd (upd (upd (upd (upd (upd (upd (fun _ => 0) 0 229) 16 229) 32 229) 48 229) 64 229) 80 229) 96 229) 112 229))), (q17_35, .inl (c17_35, 256, .inl (fun _ => 0)))]) (w1 := [(q42, .inr (4, [.ref q7_46, .int 0, .int 0])), (q7_46, .inl (c7_46, 40, .inl (fun _ => 0)))]) hP hD [8] [0, 1, 2, 3, 4, 5, 6, 7] rfl rfl (by decide) (by decide) hk1 hFc hP1 hD1
  have hK := (hK.sub (tys' := [(c8_9, .int), (c17_35, .boolean)]) [0, 1] rfl).app hK1
  have e9 : c7_46 = c8_9 := Option.some.inj ((hK.2 2 _ rfl).2.symm.trans (hK.2 0 _ rfl).2)
  rw [e9] at hK hP hD
  have hK : va_K (dC, dI) x_cl [(c8_9, .int), (c17_35, .boolean)] s := hK.sub [0, 1] rfl
  generalize H1 = H at hP hS ⊢
  have hP : va_P (dC, dI) x_cl [(h0, .inr (0, [.ref q5, .ref q16, .ref q31, .null, .null, .null, .null, .int 0, .int 0])), (q5, .inr (1, [.ref q8_9])), (q8_9, .inl (c8_9, 512, .inl (fun _ => 0))), (q16, .inr (2, [.ref q5, .ref q12_24, .int 0, .int 0, .int 0, .int 0, .int 0, .int 0, .int 0])), (q12_24, .inl (c8_9, 8, .inl (fun _ => 0))), (q31, .inr (3, [.ref q8_35, .ref q17_35])), (q8_35, .inl (c8_9, 512, .inl (upd (upd (upd (upd (upd (upd (upd (upd (fun _ => 0) 0 229) 16 229) 32 229) 48 229) 64 229) 80 229) 96 229) 112 229))), (q17_35, .inl (c17_35, 256, .inl (fun _ => 0))), (q42, .inr (4, [.ref q7_46, .int 0, .int 0])), (q7_46, .inl (c8_9, 40, .inl (fun _ => 0)))] H := hP
  have hD : va_D A [(h0, .inr (0, [.ref q5, .ref q16, .ref q31, .null, .null, .null, .null, .int 0, .int 0])), (q5, .inr (1, [.ref q8_9])), (q8_9, .inl (c8_9, 512, .inl (fun _ => 0))), (q16, .inr (2, [.ref q5, .ref q12_24, .int 0, .int 0, .int 0, .int 0, .int 0, .int 0, .int 0])), (q12_24, .inl (c8_9, 8, .inl (fun _ => 0))), (q31, .inr (3, [.ref q8_35, .ref q17_35])), (q8_35, .inl (c8_9, 512, .inl (upd (upd (upd (upd (upd (upd (upd (upd (fun _ => 0) 0 229) 16 229) 32 229) 48 229) 64 229) 80 229) 96 229) 112 229))), (q17_35, .inl (c17_35, 256, .inl (fun _ => 0))), (q42, .inr (4, [.ref q7_46, .int 0, .int 0])), (q7_46, .inl (c8_9, 40, .inl (fun _ => 0)))] := hD
  refine W.widen (k := 9) (n := 1343) (by decide) (by decide) ?_
  refine va_putF (D := (dC, dI)) (ci := 0) (v := .ref q42) (ty := .object "DeskMachine$KeyQueue") (C := RX7) (T := TX7) (N := 9) hx hb hts (by decide +kernel) tyX7 tyX7_ok nmX7 hown hK hP hD hS 0 rfl rfl 3 (by decide) (hts (.fieldLink RX7 35 "DeskMachine" "keys" "LDeskMachine$KeyQueue;") (by decide +kernel)) (fun _ h9 => h9) rfl hin rfl (by decide +kernel) rfl rfl (Nat.le_of_ble_eq_true rfl) dX7_init_49 (fun H locs hP hD hS => ?_)
  have hP : va_P (dC, dI) x_cl [(h0, .inr (0, [.ref q5, .ref q16, .ref q31, .ref q42, .null, .null, .null, .int 0, .int 0])), (q5, .inr (1, [.ref q8_9])), (q8_9, .inl (c8_9, 512, .inl (fun _ => 0))), (q16, .inr (2, [.ref q5, .ref q12_24, .int 0, .int 0, .int 0, .int 0, .int 0, .int 0, .int 0])), (q12_24, .inl (c8_9, 8, .inl (fun _ => 0))), (q31, .inr (3, [.ref q8_35, .ref q17_35])), (q8_35, .inl (c8_9, 512, .inl (upd (upd (upd (upd (upd (upd (upd (upd (fun _ => 0) 0 229) 16 229) 32 229) 48 229) 64 229) 80 229) 96 229) 112 229))), (q17_35, .inl (c17_35, 256, .inl (fun _ => 0))), (q42, .inr (4, [.ref q7_46, .int 0, .int 0])), (q7_46, .inl (c8_9, 40, .inl (fun _ => 0)))] H := hP
  have hD : va_D A [(h0, .inr (0, [.ref q5, .ref q16, .ref q31, .ref q42, .null, .null, .null, .int 0, .int 0])), (q5, .inr (1, [.ref q8_9])), (q8_9, .inl (c8_9, 512, .inl (fun _ => 0))), (q16, .inr (2, [.ref q5, .ref q12_24, .int 0, .int 0, .int 0, .int 0, .int 0, .int 0, .int 0])), (q12_24, .inl (c8_9, 8, .inl (fun _ => 0))), (q31, .inr (3, [.ref q8_35, .ref q17_35])), (q8_35, .inl (c8_9, 512, .inl (upd (upd (upd (upd (upd (upd (upd (upd (fun _ => 0) 0 229) 16 229) 32 229) 48 229) 64 229) 80 229) 96 229) 112 229))), (q17_35, .inl (c17_35, 256, .inl (fun _ => 0))), (q42, .inr (4, [.ref q7_46, .int 0, .int 0])), (q7_46, .inl (c8_9, 40, .inl (fun _ => 0)))] := hD
  refine lv_aload_n hx hb dX7_init_52 rfl (lv_at hl 0 rfl) ?_
  refine va_new (ci := 5) (fs := [.null, .int 0]) (C := RX6) (T := TX6) (N := 2) hx hb hts (by decide +kernel) tyX6 tyX6_ok hown (hts (.classLink RX7 39 RX6) (by decide +kernel)) (hts (.instantiable RX6 2) (by decide +kernel)) (hts (.initialized RX6) (by decide +kernel)) hK hP hD hS hA rfl (by decide +kernel) (Nat.le_of_ble_eq_true rfl) (Nat.le_of_ble_eq_true rfl) dX7_init_53 (fun q53 H hP hD hS => ?_)
  have hP : va_P (dC, dI) x_cl [(h0, .inr (0, [.ref q5, .ref q16, .ref q31, .ref q42, .null, .null, .null, .int 0, .int 0])), (q5, .inr (1, [.ref q8_9])), (q8_9, .inl (c8_9, 512, .inl (fun _ => 0))), (q16, .inr (2, [.ref q5, .ref q12_24, .int 0, .int 0, .int 0, .int 0, .int 0, .int 0, .int 0])), (q12_24, .inl (c8_9, 8, .inl (fun _ => 0))), (q31, .inr (3, [.ref q8_35, .ref q17_35])), (q8_35, .inl (c8_9, 512, .inl (upd (upd (upd (upd (upd (upd (upd (upd (fun _ => 0) 0 229) 16 229) 32 229) 48 229) 64 229) 80 229) 96 229) 112 229))), (q17_35, .inl (c17_35, 256, .inl (fun _ => 0))), (q42, .inr (4, [.ref q7_46, .int 0, .int 0])), (q7_46, .inl (c8_9, 40, .inl (fun _ => 0))), (q53, .inr (5, [.null, .int 0]))] H := hP
  have hD : va_D A [(h0, .inr (0, [.ref q5, .ref q16, .ref q31, .ref q42, .null, .null, .null, .int 0, .int 0])), (q5, .inr (1, [.ref q8_9])), (q8_9, .inl (c8_9, 512, .inl (fun _ => 0))), (q16, .inr (2, [.ref q5, .ref q12_24, .int 0, .int 0, .int 0, .int 0, .int 0, .int 0, .int 0])), (q12_24, .inl (c8_9, 8, .inl (fun _ => 0))), (q31, .inr (3, [.ref q8_35, .ref q17_35])), (q8_35, .inl (c8_9, 512, .inl (upd (upd (upd (upd (upd (upd (upd (upd (fun _ => 0) 0 229) 16 229) 32 229) 48 229) 64 229) 80 229) 96 229) 112 229))), (q17_35, .inl (c17_35, 256, .inl (fun _ => 0))), (q42, .inr (4, [.ref q7_46, .int 0, .int 0])), (q7_46, .inl (c8_9, 40, .inl (fun _ => 0))), (q53, .inr (5, [.null, .int 0]))] := hD
  refine W.widen (k := 10) (n := 1345) (by decide) (by decide) ?_
  refine lv_dup hx hb dX7_init_56 rfl ?_
  have hPc := hP.sub (ws' := [(q53, .inr (5, [.null, .int 0]))]) [10] rfl
  have hDc := hD.sub (ws' := [(q53, .inr (5, [.null, .int 0]))]) [10] (by decide) rfl
  have hKc := hK.sub (tys' := []) [] rfl
  have hFc := va_free (wc := [(q53, .inr (5, [.null, .int 0]))]) hD hS hA [10] rfl
  refine va_callv (va_runI (As := []) (rest := [.ref q53, .ref h0]) ⟨hx, hb, hml, hown, hts⟩ (i_X6 l dC dI q53 H.size) (cwI 0 hts gX7_init_X6_init rfl rfl rfl (hts (.initialized RX6) (by decide +kernel)) (hts (.methodLink RX7 41 yX6_init) (by decide +kernel)) (hts (.instanceMethod yX6_init) (by decide +kernel)) rfl (by decide +kernel) ⟨Nat.le_of_ble_eq_true rfl, Nat.le_of_ble_eq_true rfl⟩) ⟨fun a U g mk q => by obtain ⟨q0, q1, qP, qK, qD⟩ := q; exact ⟨q0, q1, qP, va_K.moved (u := U) (U := U.calling g mk a) (Vm.Alike.refl U.vm) qK, qD⟩, fun U hU hW => ⟨rfl, by rw [hU], by rw [hU]; exact hPc, va_K.moved hW.alike hKc, hDc.weaken (fun _ _ _ _ => trivial)⟩⟩ rfl rfl hl.1 rfl (Nat.le_of_ble_eq_true rfl) dX7_init_57 ⟨Nat.le_of_ble_eq_true rfl, Nat.le_of_ble_eq_true rfl⟩) hS (fun q _ h => hFc q h) (fun q h => hFc q h) (fun u t H1 locs1 ht hvm h9 hB hsz1 hk1 hS => ?_)
  obtain ⟨q7_57, c7_57, hP1, hK1, hD1⟩ := hB
  rw [ht] at hP1
  have hK1 := va_K.moved hvm.symm hK1
  obtain ⟨hP, hD⟩ := va_join (wr := [(h0, .inr (0, [.ref q5, .ref q16, .ref q31, .ref q42, .null, .null, .null, .int 0, .int 0])), (q5, .inr (1, [.ref q8_9])), (q8_9, .inl (c8_9, 512, .inl (fun _ => 0))), (q16, .inr (2, [.ref q5, .ref q12_24, .int 0, .int 0, .int 0, .int 0, .int 0, .int 0, .int 0])), (q12_24, .inl (c8_9, 8, .inl (fun _ => 0))), (q31, .inr (3, [.ref q8_35, .ref q17_35])), (q8_35, .inl (c8_9, 512, .inl (upd (upd (upd (upd (upd (upd (upd (upd (fun _ => 0) 0 229) 16 229) 32 229) 48 229) 64 229) 80 229) 96 229) 112 229))), (q17_35, .inl (c17_35, 256, .inl (fun _ => 0))), (q42, .inr (4, [.ref q7_46, .int 0, .int 0])), (q7_46, .inl (c8_9, 40, .inl (fun _ => 0)))]) (w1 := [(q53, .inr (5, [.ref q7_57, .int 0])), (q7_57, .inl (c7_57, 64, .inl (fun _ => 0)))]) hP hD [10] [0, 1, 2, 3, 4, 5, 6, 7, 8, 9] rfl rfl (by decide) (by decide) hk1 hFc hP1 hD1
  have hK := (hK.sub (tys' := [(c8_9, .int), (c17_35, .boolean)]) [0, 1] rfl).app hK1
  have e9 : c7_57 = c8_9 := Option.some.inj ((hK.2 2 _ rfl).2.symm.trans (hK.2 0 _ rfl).2)
  rw [e9] at hK hP hD
  have hK : va_K (dC, dI) x_cl [(c8_9, .int), (c17_35, .boolean)] s := hK.sub [0, 1] rfl
  generalize H1 = H at hP hS ⊢
  have hP : va_P (dC, dI) x_cl [(h0, .inr (0, [.ref q5, .ref q16, .ref q31, .ref q42, .null, .null, .null, .int 0, .int 0])), (q5, .inr (1, [.ref q8_9])), (q8_9, .inl (c8_9, 512, .inl (fun _ => 0))), (q16, .inr (2, [.ref q5, .ref q12_24, .int 0, .int 0, .int 0, .int 0, .int 0, .int 0, .int 0])), (q12_24, .inl (c8_9, 8, .inl (fun _ => 0))), (q31, .inr (3, [.ref q8_35, .ref q17_35])), (q8_35, .inl (c8_9, 512, .inl (upd (upd (upd (upd (upd (upd (upd (upd (fun _ => 0) 0 229) 16 229) 32 229) 48 229) 64 229) 80 229) 96 229) 112 229))), (q17_35, .inl (c17_35, 256, .inl (fun _ => 0))), (q42, .inr (4, [.ref q7_46, .int 0, .int 0])), (q7_46, .inl (c8_9, 40, .inl (fun _ => 0))), (q53, .inr (5, [.ref q7_57, .int 0])), (q7_57, .inl (c8_9, 64, .inl (fun _ => 0)))] H := hP
  have hD : va_D A [(h0, .inr (0, [.ref q5, .ref q16, .ref q31, .ref q42, .null, .null, .null, .int 0, .int 0])), (q5, .inr (1, [.ref q8_9])), (q8_9, .inl (c8_9, 512, .inl (fun _ => 0))), (q16, .inr (2, [.ref q5, .ref q12_24, .int 0, .int 0, .int 0, .int 0, .int 0, .int 0, .int 0])), (q12_24, .inl (c8_9, 8, .inl (fun _ => 0))), (q31, .inr (3, [.ref q8_35, .ref q17_35])), (q8_35, .inl (c8_9, 512, .inl (upd (upd (upd (upd (upd (upd (upd (upd (fun _ => 0) 0 229) 16 229) 32 229) 48 229) 64 229) 80 229) 96 229) 112 229))), (q17_35, .inl (c17_35, 256, .inl (fun _ => 0))), (q42, .inr (4, [.ref q7_46, .int 0, .int 0])), (q7_46, .inl (c8_9, 40, .inl (fun _ => 0))), (q53, .inr (5, [.ref q7_57, .int 0])), (q7_57, .inl (c8_9, 64, .inl (fun _ => 0)))] := hD
  refine W.widen (k := 11) (n := 1409) (by decide) (by decide) ?_
  refine va_putF (D := (dC, dI)) (ci := 0) (v := .ref q53) (ty := .object "DeskMachine$Screen") (C := RX7) (T := TX7) (N := 9) hx hb hts (by decide +kernel) tyX7 tyX7_ok nmX7 hown hK hP hD hS 0 rfl rfl 4 (by decide) (hts (.fieldLink RX7 42 "DeskMachine" "screen" "LDeskMachine$Screen;") (by decide +kernel)) (fun _ h9 => h9) rfl hin rfl (by decide +kernel) rfl rfl (Nat.le_of_ble_eq_true rfl) dX7_init_60 (fun H locs hP hD hS => ?_)
  have hP : va_P (dC, dI) x_cl [(h0, .inr (0, [.ref q5, .ref q16, .ref q31, .ref q42, .ref q53, .null, .null, .int 0, .int 0])), (q5, .inr (1, [.ref q8_9])), (q8_9, .inl (c8_9, 512, .inl (fun _ => 0))), (q16, .inr (2, [.ref q5, .ref q12_24, .int 0, .int 0, .int 0, .int 0, .int 0, .int 0, .int 0])), (q12_24, .inl (c8_9, 8, .inl (fun _ => 0))), (q31, .inr (3, [.ref q8_35, .ref q17_35])), (q8_35, .inl (c8_9, 512, .inl (upd (upd (upd (upd (upd (upd (upd (upd (fun _ => 0) 0 229) 16 229) 32 229) 48 229) 64 229) 80 229) 96 229) 112 229))), (q17_35, .inl (c17_35, 256, .inl (fun _ => 0))), (q42, .inr (4, [.ref q7_46, .int 0, .int 0])), (q7_46, .inl (c8_9, 40, .inl (fun _ => 0))), (q53, .inr (5, [.ref q7_57, .int 0])), (q7_57, .inl (c8_9, 64, .inl (fun _ => 0)))] H := hP
  have hD : va_D A [(h0, .inr (0, [.ref q5, .ref q16, .ref q31, .ref q42, .ref q53, .null, .null, .int 0, .int 0])), (q5, .inr (1, [.ref q8_9])), (q8_9, .inl (c8_9, 512, .inl (fun _ => 0))), (q16, .inr (2, [.ref q5, .ref q12_24, .int 0, .int 0, .int 0, .int 0, .int 0, .int 0, .int 0])), (q12_24, .inl (c8_9, 8, .inl (fun _ => 0))), (q31, .inr (3, [.ref q8_35, .ref q17_35])), (q8_35, .inl (c8_9, 512, .inl (upd (upd (upd (upd (upd (upd (upd (upd (fun _ => 0) 0 229) 16 229) 32 229) 48 229) 64 229) 80 229) 96 229) 112 229))), (q17_35, .inl (c17_35, 256, .inl (fun _ => 0))), (q42, .inr (4, [.ref q7_46, .int 0, .int 0])), (q7_46, .inl (c8_9, 40, .inl (fun _ => 0))), (q53, .inr (5, [.ref q7_57, .int 0])), (q7_57, .inl (c8_9, 64, .inl (fun _ => 0)))] := hD
  refine lv_aload_n hx hb dX7_init_63 rfl (lv_at hl 0 rfl) ?_
  refine va_new (ci := 6) (fs := [.null, .null, .null, .int 0, .int 0]) (C := RX2) (T := TX2) (N := 5) hx hb hts (by decide +kernel) tyX2 tyX2_ok hown (hts (.classLink RX7 46 RX2) (by decide +kernel)) (hts (.instantiable RX2 5) (by decide +kernel)) (hts (.initialized RX2) (by decide +kernel)) hK hP hD hS hA rfl (by decide +kernel) (Nat.le_of_ble_eq_true rfl) (Nat.le_of_ble_eq_true rfl) dX7_init_64 (fun q64 H hP hD hS => ?_)
  have hP : va_P (dC, dI) x_cl [(h0, .inr (0, [.ref q5, .ref q16, .ref q31, .ref q42, .ref q53, .null, .null, .int 0, .int 0])), (q5, .inr (1, [.ref q8_9])), (q8_9, .inl (c8_9, 512, .inl (fun _ => 0))), (q16, .inr (2, [.ref q5, .ref q12_24, .int 0, .int 0, .int 0, .int 0, .int 0, .int 0, .int 0])), (q12_24, .inl (c8_9, 8, .inl (fun _ => 0))), (q31, .inr (3, [.ref q8_35, .ref q17_35])), (q8_35, .inl (c8_9, 512, .inl (upd (upd (upd (upd (upd (upd (upd (upd (fun _ => 0) 0 229) 16 229) 32 229) 48 229) 64 229) 80 229) 96 229) 112 229))), (q17_35, .inl (c17_35, 256, .inl (fun _ => 0))), (q42, .inr (4, [.ref q7_46, .int 0, .int 0])), (q7_46, .inl (c8_9, 40, .inl (fun _ => 0))), (q53, .inr (5, [.ref q7_57, .int 0])), (q7_57, .inl (c8_9, 64, .inl (fun _ => 0))), (q64, .inr (6, [.null, .null, .null, .int 0, .int 0]))] H := hP
  have hD : va_D A [(h0, .inr (0, [.ref q5, .ref q16, .ref q31, .ref q42, .ref q53, .null, .null, .int 0, .int 0])), (q5, .inr (1, [.ref q8_9])), (q8_9, .inl (c8_9, 512, .inl (fun _ => 0))), (q16, .inr (2, [.ref q5, .ref q12_24, .int 0, .int 0, .int 0, .int 0, .int 0, .int 0, .int 0])), (q12_24, .inl (c8_9, 8, .inl (fun _ => 0))), (q31, .inr (3, [.ref q8_35, .ref q17_35])), (q8_35, .inl (c8_9, 512, .inl (upd (upd (upd (upd (upd (upd (upd (upd (fun _ => 0) 0 229) 16 229) 32 229) 48 229) 64 229) 80 229) 96 229) 112 229))), (q17_35, .inl (c17_35, 256, .inl (fun _ => 0))), (q42, .inr (4, [.ref q7_46, .int 0, .int 0])), (q7_46, .inl (c8_9, 40, .inl (fun _ => 0))), (q53, .inr (5, [.ref q7_57, .int 0])), (q7_57, .inl (c8_9, 64, .inl (fun _ => 0))), (q64, .inr (6, [.null, .null, .null, .int 0, .int 0]))] := hD
  refine W.widen (k := 12) (n := 1414) (by decide) (by decide) ?_
  refine lv_dup hx hb dX7_init_67 rfl ?_
  refine lv_aload_n hx hb dX7_init_68 rfl (lv_at hl 0 rfl) ?_
  refine va_get (D := (dC, dI)) (ci := 0) (v := .ref q5) (C := RX7) (T := TX7) (N := 9) hx hb hts (by decide +kernel) hown hK hP 0 rfl rfl 0 (by decide) (hts (.fieldLink RX7 10 "DeskMachine" "memory" "LDeskMachine$Memory;") (by decide +kernel)) (fun _ h9 => h9) rfl dX7_init_69 ?_
  refine lv_aload_n hx hb dX7_init_72 rfl (lv_at hl 0 rfl) ?_
  refine va_get (D := (dC, dI)) (ci := 0) (v := .ref q31) (C := RX7) (T := TX7) (N := 9) hx hb hts (by decide +kernel) hown hK hP 0 rfl rfl 2 (by decide) (hts (.fieldLink RX7 28 "DeskMachine" "store" "LDeskMachine$Disk;") (by decide +kernel)) (fun _ h9 => h9) rfl dX7_init_73 ?_
  have hPc := hP.sub (ws' := [(q64, .inr (6, [.null, .null, .null, .int 0, .int 0]))]) [12] rfl
  have hDc := hD.sub (ws' := [(q64, .inr (6, [.null, .null, .null, .int 0, .int 0]))]) [12] (by decide) rfl
  have hKc := hK.sub (tys' := []) [] rfl
  have hFc := va_free (wc := [(q64, .inr (6, [.null, .null, .null, .int 0, .int 0]))]) hD hS hA [12] rfl
  refine va_callv (va_runI (As := [.ref q5, .ref q31]) (rest := [.ref q64, .ref h0]) ⟨hx, hb, hml, hown, hts⟩ (i_X2 l dC dI q64 H.size q5 q31) (cwI 2 hts gX7_init_X2_init rfl rfl rfl (hts (.initialized RX2) (by decide +kernel)) (hts (.methodLink RX7 48 yX2_init) (by decide +kernel)) (hts (.instanceMethod yX2_init) (by decide +kernel)) rfl (by decide +kernel) ⟨Nat.le_of_ble_eq_true rfl, Nat.le_of_ble_eq_true rfl⟩) ⟨fun a U g mk q => by obtain ⟨q0, q1, qP, qK, qD⟩ := q; exact ⟨q0, q1, qP, va_K.moved (u := U) (U := U.calling g mk a) (Vm.Alike.refl U.vm) qK, qD⟩, fun U hU hW => ⟨rfl, by rw [hU], by rw [hU]; exact hPc, va_K.moved hW.alike hKc, hDc.weaken (fun _ _ _ _ => trivial)⟩⟩ rfl rfl hl.1 rfl (Nat.le_of_ble_eq_true rfl) dX7_init_76 ⟨Nat.le_of_ble_eq_true rfl, Nat.le_of_ble_eq_true rfl⟩) hS (fun q _ h => hFc q h) (fun q h => hFc q h) (fun u t H1 locs1 ht hvm h9 hB hsz1 hk1 hS => ?_)
  obtain ⟨q16_76, c16_76, hP1, hK1, hD1⟩ := hB
  rw [ht] at hP1
  have hK1 := va_K.moved hvm.symm hK1
  obtain ⟨hP, hD⟩ := va_join (wr := [(h0, .inr (0, [.ref q5, .ref q16, .ref q31, .ref q42, .ref q53, .null, .null, .int 0, .int 0])), (q5, .inr (1, [.ref q8_9])), (q8_9, .inl (c8_9, 512, .inl (fun _ => 0))), (q16, .inr (2, [.ref q5, .ref q12_24, .int 0, .int 0, .int 0, .int 0, .int 0, .int 0, .int 0])), (q12_24, .inl (c8_9, 8, .inl (fun _ => 0))), (q31, .inr (3, [.ref q8_35, .ref q17_35])), (q8_35, .inl (c8_9, 512, .inl (upd (upd (upd (upd (upd (upd (upd (upd (fun _ => 0) 0 229) 16 229) 32 229) 48 229) 64 229) 80 229) 96 229) 112 229))), (q17_35, .inl (c17_35, 256, .inl (fun _ => 0))), (q42, .inr (4, [.ref q7_46, .int 0, .int 0])), (q7_46, .inl (c8_9, 40, .inl (fun _ => 0))), (q53, .inr (5, [.ref q7_57, .int 0])), (q7_57, .inl (c8_9, 64, .inl (fun _ => 0)))]) (w1 := [(q64, .inr (6, [.ref q5, .ref q31, .ref q16_76, .int 128, .int 0])), (q16_76, .inl (c16_76, 4, .inl (fun _ => 0)))]) hP hD [12] [0, 1, 2, 3, 4, 5, 6, 7, 8, 9, 10, 11] rfl rfl (by decide) (by decide) hk1 hFc hP1 hD1
  have hK := (hK.sub (tys' := [(c8_9, .int), (c17_35, .boolean)]) [0, 1] rfl).app hK1
  have e9 : c16_76 = c8_9 := Option.some.inj ((hK.2 2 _ rfl).2.symm.trans (hK.2 0 _ rfl).2)
  rw [e9] at hK hP hD
  have hK : va_K (dC, dI) x_cl [(c8_9, .int), (c17_35, .boolean)] s := hK.sub [0, 1] rfl
  generalize H1 = H at hP hS ⊢
  have hP : va_P (dC, dI) x_cl [(h0, .inr (0, [.ref q5, .ref q16, .ref q31, .ref q42, .ref q53, .null, .null, .int 0, .int 0])), (q5, .inr (1, [.ref q8_9])), (q8_9, .inl (c8_9, 512, .inl (fun _ => 0))), (q16, .inr (2, [.ref q5, .ref q12_24, .int 0, .int 0, .int 0, .int 0, .int 0, .int 0, .int 0])), (q12_24, .inl (c8_9, 8, .inl (fun _ => 0))), (q31, .inr (3, [.ref q8_35, .ref q17_35])), (q8_35, .inl (c8_9, 512, .inl (upd (upd (upd (upd (upd (upd (upd (upd (fun _ => 0) 0 229) 16 229) 32 229) 48 229) 64 229) 80 229) 96 229) 112 229))), (q17_35, .inl (c17_35, 256, .inl (fun _ => 0))), (q42, .inr (4, [.ref q7_46, .int 0, .int 0])), (q7_46, .inl (c8_9, 40, .inl (fun _ => 0))), (q53, .inr (5, [.ref q7_57, .int 0])), (q7_57, .inl (c8_9, 64, .inl (fun _ => 0))), (q64, .inr (6, [.ref q5, .ref q31, .ref q16_76, .int 128, .int 0])), (q16_76, .inl (c8_9, 4, .inl (fun _ => 0)))] H := hP
  have hD : va_D A [(h0, .inr (0, [.ref q5, .ref q16, .ref q31, .ref q42, .ref q53, .null, .null, .int 0, .int 0])), (q5, .inr (1, [.ref q8_9])), (q8_9, .inl (c8_9, 512, .inl (fun _ => 0))), (q16, .inr (2, [.ref q5, .ref q12_24, .int 0, .int 0, .int 0, .int 0, .int 0, .int 0, .int 0])), (q12_24, .inl (c8_9, 8, .inl (fun _ => 0))), (q31, .inr (3, [.ref q8_35, .ref q17_35])), (q8_35, .inl (c8_9, 512, .inl (upd (upd (upd (upd (upd (upd (upd (upd (fun _ => 0) 0 229) 16 229) 32 229) 48 229) 64 229) 80 229) 96 229) 112 229))), (q17_35, .inl (c17_35, 256, .inl (fun _ => 0))), (q42, .inr (4, [.ref q7_46, .int 0, .int 0])), (q7_46, .inl (c8_9, 40, .inl (fun _ => 0))), (q53, .inr (5, [.ref q7_57, .int 0])), (q7_57, .inl (c8_9, 64, .inl (fun _ => 0))), (q64, .inr (6, [.ref q5, .ref q31, .ref q16_76, .int 128, .int 0])), (q16_76, .inl (c8_9, 4, .inl (fun _ => 0)))] := hD
  refine W.widen (k := 13) (n := 1418) (by decide) (by decide) ?_
  refine va_putF (D := (dC, dI)) (ci := 0) (v := .ref q64) (ty := .object "DeskMachine$FileCalls") (C := RX7) (T := TX7) (N := 9) hx hb hts (by decide +kernel) tyX7 tyX7_ok nmX7 hown hK hP hD hS 0 rfl rfl 5 (by decide) (hts (.fieldLink RX7 51 "DeskMachine" "files" "LDeskMachine$FileCalls;") (by decide +kernel)) (fun _ h9 => h9) rfl hin rfl (by decide +kernel) rfl rfl (Nat.le_of_ble_eq_true rfl) dX7_init_79 (fun H locs hP hD hS => ?_)
  have hP : va_P (dC, dI) x_cl [(h0, .inr (0, [.ref q5, .ref q16, .ref q31, .ref q42, .ref q53, .ref q64, .null, .int 0, .int 0])), (q5, .inr (1, [.ref q8_9])), (q8_9, .inl (c8_9, 512, .inl (fun _ => 0))), (q16, .inr (2, [.ref q5, .ref q12_24, .int 0, .int 0, .int 0, .int 0, .int 0, .int 0, .int 0])), (q12_24, .inl (c8_9, 8, .inl (fun _ => 0))), (q31, .inr (3, [.ref q8_35, .ref q17_35])), (q8_35, .inl (c8_9, 512, .inl (upd (upd (upd (upd (upd (upd (upd (upd (fun _ => 0) 0 229) 16 229) 32 229) 48 229) 64 229) 80 229) 96 229) 112 229))), (q17_35, .inl (c17_35, 256, .inl (fun _ => 0))), (q42, .inr (4, [.ref q7_46, .int 0, .int 0])), (q7_46, .inl (c8_9, 40, .inl (fun _ => 0))), (q53, .inr (5, [.ref q7_57, .int 0])), (q7_57, .inl (c8_9, 64, .inl (fun _ => 0))), (q64, .inr (6, [.ref q5, .ref q31, .ref q16_76, .int 128, .int 0])), (q16_76, .inl (c8_9, 4, .inl (fun _ => 0)))] H := hP
  have hD : va_D A [(h0, .inr (0, [.ref q5, .ref q16, .ref q31, .ref q42, .ref q53, .ref q64, .null, .int 0, .int 0])), (q5, .inr (1, [.ref q8_9])), (q8_9, .inl (c8_9, 512, .inl (fun _ => 0))), (q16, .inr (2, [.ref q5, .ref q12_24, .int 0, .int 0, .int 0, .int 0, .int 0, .int 0, .int 0])), (q12_24, .inl (c8_9, 8, .inl (fun _ => 0))), (q31, .inr (3, [.ref q8_35, .ref q17_35])), (q8_35, .inl (c8_9, 512, .inl (upd (upd (upd (upd (upd (upd (upd (upd (fun _ => 0) 0 229) 16 229) 32 229) 48 229) 64 229) 80 229) 96 229) 112 229))), (q17_35, .inl (c17_35, 256, .inl (fun _ => 0))), (q42, .inr (4, [.ref q7_46, .int 0, .int 0])), (q7_46, .inl (c8_9, 40, .inl (fun _ => 0))), (q53, .inr (5, [.ref q7_57, .int 0])), (q7_57, .inl (c8_9, 64, .inl (fun _ => 0))), (q64, .inr (6, [.ref q5, .ref q31, .ref q16_76, .int 128, .int 0])), (q16_76, .inl (c8_9, 4, .inl (fun _ => 0)))] := hD
  refine lv_aload_n hx hb dX7_init_82 rfl (lv_at hl 0 rfl) ?_
  refine va_new (ci := 7) (fs := [.null, .null, .null, .null, .null, .null, .null, .int 0, .int 0]) (C := RX0) (T := TX0) (N := 9) hx hb hts (by decide +kernel) tyX0 tyX0_ok hown (hts (.classLink RX7 55 RX0) (by decide +kernel)) (hts (.instantiable RX0 9) (by decide +kernel)) (hts (.initialized RX0) (by decide +kernel)) hK hP hD hS hA rfl (by decide +kernel) (Nat.le_of_ble_eq_true rfl) (Nat.le_of_ble_eq_true rfl) dX7_init_83 (fun q83 H hP hD hS => ?_)
  have hP : va_P (dC, dI) x_cl [(h0, .inr (0, [.ref q5, .ref q16, .ref q31, .ref q42, .ref q53, .ref q64, .null, .int 0, .int 0])), (q5, .inr (1, [.ref q8_9])), (q8_9, .inl (c8_9, 512, .inl (fun _ => 0))), (q16, .inr (2, [.ref q5, .ref q12_24, .int 0, .int 0, .int 0, .int 0, .int 0, .int 0, .int 0])), (q12_24, .inl (c8_9, 8, .inl (fun _ => 0))), (q31, .inr (3, [.ref q8_35, .ref q17_35])), (q8_35, .inl (c8_9, 512, .inl (upd (upd (upd (upd (upd (upd (upd (upd (fun _ => 0) 0 229) 16 229) 32 229) 48 229) 64 229) 80 229) 96 229) 112 229))), (q17_35, .inl (c17_35, 256, .inl (fun _ => 0))), (q42, .inr (4, [.ref q7_46, .int 0, .int 0])), (q7_46, .inl (c8_9, 40, .inl (fun _ => 0))), (q53, .inr (5, [.ref q7_57, .int 0])), (q7_57, .inl (c8_9, 64, .inl (fun _ => 0))), (q64, .inr (6, [.ref q5, .ref q31, .ref q16_76, .int 128, .int 0])), (q16_76, .inl (c8_9, 4, .inl (fun _ => 0))), (q83, .inr (7, [.null, .null, .null, .null, .null, .null, .null, .int 0, .int 0]))] H := hP
  have hD : va_D A [(h0, .inr (0, [.ref q5, .ref q16, .ref q31, .ref q42, .ref q53, .ref q64, .null, .int 0, .int 0])), (q5, .inr (1, [.ref q8_9])), (q8_9, .inl (c8_9, 512, .inl (fun _ => 0))), (q16, .inr (2, [.ref q5, .ref q12_24, .int 0, .int 0, .int 0, .int 0, .int 0, .int 0, .int 0])), (q12_24, .inl (c8_9, 8, .inl (fun _ => 0))), (q31, .inr (3, [.ref q8_35, .ref q17_35])), (q8_35, .inl (c8_9, 512, .inl (upd (upd (upd (upd (upd (upd (upd (upd (fun _ => 0) 0 229) 16 229) 32 229) 48 229) 64 229) 80 229) 96 229) 112 229))), (q17_35, .inl (c17_35, 256, .inl (fun _ => 0))), (q42, .inr (4, [.ref q7_46, .int 0, .int 0])), (q7_46, .inl (c8_9, 40, .inl (fun _ => 0))), (q53, .inr (5, [.ref q7_57, .int 0])), (q7_57, .inl (c8_9, 64, .inl (fun _ => 0))), (q64, .inr (6, [.ref q5, .ref q31, .ref q16_76, .int 128, .int 0])), (q16_76, .inl (c8_9, 4, .inl (fun _ => 0))), (q83, .inr (7, [.null, .null, .null, .null, .null, .null, .null, .int 0, .int 0]))] := hD
  refine W.widen (k := 14) (n := 1427) (by decide) (by decide) ?_
  refine lv_dup hx hb dX7_init_86 rfl ?_
  refine lv_aload_n hx hb dX7_init_87 rfl (lv_at hl 0 rfl) ?_
  refine va_get (D := (dC, dI)) (ci := 0) (v := .ref q5) (C := RX7) (T := TX7) (N := 9) hx hb hts (by decide +kernel) hown hK hP 0 rfl rfl 0 (by decide) (hts (.fieldLink RX7 10 "DeskMachine" "memory" "LDeskMachine$Memory;") (by decide +kernel)) (fun _ h9 => h9) rfl dX7_init_88 ?_
  refine lv_aload_n hx hb dX7_init_91 rfl (lv_at hl 0 rfl) ?_
  refine va_get (D := (dC, dI)) (ci := 0) (v := .ref q31) (C := RX7) (T := TX7) (N := 9) hx hb hts (by decide +kernel) hown hK hP 0 rfl rfl 2 (by decide) (hts (.fieldLink RX7 28 "DeskMachine" "store" "LDeskMachine$Disk;") (by decide +kernel)) (fun _ h9 => h9) rfl dX7_init_92 ?_
  refine lv_aload_n hx hb dX7_init_95 rfl (lv_at hl 0 rfl) ?_
  refine va_get (D := (dC, dI)) (ci := 0) (v := .ref q53) (C := RX7) (T := TX7) (N := 9) hx hb hts (by decide +kernel) hown hK hP 0 rfl rfl 4 (by decide) (hts (.fieldLink RX7 42 "DeskMachine" "screen" "LDeskMachine$Screen;") (by decide +kernel)) (fun _ h9 => h9) rfl dX7_init_96 ?_
  have hPc := hP.sub (ws' := [(q83, .inr (7, [.null, .null, .null, .null, .null, .null, .null, .int 0, .int 0]))]) [14] rfl
  have hDc := hD.sub (ws' := [(q83, .inr (7, [.null, .null, .null, .null, .null, .null, .null, .int 0, .int 0]))]) [14] (by decide) rfl
  have hKc := hK.sub (tys' := []) [] rfl
  have hFc := va_free (wc := [(q83, .inr (7, [.null, .null, .null, .null, .null, .null, .null, .int 0, .int 0]))]) hD hS hA [14] rfl
  refine va_callv (va_runI (As := [.ref q5, .ref q31, .ref q53]) (rest := [.ref q83, .ref h0]) ⟨hx, hb, hml, hown, hts⟩ (i_X0 l dC dI q83 H.size q5 q31 q53) (cwI 3 hts gX7_init_X0_init rfl rfl rfl (hts (.initialized RX0) (by decide +kernel)) (hts (.methodLink RX7 57 yX0_init) (by decide +kernel)) (hts (.instanceMethod yX0_init) (by decide +kernel)) rfl (by decide +kernel) ⟨Nat.le_of_ble_eq_true rfl, Nat.le_of_ble_eq_true rfl⟩) ⟨fun a U g mk q => by obtain ⟨q0, q1, qP, qK, qD⟩ := q; exact ⟨q0, q1, qP, va_K.moved (u := U) (U := U.calling g mk a) (Vm.Alike.refl U.vm) qK, qD⟩, fun U hU hW => ⟨rfl, by rw [hU], by rw [hU]; exact hPc, va_K.moved hW.alike hKc, hDc.weaken (fun _ _ _ _ => trivial)⟩⟩ rfl rfl hl.1 rfl (Nat.le_of_ble_eq_true rfl) dX7_init_99 ⟨Nat.le_of_ble_eq_true rfl, Nat.le_of_ble_eq_true rfl⟩) hS (fun q _ h => hFc q h) (fun q h => hFc q h) (fun u t H1 locs1 ht hvm h9 hB hsz1 hk1 hS => ?_)
  obtain ⟨q22_99, q29_99, q36_99, q43_99, c22_99, hP1, hK1, hD1⟩ := hB
  rw [ht] at hP1
  have hK1 := va_K.moved hvm.symm hK1
  obtain ⟨hP, hD⟩ := va_join (wr := [(h0, .inr (0, [.ref q5, .ref q16, .ref q31, .ref q42, .ref q53, .ref q64, .null, .int 0, .int 0])), (q5, .inr (1, [.ref q8_9])), (q8_9, .inl (c8_9, 512, .inl (fun _ => 0))), (q16, .inr (2, [.ref q5, .ref q12_24, .int 0, .int 0, .int 0, .int 0, .int 0, .int 0, .int 0])), (q12_24, .inl (c8_9, 8, .inl (fun _ => 0))), (q31, .inr (3, [.ref q8_35, .ref q17_35])), (q8_35, .inl (c8_9, 512, .inl (upd (upd (upd (upd (upd (upd (upd (upd (fun _ => 0) 0 229) 16 229) 32 229) 48 229) 64 229) 80 229) 96 229) 112 229))), (q17_35, .inl (c17_35, 256, .inl (fun _ => 0))), (q42, .inr (4, [.ref q7_46, .int 0, .int 0])), (q7_46, .inl (c8_9, 40, .inl (fun _ => 0))), (q53, .inr (5, [.ref q7_57, .int 0])), (q7_57, .inl (c8_9, 64, .inl (fun _ => 0))), (q64, .inr (6, [.ref q5, .ref q31, .ref q16_76, .int 128, .int 0])), (q16_76, .inl (c8_9, 4, .inl (fun _ => 0)))]) (w1 := [(q83, .inr (7, [.ref q5, .ref q31, .ref q53, .ref q22_99, .ref q29_99, .ref q36_99, .ref q43_99, .int 0, .int 0])), (q22_99, .inl (c22_99, 20, .inl (fun _ => 0))), (q29_99, .inl (c22_99, 3, .inl (fun _ => 0))), (q36_99, .inl (c22_99, 3, .inl (fun _ => 0))), (q43_99, .inl (c22_99, 4, .inl (fun _ => 0)))]) hP hD [14] [0, 1, 2, 3, 4, 5, 6, 7, 8, 9, 10, 11, 12, 13] rfl rfl (by decide) (by decide) hk1 hFc hP1 hD1
  have hK := (hK.sub (tys' := [(c8_9, .int), (c17_35, .boolean)]) [0, 1] rfl).app hK1
  have e9 : c22_99 = c8_9 := Option.some.inj ((hK.2 2 _ rfl).2.symm.trans (hK.2 0 _ rfl).2)
  rw [e9] at hK hP hD
  have hK : va_K (dC, dI) x_cl [(c8_9, .int), (c17_35, .boolean)] s := hK.sub [0, 1] rfl
  generalize H1 = H at hP hS ⊢
  have hP : va_P (dC, dI) x_cl [(h0, .inr (0, [.ref q5, .ref q16, .ref q31, .ref q42, .ref q53, .ref q64, .null, .int 0, .int 0])), (q5, .inr (1, [.ref q8_9])), (q8_9, .inl (c8_9, 512, .inl (fun _ => 0))), (q16, .inr (2, [.ref q5, .ref q12_24, .int 0, .int 0, .int 0, .int 0, .int 0, .int 0, .int 0])), (q12_24, .inl (c8_9, 8, .inl (fun _ => 0))), (q31, .inr (3, [.ref q8_35, .ref q17_35])), (q8_35, .inl (c8_9, 512, .inl (upd (upd (upd (upd (upd (upd (upd (upd (fun _ => 0) 0 229) 16 229) 32 229) 48 229) 64 229) 80 229) 96 229) 112 229))), (q17_35, .inl (c17_35, 256, .inl (fun _ => 0))), (q42, .inr (4, [.ref q7_46, .int 0, .int 0])), (q7_46, .inl (c8_9, 40, .inl (fun _ => 0))), (q53, .inr (5, [.ref q7_57, .int 0])), (q7_57, .inl (c8_9, 64, .inl (fun _ => 0))), (q64, .inr (6, [.ref q5, .ref q31, .ref q16_76, .int 128, .int 0])), (q16_76, .inl (c8_9, 4, .inl (fun _ => 0))), (q83, .inr (7, [.ref q5, .ref q31, .ref q53, .ref q22_99, .ref q29_99, .ref q36_99, .ref q43_99, .int 0, .int 0])), (q22_99, .inl (c8_9, 20, .inl (fun _ => 0))), (q29_99, .inl (c8_9, 3, .inl (fun _ => 0))), (q36_99, .inl (c8_9, 3, .inl (fun _ => 0))), (q43_99, .inl (c8_9, 4, .inl (fun _ => 0)))] H := hP
  have hD : va_D A [(h0, .inr (0, [.ref q5, .ref q16, .ref q31, .ref q42, .ref q53, .ref q64, .null, .int 0, .int 0])), (q5, .inr (1, [.ref q8_9])), (q8_9, .inl (c8_9, 512, .inl (fun _ => 0))), (q16, .inr (2, [.ref q5, .ref q12_24, .int 0, .int 0, .int 0, .int 0, .int 0, .int 0, .int 0])), (q12_24, .inl (c8_9, 8, .inl (fun _ => 0))), (q31, .inr (3, [.ref q8_35, .ref q17_35])), (q8_35, .inl (c8_9, 512, .inl (upd (upd (upd (upd (upd (upd (upd (upd (fun _ => 0) 0 229) 16 229) 32 229) 48 229) 64 229) 80 229) 96 229) 112 229))), (q17_35, .inl (c17_35, 256, .inl (fun _ => 0))), (q42, .inr (4, [.ref q7_46, .int 0, .int 0])), (q7_46, .inl (c8_9, 40, .inl (fun _ => 0))), (q53, .inr (5, [.ref q7_57, .int 0])), (q7_57, .inl (c8_9, 64, .inl (fun _ => 0))), (q64, .inr (6, [.ref q5, .ref q31, .ref q16_76, .int 128, .int 0])), (q16_76, .inl (c8_9, 4, .inl (fun _ => 0))), (q83, .inr (7, [.ref q5, .ref q31, .ref q53, .ref q22_99, .ref q29_99, .ref q36_99, .ref q43_99, .int 0, .int 0])), (q22_99, .inl (c8_9, 20, .inl (fun _ => 0))), (q29_99, .inl (c8_9, 3, .inl (fun _ => 0))), (q36_99, .inl (c8_9, 3, .inl (fun _ => 0))), (q43_99, .inl (c8_9, 4, .inl (fun _ => 0)))] := hD
  refine W.widen (k := 18) (n := 1457) (by decide) (by decide) ?_
  refine va_putF (D := (dC, dI)) (ci := 0) (v := .ref q83) (ty := .object "DeskMachine$Desk") (C := RX7) (T := TX7) (N := 9) hx hb hts (by decide +kernel) tyX7 tyX7_ok nmX7 hown hK hP hD hS 0 rfl rfl 6 (by decide) (hts (.fieldLink RX7 60 "DeskMachine" "desk" "LDeskMachine$Desk;") (by decide +kernel)) (fun _ h9 => h9) rfl hin rfl (by decide +kernel) rfl rfl (Nat.le_of_ble_eq_true rfl) dX7_init_102 (fun H locs hP hD hS => ?_)
  have hP : va_P (dC, dI) x_cl [(h0, .inr (0, [.ref q5, .ref q16, .ref q31, .ref q42, .ref q53, .ref q64, .ref q83, .int 0, .int 0])), (q5, .inr (1, [.ref q8_9])), (q8_9, .inl (c8_9, 512, .inl (fun _ => 0))), (q16, .inr (2, [.ref q5, .ref q12_24, .int 0, .int 0, .int 0, .int 0, .int 0, .int 0, .int 0])), (q12_24, .inl (c8_9, 8, .inl (fun _ => 0))), (q31, .inr (3, [.ref q8_35, .ref q17_35])), (q8_35, .inl (c8_9, 512, .inl (upd (upd (upd (upd (upd (upd (upd (upd (fun _ => 0) 0 229) 16 229) 32 229) 48 229) 64 229) 80 229) 96 229) 112 229))), (q17_35, .inl (c17_35, 256, .inl (fun _ => 0))), (q42, .inr (4, [.ref q7_46, .int 0, .int 0])), (q7_46, .inl (c8_9, 40, .inl (fun _ => 0))), (q53, .inr (5, [.ref q7_57, .int 0])), (q7_57, .inl (c8_9, 64, .inl (fun _ => 0))), (q64, .inr (6, [.ref q5, .ref q31, .ref q16_76, .int 128, .int 0])), (q16_76, .inl (c8_9, 4, .inl (fun _ => 0))), (q83, .inr (7, [.ref q5, .ref q31, .ref q53, .ref q22_99, .ref q29_99, .ref q36_99, .ref q43_99, .int 0, .int 0])), (q22_99, .inl (c8_9, 20, .inl (fun _ => 0))), (q29_99, .inl (c8_9, 3, .inl (fun _ => 0))), (q36_99, .inl (c8_9, 3, .inl (fun _ => 0))), (q43_99, .inl (c8_9, 4, .inl (fun _ => 0)))] H := hP
  have hD : va_D A [(h0, .inr (0, [.ref q5, .ref q16, .ref q31, .ref q42, .ref q53, .ref q64, .ref q83, .int 0, .int 0])), (q5, .inr (1, [.ref q8_9])), (q8_9, .inl (c8_9, 512, .inl (fun _ => 0))), (q16, .inr (2, [.ref q5, .ref q12_24, .int 0, .int 0, .int 0, .int 0, .int 0, .int 0, .int 0])), (q12_24, .inl (c8_9, 8, .inl (fun _ => 0))), (q31, .inr (3, [.ref q8_35, .ref q17_35])), (q8_35, .inl (c8_9, 512, .inl (upd (upd (upd (upd (upd (upd (upd (upd (fun _ => 0) 0 229) 16 229) 32 229) 48 229) 64 229) 80 229) 96 229) 112 229))), (q17_35, .inl (c17_35, 256, .inl (fun _ => 0))), (q42, .inr (4, [.ref q7_46, .int 0, .int 0])), (q7_46, .inl (c8_9, 40, .inl (fun _ => 0))), (q53, .inr (5, [.ref q7_57, .int 0])), (q7_57, .inl (c8_9, 64, .inl (fun _ => 0))), (q64, .inr (6, [.ref q5, .ref q31, .ref q16_76, .int 128, .int 0])), (q16_76, .inl (c8_9, 4, .inl (fun _ => 0))), (q83, .inr (7, [.ref q5, .ref q31, .ref q53, .ref q22_99, .ref q29_99, .ref q36_99, .ref q43_99, .int 0, .int 0])), (q22_99, .inl (c8_9, 20, .inl (fun _ => 0))), (q29_99, .inl (c8_9, 3, .inl (fun _ => 0))), (q36_99, .inl (c8_9, 3, .inl (fun _ => 0))), (q43_99, .inl (c8_9, 4, .inl (fun _ => 0)))] := hD
  refine lv_aload_n hx hb dX7_init_105 rfl (lv_at hl 0 rfl) ?_
  refine lv_iconst (v := 0) hx hb dX7_init_106 (by decide) ?_
  refine va_put (D := (dC, dI)) (ci := 0) (v := .int 0) (ty := .int) (C := RX7) (T := TX7) (N := 9) hx hb hts (by decide +kernel) tyX7 tyX7_ok nmX7 hown hK hP hD hS 0 rfl rfl 7 (by decide) (hts (.fieldLink RX7 64 "DeskMachine" "mode" "I") (by decide +kernel)) (fun _ h9 => h9) rfl (by decide +kernel) rfl rfl (Nat.le_of_ble_eq_true rfl) dX7_init_107 (fun H locs hP hD hS => ?_)
  have hP : va_P (dC, dI) x_cl [(h0, .inr (0, [.ref q5, .ref q16, .ref q31, .ref q42, .ref q53, .ref q64, .ref q83, .int 0, .int 0])), (q5, .inr (1, [.ref q8_9])), (q8_9, .inl (c8_9, 512, .inl (fun _ => 0))), (q16, .inr (2, [.ref q5, .ref q12_24, .int 0, .int 0, .int 0, .int 0, .int 0, .int 0, .int 0])), (q12_24, .inl (c8_9, 8, .inl (fun _ => 0))), (q31, .inr (3, [.ref q8_35, .ref q17_35])), (q8_35, .inl (c8_9, 512, .inl (upd (upd (upd (upd (upd (upd (upd (upd (fun _ => 0) 0 229) 16 229) 32 229) 48 229) 64 229) 80 229) 96 229) 112 229))), (q17_35, .inl (c17_35, 256, .inl (fun _ => 0))), (q42, .inr (4, [.ref q7_46, .int 0, .int 0])), (q7_46, .inl (c8_9, 40, .inl (fun _ => 0))), (q53, .inr (5, [.ref q7_57, .int 0])), (q7_57, .inl (c8_9, 64, .inl (fun _ => 0))), (q64, .inr (6, [.ref q5, .ref q31, .ref q16_76, .int 128, .int 0])), (q16_76, .inl (c8_9, 4, .inl (fun _ => 0))), (q83, .inr (7, [.ref q5, .ref q31, .ref q53, .ref q22_99, .ref q29_99, .ref q36_99, .ref q43_99, .int 0, .int 0])), (q22_99, .inl (c8_9, 20, .inl (fun _ => 0))), (q29_99, .inl (c8_9, 3, .inl (fun _ => 0))), (q36_99, .inl (c8_9, 3, .inl (fun _ => 0))), (q43_99, .inl (c8_9, 4, .inl (fun _ => 0)))] H := hP
  have hD : va_D A [(h0, .inr (0, [.ref q5, .ref q16, .ref q31, .ref q42, .ref q53, .ref q64, .ref q83, .int 0, .int 0])), (q5, .inr (1, [.ref q8_9])), (q8_9, .inl (c8_9, 512, .inl (fun _ => 0))), (q16, .inr (2, [.ref q5, .ref q12_24, .int 0, .int 0, .int 0, .int 0, .int 0, .int 0, .int 0])), (q12_24, .inl (c8_9, 8, .inl (fun _ => 0))), (q31, .inr (3, [.ref q8_35, .ref q17_35])), (q8_35, .inl (c8_9, 512, .inl (upd (upd (upd (upd (upd (upd (upd (upd (fun _ => 0) 0 229) 16 229) 32 229) 48 229) 64 229) 80 229) 96 229) 112 229))), (q17_35, .inl (c17_35, 256, .inl (fun _ => 0))), (q42, .inr (4, [.ref q7_46, .int 0, .int 0])), (q7_46, .inl (c8_9, 40, .inl (fun _ => 0))), (q53, .inr (5, [.ref q7_57, .int 0])), (q7_57, .inl (c8_9, 64, .inl (fun _ => 0))), (q64, .inr (6, [.ref q5, .ref q31, .ref q16_76, .int 128, .int 0])), (q16_76, .inl (c8_9, 4, .inl (fun _ => 0))), (q83, .inr (7, [.ref q5, .ref q31, .ref q53, .ref q22_99, .ref q29_99, .ref q36_99, .ref q43_99, .int 0, .int 0])), (q22_99, .inl (c8_9, 20, .inl (fun _ => 0))), (q29_99, .inl (c8_9, 3, .inl (fun _ => 0))), (q36_99, .inl (c8_9, 3, .inl (fun _ => 0))), (q43_99, .inl (c8_9, 4, .inl (fun _ => 0)))] := hD
  refine lv_aload_n hx hb dX7_init_110 rfl (lv_at hl 0 rfl) ?_
  refine lv_iconst (v := 0) hx hb dX7_init_111 (by decide) ?_
  refine va_put (D := (dC, dI)) (ci := 0) (v := .int 0) (ty := .int) (C := RX7) (T := TX7) (N := 9) hx hb hts (by decide +kernel) tyX7 tyX7_ok nmX7 hown hK hP hD hS 0 rfl rfl 8 (by decide) (hts (.fieldLink RX7 68 "DeskMachine" "steps" "I") (by decide +kernel)) (fun _ h9 => h9) rfl (by decide +kernel) rfl rfl (Nat.le_of_ble_eq_true rfl) dX7_init_112 (fun H locs hP hD hS => ?_)
  have hP : va_P (dC, dI) x_cl [(h0, .inr (0, [.ref q5, .ref q16, .ref q31, .ref q42, .ref q53, .ref q64, .ref q83, .int 0, .int 0])), (q5, .inr (1, [.ref q8_9])), (q8_9, .inl (c8_9, 512, .inl (fun _ => 0))), (q16, .inr (2, [.ref q5, .ref q12_24, .int 0, .int 0, .int 0, .int 0, .int 0, .int 0, .int 0])), (q12_24, .inl (c8_9, 8, .inl (fun _ => 0))), (q31, .inr (3, [.ref q8_35, .ref q17_35])), (q8_35, .inl (c8_9, 512, .inl (upd (upd (upd (upd (upd (upd (upd (upd (fun _ => 0) 0 229) 16 229) 32 229) 48 229) 64 229) 80 229) 96 229) 112 229))), (q17_35, .inl (c17_35, 256, .inl (fun _ => 0))), (q42, .inr (4, [.ref q7_46, .int 0, .int 0])), (q7_46, .inl (c8_9, 40, .inl (fun _ => 0))), (q53, .inr (5, [.ref q7_57, .int 0])), (q7_57, .inl (c8_9, 64, .inl (fun _ => 0))), (q64, .inr (6, [.ref q5, .ref q31, .ref q16_76, .int 128, .int 0])), (q16_76, .inl (c8_9, 4, .inl (fun _ => 0))), (q83, .inr (7, [.ref q5, .ref q31, .ref q53, .ref q22_99, .ref q29_99, .ref q36_99, .ref q43_99, .int 0, .int 0])), (q22_99, .inl (c8_9, 20, .inl (fun _ => 0))), (q29_99, .inl (c8_9, 3, .inl (fun _ => 0))), (q36_99, .inl (c8_9, 3, .inl (fun _ => 0))), (q43_99, .inl (c8_9, 4, .inl (fun _ => 0)))] H := hP
  have hD : va_D A [(h0, .inr (0, [.ref q5, .ref q16, .ref q31, .ref q42, .ref q53, .ref q64, .ref q83, .int 0, .int 0])), (q5, .inr (1, [.ref q8_9])), (q8_9, .inl (c8_9, 512, .inl (fun _ => 0))), (q16, .inr (2, [.ref q5, .ref q12_24, .int 0, .int 0, .int 0, .int 0, .int 0, .int 0, .int 0])), (q12_24, .inl (c8_9, 8, .inl (fun _ => 0))), (q31, .inr (3, [.ref q8_35, .ref q17_35])), (q8_35, .inl (c8_9, 512, .inl (upd (upd (upd (upd (upd (upd (upd (upd (fun _ => 0) 0 229) 16 229) 32 229) 48 229) 64 229) 80 229) 96 229) 112 229))), (q17_35, .inl (c17_35, 256, .inl (fun _ => 0))), (q42, .inr (4, [.ref q7_46, .int 0, .int 0])), (q7_46, .inl (c8_9, 40, .inl (fun _ => 0))), (q53, .inr (5, [.ref q7_57, .int 0])), (q7_57, .inl (c8_9, 64, .inl (fun _ => 0))), (q64, .inr (6, [.ref q5, .ref q31, .ref q16_76, .int 128, .int 0])), (q16_76, .inl (c8_9, 4, .inl (fun _ => 0))), (q83, .inr (7, [.ref q5, .ref q31, .ref q53, .ref q22_99, .ref q29_99, .ref q36_99, .ref q43_99, .int 0, .int 0])), (q22_99, .inl (c8_9, 20, .inl (fun _ => 0))), (q29_99, .inl (c8_9, 3, .inl (fun _ => 0))), (q36_99, .inl (c8_9, 3, .inl (fun _ => 0))), (q43_99, .inl (c8_9, 4, .inl (fun _ => 0)))] := hD
  exact W.vret hx hb hr (fun t ht hW => ⟨⟨(), rfl, trivial, q5, q8_9, q16, q12_24, q31, q8_35, q17_35, q42, q7_46, q53, q7_57, q64, q16_76, q83, q22_99, q29_99, q36_99, q43_99, c8_9, c17_35, by rw [ht]; exact hP, va_K.moved hW.alike hK, hD⟩, hS.F ht⟩) hS.2.2 dX7_init_115
/-! The model's constructor -/
abbrev cXM_init : ByteArray := prog_10_method_1_code
def yXM_init : MethodName := ⟨RXM, "<init>", "()V"⟩
def wsXM_init : List Cond := .code yXM_init cXM_init 2 none :: ([.methodLink RXM 1 objectInit, .instanceMethod objectInit, .code objectInit ⟨#[0xb1]⟩ 1 none, .arrayClass .int, .fieldLink RXM 7 "DeskMachineModel" "memory" "[I", .fieldLink RXM 13 "DeskMachineModel" "disk" "[I", .fieldLink RXM 16 "DeskMachineModel" "register" "[I", .fieldLink RXM 19 "DeskMachineModel" "buffer" "I", .fieldLink RXM 23 "DeskMachineModel" "state" "I", .fieldLink RXM 26 "DeskMachineModel" "key" "[I", .fieldLink RXM 29 "DeskMachineModel" "line" "[I", .fieldLink RXM 32 "DeskMachineModel" "ring" "[I", .fieldLink RXM 35 "DeskMachineModel" "last" "I", .fieldLink RXM 38 "DeskMachineModel" "name" "[I"] ++ u_ws RXM TXM 22)
theorem dXM_init_0 : decode cXM_init 0 = .ok (.aload_n 0, 1) := by decide +kernel
theorem dXM_init_1 : decode cXM_init 1 = .ok (.invokespecial 1, 3) := by decide +kernel
theorem dXM_init_4 : decode cXM_init 4 = .ok (.aload_n 0, 1) := by decide +kernel
theorem dXM_init_5 : decode cXM_init 5 = .ok (.sipush 512, 3) := by decide +kernel
theorem dXM_init_8 : decode cXM_init 8 = .ok (.newarray .int, 2) := by decide +kernel
theorem dXM_init_10 : decode cXM_init 10 = .ok (.putfield 7, 3) := by decide +kernel
theorem dXM_init_13 : decode cXM_init 13 = .ok (.aload_n 0, 1) := by decide +kernel
theorem dXM_init_14 : decode cXM_init 14 = .ok (.sipush 512, 3) := by decide +kernel
theorem dXM_init_17 : decode cXM_init 17 = .ok (.newarray .int, 2) := by decide +kernel
theorem dXM_init_19 : decode cXM_init 19 = .ok (.putfield 13, 3) := by decide +kernel
theorem dXM_init_22 : decode cXM_init 22 = .ok (.aload_n 0, 1) := by decide +kernel
theorem dXM_init_23 : decode cXM_init 23 = .ok (.bipush 8, 2) := by decide +kernel
theorem dXM_init_25 : decode cXM_init 25 = .ok (.newarray .int, 2) := by decide +kernel
theorem dXM_init_27 : decode cXM_init 27 = .ok (.putfield 16, 3) := by decide +kernel
theorem dXM_init_30 : decode cXM_init 30 = .ok (.aload_n 0, 1) := by decide +kernel
theorem dXM_init_31 : decode cXM_init 31 = .ok (.sipush 128, 3) := by decide +kernel
theorem dXM_init_34 : decode cXM_init 34 = .ok (.putfield 19, 3) := by decide +kernel
theorem dXM_init_37 : decode cXM_init 37 = .ok (.aload_n 0, 1) := by decide +kernel
theorem dXM_init_38 : decode cXM_init 38 = .ok (.iconst 0, 1) := by decide +kernel
theorem dXM_init_39 : decode cXM_init 39 = .ok (.putfield 23, 3) := by decide +kernel
theorem dXM_init_42 : decode cXM_init 42 = .ok (.aload_n 0, 1) := by decide +kernel
theorem dXM_init_43 : decode cXM_init 43 = .ok (.bipush 40, 2) := by decide +kernel
theorem dXM_init_45 : decode cXM_init 45 = .ok (.newarray .int, 2) := by decide +kernel
theorem dXM_init_47 : decode cXM_init 47 = .ok (.putfield 26, 3) := by decide +kernel
theorem dXM_init_50 : decode cXM_init 50 = .ok (.aload_n 0, 1) := by decide +kernel
theorem dXM_init_51 : decode cXM_init 51 = .ok (.bipush 20, 2) := by decide +kernel
theorem dXM_init_53 : decode cXM_init 53 = .ok (.newarray .int, 2) := by decide +kernel
theorem dXM_init_55 : decode cXM_init 55 = .ok (.putfield 29, 3) := by decide +kernel
theorem dXM_init_58 : decode cXM_init 58 = .ok (.aload_n 0, 1) := by decide +kernel
theorem dXM_init_59 : decode cXM_init 59 = .ok (.bipush 64, 2) := by decide +kernel
theorem dXM_init_61 : decode cXM_init 61 = .ok (.newarray .int, 2) := by decide +kernel
theorem dXM_init_63 : decode cXM_init 63 = .ok (.putfield 32, 3) := by decide +kernel
theorem dXM_init_66 : decode cXM_init 66 = .ok (.aload_n 0, 1) := by decide +kernel
theorem dXM_init_67 : decode cXM_init 67 = .ok (.iconst (-1), 1) := by decide +kernel
theorem dXM_init_68 : decode cXM_init 68 = .ok (.putfield 35, 3) := by decide +kernel
theorem dXM_init_71 : decode cXM_init 71 = .ok (.aload_n 0, 1) := by decide +kernel
theorem dXM_init_72 : decode cXM_init 72 = .ok (.iconst 4, 1) := by decide +kernel
theorem dXM_init_73 : decode cXM_init 73 = .ok (.newarray .int, 2) := by decide +kernel
theorem dXM_init_75 : decode cXM_init 75 = .ok (.putfield 38, 3) := by decide +kernel
theorem dXM_init_78 : decode cXM_init 78 = .ok (.iconst 0, 1) := by decide +kernel
theorem dXM_init_79 : decode cXM_init 79 = .ok (.istore_n 1, 1) := by decide +kernel
theorem dXM_init_80 : decode cXM_init 80 = .ok (.iload_n 1, 1) := by decide +kernel
theorem dXM_init_81 : decode cXM_init 81 = .ok (.bipush 8, 2) := by decide +kernel
theorem dXM_init_83 : decode cXM_init 83 = .ok (.if_icmp .ge 21, 3) := by decide +kernel
theorem dXM_init_86 : decode cXM_init 86 = .ok (.aload_n 0, 1) := by decide +kernel
theorem dXM_init_87 : decode cXM_init 87 = .ok (.getfield 13, 3) := by decide +kernel
theorem dXM_init_90 : decode cXM_init 90 = .ok (.bipush 16, 2) := by decide +kernel
theorem dXM_init_92 : decode cXM_init 92 = .ok (.iload_n 1, 1) := by decide +kernel
theorem dXM_init_93 : decode cXM_init 93 = .ok (.imul, 1) := by decide +kernel
theorem dXM_init_94 : decode cXM_init 94 = .ok (.sipush 229, 3) := by decide +kernel
theorem dXM_init_97 : decode cXM_init 97 = .ok (.iastore, 1) := by decide +kernel
theorem dXM_init_98 : decode cXM_init 98 = .ok (.iinc 1 1, 3) := by decide +kernel
theorem dXM_init_101 : decode cXM_init 101 = .ok (.goto (-21), 3) := by decide +kernel
theorem dXM_init_104 : decode cXM_init 104 = .ok (.return_, 1) := by decide +kernel
set_option maxHeartbeats 4000000 in
set_option maxRecDepth 100000 in
theorem i_XM (l : Launch) (dC : Nat → ClassId) (dI : Nat → Nat → Nat) (h0 sz : Nat) : Met l yXM_init wsXM_init ({ frames := 1, cells := 7, slots := 1160, locals := 12 }) (va_Pc [.ref h0] (fun U => U.heap.size = sz ∧ va_P (dC, dI) x_cl [(h0, .inr (8, [.int 0, .null, .null, .null, .int 0, .int 0, .int 0, .int 0, .int 0, .int 0, .int 0, .int 0, .int 0, .int 0, .null, .int 0, .null, .int 0, .null, .int 0, .int 0, .null]))] U.heap ∧ va_K (dC, dI) x_cl [] U ∧ va_D (fun _ => True) [(h0, .inr (8, [.int 0, .null, .null, .null, .int 0, .int 0, .int 0, .int 0, .int 0, .int 0, .int 0, .int 0, .int 0, .int 0, .null, .int 0, .null, .int 0, .null, .int 0, .int 0, .null]))])) (va_Qv (fun _ : Unit => True) (fun (_ : Unit) (t : State) => ∃ (q8 q17 q25 q45 q53 q61 q73 : Nat) (c8 : ClassId), va_P (dC, dI) x_cl [(h0, .inr (8, [.int 0, .ref q8, .ref q17, .ref q25, .int 0, .int 0, .int 128, .int 0, .int 0, .int 0, .int 0, .int 0, .int 0, .int 0, .ref q45, .int 0, .ref q53, .int 0, .ref q61, .int 0, .int (-1), .ref q73])), (q8, .inl (c8, 512, .inl (fun _ => 0))), (q17, .inl (c8, 512, .inl (upd (upd (upd (upd (upd (upd (upd (upd (fun _ => 0) 0 229) 16 229) 32 229) 48 229) 64 229) 80 229) 96 229) 112 229))), (q25, .inl (c8, 8, .inl (fun _ => 0))), (q45, .inl (c8, 40, .inl (fun _ => 0))), (q53, .inl (c8, 20, .inl (fun _ => 0))), (q61, .inl (c8, 64, .inl (fun _ => 0))), (q73, .inl (c8, 4, .inl (fun _ => 0)))] t.heap ∧ va_K (dC, dI) x_cl [(c8, .int)] t ∧ va_D (va_A [(h0, .inr (8, [.int 0, .null, .null, .null, .int 0, .int 0, .int 0, .int 0, .int 0, .int 0, .int 0, .int 0, .int 0, .int 0, .null, .int 0, .null, .int 0, .null, .int 0, .int 0, .null]))] sz) [(h0, .inr (8, [.int 0, .ref q8, .ref q17, .ref q25, .int 0, .int 0, .int 128, .int 0, .int 0, .int 0, .int 0, .int 0, .int 0, .int 0, .ref q45, .int 0, .ref q53, .int 0, .ref q61, .int 0, .int (-1), .ref q73])), (q8, .inl (c8, 512, .inl (fun _ => 0))), (q17, .inl (c8, 512, .inl (upd (upd (upd (upd (upd (upd (upd (upd (fun _ => 0) 0 229) 16 229) 32 229) 48 229) 64 229) 80 229) 96 229) 112 229))), (q25, .inl (c8, 8, .inl (fun _ => 0))), (q45, .inl (c8, 40, .inl (fun _ => 0))), (q53, .inl (c8, 20, .inl (fun _ => 0))), (q61, .inl (c8, 64, .inl (fun _ => 0))), (q73, .inl (c8, 4, .inl (fun _ => 0)))]) (va_A [(h0, .inr (8, [.int 0, .null, .null, .null, .int 0, .int 0, .int 0, .int 0, .int 0, .int 0, .int 0, .int 0, .int 0, .int 0, .null, .int 0, .null, .int 0, .null, .int 0, .int 0, .null]))] sz)) 7 1160 (va_A [(h0, .inr (8, [.int 0, .null, .null, .null, .int 0, .int 0, .int 0, .int 0, .int 0, .int 0, .int 0, .int 0, .int 0, .int 0, .null, .int 0, .null, .int 0, .null, .int 0, .int 0, .null]))] sz) := by
  refine Met.ofW (cc := cXM_init) (maxL := 2) (ret := none) (by decide) rfl ?_
  intro p e s m args below meth c s₁ B hml hv
  obtain ⟨rfl, hsz, hP, hK, hD0⟩ := hv
  have hx := B.exec
  have hb := B.bytes
  have hr := B.returns
  have hts := atoms_spec (ws := wsXM_init) B.pre
  have hown : s.vm.findClass RXM = some m.cls := findClass_of_methodNamed B.named
  have hlocks := B.notSynchronized
  have hin : meth.name = "<init>" := (name_of_methodNamed B.named B.method).1
  subst hsz
  have hD := hD0.self (sz := s.heap.size)
  generalize hAe : va_A [(h0, .inr (8, [.int 0, .null, .null, .null, .int 0, .int 0, .int 0, .int 0, .int 0, .int 0, .int 0, .int 0, .int 0, .int 0, .null, .int 0, .null, .int 0, .null, .int 0, .int 0, .null]))] s.heap.size = A at hD ⊢
  have hA : ∀ q : Nat, s.heap.size ≤ q → A q := fun q h => by rw [← hAe]; exact Or.inr h
  have hS : va_S A s.heap s.heap [] := va_S.rf
  have hP : va_P (dC, dI) x_cl [(h0, .inr (8, [.int 0, .null, .null, .null, .int 0, .int 0, .int 0, .int 0, .int 0, .int 0, .int 0, .int 0, .int 0, .int 0, .null, .int 0, .null, .int 0, .null, .int 0, .int 0, .null]))] s.heap := hP
  have hl := lv_entry ([.ref h0]) (n := 2) (Nat.le_of_ble_eq_true rfl)
  rw [lg_entry_eq]
  generalize (lg_sl ([.ref h0]) ++ List.replicate (2 - (lg_sl ([.ref h0])).length) Slot.unset).toArray = ls at hl ⊢
  have hl : lv_has ls 2 [(0, .ref h0)] := hl
  refine lv_aload_n hx hb dXM_init_0 rfl (lv_at hl 0 rfl) ?_
  refine W.objInit hx hb hown (hts (.methodLink RXM 1 objectInit) (by decide +kernel)) (hts (.instanceMethod objectInit) (by decide +kernel)) (hts _ (List.mem_cons_of_mem _ (List.mem_append_left _ (List.mem_of_getElem? (i := 2) rfl)))) rfl (by rw [hml]; exact hl.1) rfl dXM_init_1 (Nat.le_of_ble_eq_true rfl) (Nat.le_of_ble_eq_true rfl) ?_
  refine W.eq (g2 := F0 m 4 ls []) rfl ?_
  refine lv_aload_n hx hb dXM_init_4 rfl (lv_at hl 0 rfl) ?_
  refine lv_sipush (v := 512) hx hb dXM_init_5 (by decide) ?_
  refine x_newI 512 (by decide) (by decide) hx hb (hts (.arrayClass .int) (by decide +kernel)) hK hP hD hS hA (Nat.le_of_ble_eq_true rfl) (Nat.le_of_ble_eq_true rfl) dXM_init_8 (fun q8 c8 H hK hP hD hS => ?_)
  have hK : va_K (dC, dI) x_cl [(c8, .int)] s := hK
  have hP : va_P (dC, dI) x_cl [(h0, .inr (8, [.int 0, .null, .null, .null, .int 0, .int 0, .int 0, .int 0, .int 0, .int 0, .int 0, .int 0, .int 0, .int 0, .null, .int 0, .null, .int 0, .null, .int 0, .int 0, .null])), (q8, .inl (c8, 512, .inl (fun _ => 0)))] H := hP
  have hD : va_D A [(h0, .inr (8, [.int 0, .null, .null, .null, .int 0, .int 0, .int 0, .int 0, .int 0, .int 0, .int 0, .int 0, .int 0, .int 0, .null, .int 0, .null, .int 0, .null, .int 0, .int 0, .null])), (q8, .inl (c8, 512, .inl (fun _ => 0)))] := hD
  refine W.widen (k := 1) (n := 512) (by decide) (by decide) ?_
  refine va_putF (D := (dC, dI)) (ci := 8) (v := .ref q8) (ty := .array .int) (C := RXM) (T := TXM) (N := 22) hx hb hts (by decide +kernel) tyXM tyXM_ok nmXM hown hK hP hD hS 0 rfl rfl 1 (by decide) (hts (.fieldLink RXM 7 "DeskMachineModel" "memory" "[I") (by decide +kernel)) (fun _ h9 => h9) rfl hin rfl (by decide +kernel) rfl rfl (Nat.le_of_ble_eq_true rfl) dXM_init_10 (fun H locs hP hD hS => ?_)
  have hP : va_P (dC, dI) x_cl [(h0, .inr (8, [.int 0, .ref q8, .null, .null, .int 0, .int 0, .int 0, .int 0, .int 0, .int 0, .int 0, .int 0, .int 0, .int 0, .null, .int 0, .null, .int 0, .null, .int 0, .int 0, .null])), (q8, .inl (c8, 512, .inl (fun _ => 0)))] H := hP
  have hD : va_D A [(h0, .inr (8, [.int 0, .ref q8, .null, .null, .int 0, .int 0, .int 0, .int 0, .int 0, .int 0, .int 0, .int 0, .int 0, .int 0, .null, .int 0, .null, .int 0, .null, .int 0, .int 0, .null])), (q8, .inl (c8, 512, .inl (fun _ => 0)))] := hD
  refine lv_aload_n hx hb dXM_init_13 rfl (lv_at hl 0 rfl) ?_
  refine lv_sipush (v := 512) hx hb dXM_init_14 (by decide) ?_
  refine x_newI 512 (by decide) (by decide) hx hb (hts (.arrayClass .int) (by decide +kernel)) hK hP hD hS hA (Nat.le_of_ble_eq_true rfl) (Nat.le_of_ble_eq_true rfl) dXM_init_17 (fun q17 c17 H hK hP hD hS => ?_)
  have e9 : c17 = c8 := Option.some.inj ((hK.2 1 _ rfl).2.symm.trans (hK.2 0 _ rfl).2)
  rw [e9] at hK hP hD
  have hK : va_K (dC, dI) x_cl [(c8, .int)] s := hK.sub [0] rfl
  have hP : va_P (dC, dI) x_cl [(h0, .inr (8, [.int 0, .ref q8, .null, .null, .int 0, .int 0, .int 0, .int 0, .int 0, .int 0, .int 0, .int 0, .int 0, .int 0, .null, .int 0, .null, .int 0, .null, .int 0, .int 0, .null])), (q8, .inl (c8, 512, .inl (fun _ => 0))), (q17, .inl (c8, 512, .inl (fun _ => 0)))] H := hP
  have hD : va_D A [(h0, .inr (8, [.int 0, .ref q8, .null, .null, .int 0, .int 0, .int 0, .int 0, .int 0, .int 0, .int 0, .int 0, .int 0, .int 0, .null, .int 0, .null, .int 0, .null, .int 0, .int 0, .null])), (q8, .inl (c8, 512, .inl (fun _ => 0))), (q17, .inl (c8, 512, .inl (fun _ => 0)))] := hD
  refine W.widen (k := 2) (n := 1024) (by decide) (by decide) ?_
  refine va_putF (D := (dC, dI)) (ci := 8) (v := .ref q17) (ty := .array .int) (C := RXM) (T := TXM) (N := 22) hx hb hts (by decide +kernel) tyXM tyXM_ok nmXM hown hK hP hD hS 0 rfl rfl 2 (by decide) (hts (.fieldLink RXM 13 "DeskMachineModel" "disk" "[I") (by decide +kernel)) (fun _ h9 => h9) rfl hin rfl (by decide +kernel) rfl rfl (Nat.le_of_ble_eq_true rfl) dXM_init_19 (fun H locs hP hD hS => ?_)
  have hP : va_P (dC, dI) x_cl [(h0, .inr (8, [.int 0, .ref q8, .ref q17, .null, .int 0, .int 0, .int 0, .int 0, .int 0, .int 0, .int 0, .int 0, .int 0, .int 0, .null, .int 0, .null, .int 0, .null, .int 0, .int 0, .null])), (q8, .inl (c8, 512, .inl (fun _ => 0))), (q17, .inl (c8, 512, .inl (fun _ => 0)))] H := hP
  have hD : va_D A [(h0, .inr (8, [.int 0, .ref q8, .ref q17, .null, .int 0, .int 0, .int 0, .int 0, .int 0, .int 0, .int 0, .int 0, .int 0, .int 0, .null, .int 0, .null, .int 0, .null, .int 0, .int 0, .null])), (q8, .inl (c8, 512, .inl (fun _ => 0))), (q17, .inl (c8, 512, .inl (fun _ => 0)))] := hD
  refine lv_aload_n hx hb dXM_init_22 rfl (lv_at hl 0 rfl) ?_
  refine lv_bipush (v := 8) hx hb dXM_init_23 (by decide) ?_
  refine x_newI 8 (by decide) (by decide) hx hb (hts (.arrayClass .int) (by decide +kernel)) hK hP hD hS hA (Nat.le_of_ble_eq_true rfl) (Nat.le_of_ble_eq_true rfl) dXM_init_25 (fun q25 c25 H hK hP hD hS => ?_)
  have e9 : c25 = c8 := Option.some.inj ((hK.2 1 _ rfl).2.symm.trans (hK.2 0 _ rfl).2)
  rw [e9] at hK hP hD
  have hK : va_K (dC, dI) x_cl [(c8, .int)] s := hK.sub [0] rfl
  have hP : va_P (dC, dI) x_cl [(h0, .inr (8, [.int 0, .ref q8, .ref q17, .null, .int 0, .int 0, .int 0, .int 0, .int 0, .int 0, .int 0, .int 0, .int 0, .int 0, .null, .int 0, .null, .int 0, .null, .int 0, .int 0, .null])), (q8, .inl (c8, 512, .inl (fun _ => 0))), (q17, .inl (c8, 512, .inl (fun _ => 0))), (q25, .inl (c8, 8, .inl (fun _ => 0)))] H := hP
  have hD : va_D A [(h0, .inr (8, [.int 0, .ref q8, .ref q17, .null, .int 0, .int 0, .int 0, .int 0, .int 0, .int 0, .int 0, .int 0, .int 0, .int 0, .null, .int 0, .null, .int 0, .null, .int 0, .int 0, .null])), (q8, .inl (c8, 512, .inl (fun _ => 0))), (q17, .inl (c8, 512, .inl (fun _ => 0))), (q25, .inl (c8, 8, .inl (fun _ => 0)))] := hD
  refine W.widen (k := 3) (n := 1032) (by decide) (by decide) ?_
  refine va_putF (D := (dC, dI)) (ci := 8) (v := .ref q25) (ty := .array .int) (C := RXM) (T := TXM) (N := 22) hx hb hts (by decide +kernel) tyXM tyXM_ok nmXM hown hK hP hD hS 0 rfl rfl 3 (by decide) (hts (.fieldLink RXM 16 "DeskMachineModel" "register" "[I") (by decide +kernel)) (fun _ h9 => h9) rfl hin rfl (by decide +kernel) rfl rfl (Nat.le_of_ble_eq_true rfl) dXM_init_27 (fun H locs hP hD hS => ?_)
  have hP : va_P (dC, dI) x_cl [(h0, .inr (8, [.int 0, .ref q8, .ref q17, .ref q25, .int 0, .int 0, .int 0, .int 0, .int 0, .int 0, .int 0, .int 0, .int 0, .int 0, .null, .int 0, .null, .int 0, .null, .int 0, .int 0, .null])), (q8, .inl (c8, 512, .inl (fun _ => 0))), (q17, .inl (c8, 512, .inl (fun _ => 0))), (q25, .inl (c8, 8, .inl (fun _ => 0)))] H := hP
  have hD : va_D A [(h0, .inr (8, [.int 0, .ref q8, .ref q17, .ref q25, .int 0, .int 0, .int 0, .int 0, .int 0, .int 0, .int 0, .int 0, .int 0, .int 0, .null, .int 0, .null, .int 0, .null, .int 0, .int 0, .null])), (q8, .inl (c8, 512, .inl (fun _ => 0))), (q17, .inl (c8, 512, .inl (fun _ => 0))), (q25, .inl (c8, 8, .inl (fun _ => 0)))] := hD
  refine lv_aload_n hx hb dXM_init_30 rfl (lv_at hl 0 rfl) ?_
  refine lv_sipush (v := 128) hx hb dXM_init_31 (by decide) ?_
  refine va_put (D := (dC, dI)) (ci := 8) (v := .int 128) (ty := .int) (C := RXM) (T := TXM) (N := 22) hx hb hts (by decide +kernel) tyXM tyXM_ok nmXM hown hK hP hD hS 0 rfl rfl 6 (by decide) (hts (.fieldLink RXM 19 "DeskMachineModel" "buffer" "I") (by decide +kernel)) (fun _ h9 => h9) rfl (by decide +kernel) rfl rfl (Nat.le_of_ble_eq_true rfl) dXM_init_34 (fun H locs hP hD hS => ?_)
  have hP : va_P (dC, dI) x_cl [(h0, .inr (8, [.int 0, .ref q8, .ref q17, .ref q25, .int 0, .int 0, .int 128, .int 0, .int 0, .int 0, .int 0, .int 0, .int 0, .int 0, .null, .int 0, .null, .int 0, .null, .int 0, .int 0, .null])), (q8, .inl (c8, 512, .inl (fun _ => 0))), (q17, .inl (c8, 512, .inl (fun _ => 0))), (q25, .inl (c8, 8, .inl (fun _ => 0)))] H := hP
  have hD : va_D A [(h0, .inr (8, [.int 0, .ref q8, .ref q17, .ref q25, .int 0, .int 0, .int 128, .int 0, .int 0, .int 0, .int 0, .int 0, .int 0, .int 0, .null, .int 0, .null, .int 0, .null, .int 0, .int 0, .null])), (q8, .inl (c8, 512, .inl (fun _ => 0))), (q17, .inl (c8, 512, .inl (fun _ => 0))), (q25, .inl (c8, 8, .inl (fun _ => 0)))] := hD
  refine lv_aload_n hx hb dXM_init_37 rfl (lv_at hl 0 rfl) ?_
  refine lv_iconst (v := 0) hx hb dXM_init_38 (by decide) ?_
  refine va_put (D := (dC, dI)) (ci := 8) (v := .int 0) (ty := .int) (C := RXM) (T := TXM) (N := 22) hx hb hts (by decide +kernel) tyXM tyXM_ok nmXM hown hK hP hD hS 0 rfl rfl 12 (by decide) (hts (.fieldLink RXM 23 "DeskMachineModel" "state" "I") (by decide +kernel)) (fun _ h9 => h9) rfl (by decide +kernel) rfl rfl (Nat.le_of_ble_eq_true rfl) dXM_init_39 (fun H locs hP hD hS => ?_)
  have hP : va_P (dC, dI) x_cl [(h0, .inr (8, [.int 0, .ref q8, .ref q17, .ref q25, .int 0, .int 0, .int 128, .int 0, .int 0, .int 0, .int 0, .int 0, .int 0, .int 0, .null, .int 0, .null, .int 0, .null, .int 0, .int 0, .null])), (q8, .inl (c8, 512, .inl (fun _ => 0))), (q17, .inl (c8, 512, .inl (fun _ => 0))), (q25, .inl (c8, 8, .inl (fun _ => 0)))] H := hP
  have hD : va_D A [(h0, .inr (8, [.int 0, .ref q8, .ref q17, .ref q25, .int 0, .int 0, .int 128, .int 0, .int 0, .int 0, .int 0, .int 0, .int 0, .int 0, .null, .int 0, .null, .int 0, .null, .int 0, .int 0, .null])), (q8, .inl (c8, 512, .inl (fun _ => 0))), (q17, .inl (c8, 512, .inl (fun _ => 0))), (q25, .inl (c8, 8, .inl (fun _ => 0)))] := hD
  refine lv_aload_n hx hb dXM_init_42 rfl (lv_at hl 0 rfl) ?_
  refine lv_bipush (v := 40) hx hb dXM_init_43 (by decide) ?_
  refine x_newI 40 (by decide) (by decide) hx hb (hts (.arrayClass .int) (by decide +kernel)) hK hP hD hS hA (Nat.le_of_ble_eq_true rfl) (Nat.le_of_ble_eq_true rfl) dXM_init_45 (fun q45 c45 H hK hP hD hS => ?_)
  have e9 : c45 = c8 := Option.some.inj ((hK.2 1 _ rfl).2.symm.trans (hK.2 0 _ rfl).2)
  rw [e9] at hK hP hD
  have hK : va_K (dC, dI) x_cl [(c8, .int)] s := hK.sub [0] rfl
  have hP : va_P (dC, dI) x_cl [(h0, .inr (8, [.int 0, .ref q8, .ref q17, .ref q25, .int 0, .int 0, .int 128, .int 0, .int 0, .int 0, .int 0, .int 0, .int 0, .int 0, .null, .int 0, .null, .int 0, .null, .int 0, .int 0, .null])), (q8, .inl (c8, 512, .inl (fun _ => 0))), (q17, .inl (c8, 512, .inl (fun _ => 0))), (q25, .inl (c8, 8, .inl (fun _ => 0))), (q45, .inl (c8, 40, .inl (fun _ => 0)))] H := hP
  have hD : va_D A [(h0, .inr (8, [.int 0, .ref q8, .ref q17, .ref q25, .int 0, .int 0, .int 128, .int 0, .int 0, .int 0, .int 0, .int 0, .int 0, .int 0, .null, .int 0, .null, .int 0, .null, .int 0, .int 0, .null])), (q8, .inl (c8, 512, .inl (fun _ => 0))), (q17, .inl (c8, 512, .inl (fun _ => 0))), (q25, .inl (c8, 8, .inl (fun _ => 0))), (q45, .inl (c8, 40, .inl (fun _ => 0)))] := hD
  refine W.widen (k := 4) (n := 1072) (by decide) (by decide) ?_
  refine va_putF (D := (dC, dI)) (ci := 8) (v := .ref q45) (ty := .array .int) (C := RXM) (T := TXM) (N := 22) hx hb hts (by decide +kernel) tyXM tyXM_ok nmXM hown hK hP hD hS 0 rfl rfl 14 (by decide) (hts (.fieldLink RXM 26 "DeskMachineModel" "key" "[I") (by decide +kernel)) (fun _ h9 => h9) rfl hin rfl (by decide +kernel) rfl rfl (Nat.le_of_ble_eq_true rfl) dXM_init_47 (fun H locs hP hD hS => ?_)
  have hP : va_P (dC, dI) x_cl [(h0, .inr (8, [.int 0, .ref q8, .ref q17, .ref q25, .int 0, .int 0, .int 128, .int 0, .int 0, .int 0, .int 0, .int 0, .int 0, .int 0, .ref q45, .int 0, .null, .int 0, .null, .int 0, .int 0, .null])), (q8, .inl (c8, 512, .inl (fun _ => 0))), (q17, .inl (c8, 512, .inl (fun _ => 0))), (q25, .inl (c8, 8, .inl (fun _ => 0))), (q45, .inl (c8, 40, .inl (fun _ => 0)))] H := hP
  have hD : va_D A [(h0, .inr (8, [.int 0, .ref q8, .ref q17, .ref q25, .int 0, .int 0, .int 128, .int 0, .int 0, .int 0, .int 0, .int 0, .int 0, .int 0, .ref q45, .int 0, .null, .int 0, .null, .int 0, .int 0, .null])), (q8, .inl (c8, 512, .inl (fun _ => 0))), (q17, .inl (c8, 512, .inl (fun _ => 0))), (q25, .inl (c8, 8, .inl (fun _ => 0))), (q45, .inl (c8, 40, .inl (fun _ => 0)))] := hD
  refine lv_aload_n hx hb dXM_init_50 rfl (lv_at hl 0 rfl) ?_
  refine lv_bipush (v := 20) hx hb dXM_init_51 (by decide) ?_
  refine x_newI 20 (by decide) (by decide) hx hb (hts (.arrayClass .int) (by decide +kernel)) hK hP hD hS hA (Nat.le_of_ble_eq_true rfl) (Nat.le_of_ble_eq_true rfl) dXM_init_53 (fun q53 c53 H hK hP hD hS => ?_)
  have e9 : c53 = c8 := Option.some.inj ((hK.2 1 _ rfl).2.symm.trans (hK.2 0 _ rfl).2)
  rw [e9] at hK hP hD
  have hK : va_K (dC, dI) x_cl [(c8, .int)] s := hK.sub [0] rfl
  have hP : va_P (dC, dI) x_cl [(h0, .inr (8, [.int 0, .ref q8, .ref q17, .ref q25, .int 0, .int 0, .int 128, .int 0, .int 0, .int 0, .int 0, .int 0, .int 0, .int 0, .ref q45, .int 0, .null, .int 0, .null, .int 0, .int 0, .null])), (q8, .inl (c8, 512, .inl (fun _ => 0))), (q17, .inl (c8, 512, .inl (fun _ => 0))), (q25, .inl (c8, 8, .inl (fun _ => 0))), (q45, .inl (c8, 40, .inl (fun _ => 0))), (q53, .inl (c8, 20, .inl (fun _ => 0)))] H := hP
  have hD : va_D A [(h0, .inr (8, [.int 0, .ref q8, .ref q17, .ref q25, .int 0, .int 0, .int 128, .int 0, .int 0, .int 0, .int 0, .int 0, .int 0, .int 0, .ref q45, .int 0, .null, .int 0, .null, .int 0, .int 0, .null])), (q8, .inl (c8, 512, .inl (fun _ => 0))), (q17, .inl (c8, 512, .inl (fun _ => 0))), (q25, .inl (c8, 8, .inl (fun _ => 0))), (q45, .inl (c8, 40, .inl (fun _ => 0))), (q53, .inl (c8, 20, .inl (fun _ => 0)))] := hD
  refine W.widen (k := 5) (n := 1092) (by decide) (by decide) ?_
  refine va_putF (D := (dC, dI)) (ci := 8) (v := .ref q53) (ty := .array .int) (C := RXM) (T := TXM) (N := 22) hx hb hts (by decide +kernel) tyXM tyXM_ok nmXM hown hK hP hD hS 0 rfl rfl 16 (by decide) (hts (.fieldLink RXM 29 "DeskMachineModel" "line" "[I") (by decide +kernel)) (fun _ h9 => h9) rfl hin rfl (by decide +kernel) rfl rfl (Nat.le_of_ble_eq_true rfl) dXM_init_55 (fun H locs hP hD hS => ?_)
  have hP : va_P (dC, dI) x_cl [(h0, .inr (8, [.int 0, .ref q8, .ref q17, .ref q25, .int 0, .int 0, .int 128, .int 0, .int 0, .int 0, .int 0, .int 0, .int 0, .int 0, .ref q45, .int 0, .ref q53, .int 0, .null, .int 0, .int 0, .null])), (q8, .inl (c8, 512, .inl (fun _ => 0))), (q17, .inl (c8, 512, .inl (fun _ => 0))), (q25, .inl (c8, 8, .inl (fun _ => 0))), (q45, .inl (c8, 40, .inl (fun _ => 0))), (q53, .inl (c8, 20, .inl (fun _ => 0)))] H := hP
  have hD : va_D A [(h0, .inr (8, [.int 0, .ref q8, .ref q17, .ref q25, .int 0, .int 0, .int 128, .int 0, .int 0, .int 0, .int 0, .int 0, .int 0, .int 0, .ref q45, .int 0, .ref q53, .int 0, .null, .int 0, .int 0, .null])), (q8, .inl (c8, 512, .inl (fun _ => 0))), (q17, .inl (c8, 512, .inl (fun _ => 0))), (q25, .inl (c8, 8, .inl (fun _ => 0))), (q45, .inl (c8, 40, .inl (fun _ => 0))), (q53, .inl (c8, 20, .inl (fun _ => 0)))] := hD
  refine lv_aload_n hx hb dXM_init_58 rfl (lv_at hl 0 rfl) ?_
  refine lv_bipush (v := 64) hx hb dXM_init_59 (by decide) ?_
  refine x_newI 64 (by decide) (by decide) hx hb (hts (.arrayClass .int) (by decide +kernel)) hK hP hD hS hA (Nat.le_of_ble_eq_true rfl) (Nat.le_of_ble_eq_true rfl) dXM_init_61 (fun q61 c61 H hK hP hD hS => ?_)
  have e9 : c61 = c8 := Option.some.inj ((hK.2 1 _ rfl).2.symm.trans (hK.2 0 _ rfl).2)
  rw [e9] at hK hP hD
  have hK : va_K (dC, dI) x_cl [(c8, .int)] s := hK.sub [0] rfl
  have hP : va_P (dC, dI) x_cl [(h0, .inr (8, [.int 0, .ref q8, .ref q17, .ref q25, .int 0, .int 0, .int 128, .int 0, .int 0, .int 0, .int 0, .int 0, .int 0, .int 0, .ref q45, .int 0, .ref q53, .int 0, .null, .int 0, .int 0, .null])), (q8, .inl (c8, 512, .inl (fun _ => 0))), (q17, .inl (c8, 512, .inl (fun _ => 0))), (q25, .inl (c8, 8, .inl (fun _ => 0))), (q45, .inl (c8, 40, .inl (fun _ => 0))), (q53, .inl (c8, 20, .inl (fun _ => 0))), (q61, .inl (c8, 64, .inl (fun _ => 0)))] H := hP
  have hD : va_D A [(h0, .inr (8, [.int 0, .ref q8, .ref q17, .ref q25, .int 0, .int 0, .int 128, .int 0, .int 0, .int 0, .int 0, .int 0, .int 0, .int 0, .ref q45, .int 0, .ref q53, .int 0, .null, .int 0, .int 0, .null])), (q8, .inl (c8, 512, .inl (fun _ => 0))), (q17, .inl (c8, 512, .inl (fun _ => 0))), (q25, .inl (c8, 8, .inl (fun _ => 0))), (q45, .inl (c8, 40, .inl (fun _ => 0))), (q53, .inl (c8, 20, .inl (fun _ => 0))), (q61, .inl (c8, 64, .inl (fun _ => 0)))] := hD
  refine W.widen (k := 6) (n := 1156) (by decide) (by decide) ?_
  refine va_putF (D := (dC, dI)) (ci := 8) (v := .ref q61) (ty := .array .int) (C := RXM) (T := TXM) (N := 22) hx hb hts (by decide +kernel) tyXM tyXM_ok nmXM hown hK hP hD hS 0 rfl rfl 18 (by decide) (hts (.fieldLink RXM 32 "DeskMachineModel" "ring" "[I") (by decide +kernel)) (fun _ h9 => h9) rfl hin rfl (by decide +kernel) rfl rfl (Nat.le_of_ble_eq_true rfl) dXM_init_63 (fun H locs hP hD hS => ?_)
  have hP : va_P (dC, dI) x_cl [(h0, .inr (8, [.int 0, .ref q8, .ref q17, .ref q25, .int 0, .int 0, .int 128, .int 0, .int 0, .int 0, .int 0, .int 0, .int 0, .int 0, .ref q45, .int 0, .ref q53, .int 0, .ref q61, .int 0, .int 0, .null])), (q8, .inl (c8, 512, .inl (fun _ => 0))), (q17, .inl (c8, 512, .inl (fun _ => 0))), (q25, .inl (c8, 8, .inl (fun _ => 0))), (q45, .inl (c8, 40, .inl (fun _ => 0))), (q53, .inl (c8, 20, .inl (fun _ => 0))), (q61, .inl (c8, 64, .inl (fun _ => 0)))] H := hP
  have hD : va_D A [(h0, .inr (8, [.int 0, .ref q8, .ref q17, .ref q25, .int 0, .int 0, .int 128, .int 0, .int 0, .int 0, .int 0, .int 0, .int 0, .int 0, .ref q45, .int 0, .ref q53, .int 0, .ref q61, .int 0, .int 0, .null])), (q8, .inl (c8, 512, .inl (fun _ => 0))), (q17, .inl (c8, 512, .inl (fun _ => 0))), (q25, .inl (c8, 8, .inl (fun _ => 0))), (q45, .inl (c8, 40, .inl (fun _ => 0))), (q53, .inl (c8, 20, .inl (fun _ => 0))), (q61, .inl (c8, 64, .inl (fun _ => 0)))] := hD
  refine lv_aload_n hx hb dXM_init_66 rfl (lv_at hl 0 rfl) ?_
  refine lv_iconst (v := (-1)) hx hb dXM_init_67 (by decide) ?_
  refine va_put (D := (dC, dI)) (ci := 8) (v := .int (-1)) (ty := .int) (C := RXM) (T := TXM) (N := 22) hx hb hts (by decide +kernel) tyXM tyXM_ok nmXM hown hK hP hD hS 0 rfl rfl 20 (by decide) (hts (.fieldLink RXM 35 "DeskMachineModel" "last" "I") (by decide +kernel)) (fun _ h9 => h9) rfl (by decide +kernel) rfl rfl (Nat.le_of_ble_eq_true rfl) dXM_init_68 (fun H locs hP hD hS => ?_)
  have hP : va_P (dC, dI) x_cl [(h0, .inr (8, [.int 0, .ref q8, .ref q17, .ref q25, .int 0, .int 0, .int 128, .int 0, .int 0, .int 0, .int 0, .int 0, .int 0, .int 0, .ref q45, .int 0, .ref q53, .int 0, .ref q61, .int 0, .int (-1), .null])), (q8, .inl (c8, 512, .inl (fun _ => 0))), (q17, .inl (c8, 512, .inl (fun _ => 0))), (q25, .inl (c8, 8, .inl (fun _ => 0))), (q45, .inl (c8, 40, .inl (fun _ => 0))), (q53, .inl (c8, 20, .inl (fun _ => 0))), (q61, .inl (c8, 64, .inl (fun _ => 0)))] H := hP
  have hD : va_D A [(h0, .inr (8, [.int 0, .ref q8, .ref q17, .ref q25, .int 0, .int 0, .int 128, .int 0, .int 0, .int 0, .int 0, .int 0, .int 0, .int 0, .ref q45, .int 0, .ref q53, .int 0, .ref q61, .int 0, .int (-1), .null])), (q8, .inl (c8, 512, .inl (fun _ => 0))), (q17, .inl (c8, 512, .inl (fun _ => 0))), (q25, .inl (c8, 8, .inl (fun _ => 0))), (q45, .inl (c8, 40, .inl (fun _ => 0))), (q53, .inl (c8, 20, .inl (fun _ => 0))), (q61, .inl (c8, 64, .inl (fun _ => 0)))] := hD
  refine lv_aload_n hx hb dXM_init_71 rfl (lv_at hl 0 rfl) ?_
  refine lv_iconst (v := 4) hx hb dXM_init_72 (by decide) ?_
  refine x_newI 4 (by decide) (by decide) hx hb (hts (.arrayClass .int) (by decide +kernel)) hK hP hD hS hA (Nat.le_of_ble_eq_true rfl) (Nat.le_of_ble_eq_true rfl) dXM_init_73 (fun q73 c73 H hK hP hD hS => ?_)
  have e9 : c73 = c8 := Option.some.inj ((hK.2 1 _ rfl).2.symm.trans (hK.2 0 _ rfl).2)
  rw [e9] at hK hP hD
  have hK : va_K (dC, dI) x_cl [(c8, .int)] s := hK.sub [0] rfl
  have hP : va_P (dC, dI) x_cl [(h0, .inr (8, [.int 0, .ref q8, .ref q17, .ref q25, .int 0, .int 0, .int 128, .int 0, .int 0, .int 0, .int 0, .int 0, .int 0, .int 0, .ref q45, .int 0, .ref q53, .int 0, .ref q61, .int 0, .int (-1), .null])), (q8, .inl (c8, 512, .inl (fun _ => 0))), (q17, .inl (c8, 512, .inl (fun _ => 0))), (q25, .inl (c8, 8, .inl (fun _ => 0))), (q45, .inl (c8, 40, .inl (fun _ => 0))), (q53, .inl (c8, 20, .inl (fun _ => 0))), (q61, .inl (c8, 64, .inl (fun _ => 0))), (q73, .inl (c8, 4, .inl (fun _ => 0)))] H := hP
  have hD : va_D A [(h0, .inr (8, [.int 0, .ref q8, .ref q17, .ref q25, .int 0, .int 0, .int 128, .int 0, .int 0, .int 0, .int 0, .int 0, .int 0, .int 0, .ref q45, .int 0, .ref q53, .int 0, .ref q61, .int 0, .int (-1), .null])), (q8, .inl (c8, 512, .inl (fun _ => 0))), (q17, .inl (c8, 512, .inl (fun _ => 0))), (q25, .inl (c8, 8, .inl (fun _ => 0))), (q45, .inl (c8, 40, .inl (fun _ => 0))), (q53, .inl (c8, 20, .inl (fun _ => 0))), (q61, .inl (c8, 64, .inl (fun _ => 0))), (q73, .inl (c8, 4, .inl (fun _ => 0)))] := hD
  refine W.widen (k := 7) (n := 1160) (by decide) (by decide) ?_
  refine va_putF (D := (dC, dI)) (ci := 8) (v := .ref q73) (ty := .array .int) (C := RXM) (T := TXM) (N := 22) hx hb hts (by decide +kernel) tyXM tyXM_ok nmXM hown hK hP hD hS 0 rfl rfl 21 (by decide) (hts (.fieldLink RXM 38 "DeskMachineModel" "name" "[I") (by decide +kernel)) (fun _ h9 => h9) rfl hin rfl (by decide +kernel) rfl rfl (Nat.le_of_ble_eq_true rfl) dXM_init_75 (fun H locs hP hD hS => ?_)
  have hP : va_P (dC, dI) x_cl [(h0, .inr (8, [.int 0, .ref q8, .ref q17, .ref q25, .int 0, .int 0, .int 128, .int 0, .int 0, .int 0, .int 0, .int 0, .int 0, .int 0, .ref q45, .int 0, .ref q53, .int 0, .ref q61, .int 0, .int (-1), .ref q73])), (q8, .inl (c8, 512, .inl (fun _ => 0))), (q17, .inl (c8, 512, .inl (fun _ => 0))), (q25, .inl (c8, 8, .inl (fun _ => 0))), (q45, .inl (c8, 40, .inl (fun _ => 0))), (q53, .inl (c8, 20, .inl (fun _ => 0))), (q61, .inl (c8, 64, .inl (fun _ => 0))), (q73, .inl (c8, 4, .inl (fun _ => 0)))] H := hP
  have hD : va_D A [(h0, .inr (8, [.int 0, .ref q8, .ref q17, .ref q25, .int 0, .int 0, .int 128, .int 0, .int 0, .int 0, .int 0, .int 0, .int 0, .int 0, .ref q45, .int 0, .ref q53, .int 0, .ref q61, .int 0, .int (-1), .ref q73])), (q8, .inl (c8, 512, .inl (fun _ => 0))), (q17, .inl (c8, 512, .inl (fun _ => 0))), (q25, .inl (c8, 8, .inl (fun _ => 0))), (q45, .inl (c8, 40, .inl (fun _ => 0))), (q53, .inl (c8, 20, .inl (fun _ => 0))), (q61, .inl (c8, 64, .inl (fun _ => 0))), (q73, .inl (c8, 4, .inl (fun _ => 0)))] := hD
  refine lv_iconst (v := 0) hx hb dXM_init_78 (by decide) ?_
  refine lv_istore_n (nL := 2) hx hb dXM_init_79 rfl hl (by decide) rfl (fun ls hl => ?_)
  have hl : lv_has ls 2 [(1, .int 0), (0, .ref h0)] := hl
  refine lv_iload_n hx hb dXM_init_80 rfl (lv_at hl 0 rfl) ?_
  refine lv_bipush (v := 8) hx hb dXM_init_81 (by decide) ?_
  refine lv_icmp_ge (tgt := 104) hx hb dXM_init_83 (by decide) (fun h9 => absurd h9 (by decide)) (fun _ => ?_)
  refine lv_aload_n hx hb dXM_init_86 rfl (lv_at hl 1 rfl) ?_
  refine va_get (D := (dC, dI)) (ci := 8) (v := .ref q17) (C := RXM) (T := TXM) (N := 22) hx hb hts (by decide +kernel) hown hK hP 0 rfl rfl 2 (by decide) (hts (.fieldLink RXM 13 "DeskMachineModel" "disk" "[I") (by decide +kernel)) (fun _ h9 => h9) rfl dXM_init_87 ?_
  refine lv_bipush (v := 16) hx hb dXM_init_90 (by decide) ?_
  refine lv_iload_n hx hb dXM_init_92 rfl (lv_at hl 0 rfl) ?_
  refine lv_imul hx hb dXM_init_93 ?_
  refine lv_topi (fun x9 e9 => ?_)
  have e9 : x9 = nI 0 := e9.trans (by decide)
  subst e9
  refine lv_sipush (v := 229) hx hb dXM_init_94 (by decide) ?_
  refine va_iast hx hb hK hP hD hS 2 0 rfl rfl (vp_in_nI (by decide) (by decide)) dXM_init_97 (fun H locs hP hD hS => ?_)
  rw [nI_clamp (n := 0) (by decide)] at hP hD
  have hP : va_P (dC, dI) x_cl [(h0, .inr (8, [.int 0, .ref q8, .ref q17, .ref q25, .int 0, .int 0, .int 128, .int 0, .int 0, .int 0, .int 0, .int 0, .int 0, .int 0, .ref q45, .int 0, .ref q53, .int 0, .ref q61, .int 0, .int (-1), .ref q73])), (q8, .inl (c8, 512, .inl (fun _ => 0))), (q17, .inl (c8, 512, .inl (upd (fun _ => 0) 0 229))), (q25, .inl (c8, 8, .inl (fun _ => 0))), (q45, .inl (c8, 40, .inl (fun _ => 0))), (q53, .inl (c8, 20, .inl (fun _ => 0))), (q61, .inl (c8, 64, .inl (fun _ => 0))), (q73, .inl (c8, 4, .inl (fun _ => 0)))] H := hP
  have hD : va_D A [(h0, .inr (8, [.int 0, .ref q8, .ref q17, .ref q25, .int 0, .int 0, .int 128, .int 0, .int 0, .int 0, .int 0, .int 0, .int 0, .int 0, .ref q45, .int 0, .ref q53, .int 0, .ref q61, .int 0, .int (-1), .ref q73])), (q8, .inl (c8, 512, .inl (fun _ => 0))), (q17, .inl (c8, 512, .inl (upd (fun _ => 0) 0 229))), (q25, .inl (c8, 8, .inl (fun _ => 0))), (q45, .inl (c8, 40, .inl (fun _ => 0))), (q53, .inl (c8, 20, .inl (fun _ => 0))), (q61, .inl (c8, 64, .inl (fun _ => 0))), (q73, .inl (c8, 4, .inl (fun _ => 0)))] := hD
  refine lv_iinc (v := 1) (k := 0) hx hb dXM_init_98 hl rfl (by decide) (by decide) rfl (fun ls hl => ?_)
  have hl : lv_has ls 2 [(1, .int 1), (0, .ref h0)] := hl
  refine lv_goto (tgt := 80) hx hb dXM_init_101 (by decide) ?_
  refine lv_iload_n hx hb dXM_init_80 rfl (lv_at hl 0 rfl) ?_
  refine lv_bipush (v := 8) hx hb dXM_init_81 (by decide) ?_
  refine lv_icmp_ge (tgt := 104) hx hb dXM_init_83 (by decide) (fun h9 => absurd h9 (by decide)) (fun _ => ?_)
  refine lv_aload_n hx hb dXM_init_86 rfl (lv_at hl 1 rfl) ?_
  refine va_get (D := (dC, dI)) (ci := 8) (v := .ref q17) (C := RXM) (T := TXM) (N := 22) hx hb hts (by decide +kernel) hown hK hP 0 rfl rfl 2 (by decide) (hts (.fieldLink RXM 13 "DeskMachineModel" "disk" "[I") (by decide +kernel)) (fun _ h9 => h9) rfl dXM_init_87 ?_
  refine lv_bipush (v := 16) hx hb dXM_init_90 (by decide) ?_
  refine lv_iload_n hx hb dXM_init_92 rfl (lv_at hl 0 rfl) ?_
  refine lv_imul hx hb dXM_init_93 ?_
  refine lv_topi (fun x9 e9 => ?_)
  have e9 : x9 = nI 16 := e9.trans (by decide)
  subst e9
  refine lv_sipush (v := 229) hx hb dXM_init_94 (by decide) ?_
  refine va_iast hx hb hK hP hD hS 2 0 rfl rfl (vp_in_nI (by decide) (by decide)) dXM_init_97 (fun H locs hP hD hS => ?_)
  rw [nI_clamp (n := 16) (by decide)] at hP hD
  have hP : va_P (dC, dI) x_cl [(h0, .inr (8, [.int 0, .ref q8, .ref q17, .ref q25, .int 0, .int 0, .int 128, .int 0, .int 0, .int 0, .int 0, .int 0, .int 0, .int 0, .ref q45, .int 0, .ref q53, .int 0, .ref q61, .int 0, .int (-1), .ref q73])), (q8, .inl (c8, 512, .inl (fun _ => 0))), (q17, .inl (c8, 512, .inl (upd (upd (fun _ => 0) 0 229) 16 229))), (q25, .inl (c8, 8, .inl (fun _ => 0))), (q45, .inl (c8, 40, .inl (fun _ => 0))), (q53, .inl (c8, 20, .inl (fun _ => 0))), (q61, .inl (c8, 64, .inl (fun _ => 0))), (q73, .inl (c8, 4, .inl (fun _ => 0)))] H := hP
  have hD : va_D A [(h0, .inr (8, [.int 0, .ref q8, .ref q17, .ref q25, .int 0, .int 0, .int 128, .int 0, .int 0, .int 0, .int 0, .int 0, .int 0, .int 0, .ref q45, .int 0, .ref q53, .int 0, .ref q61, .int 0, .int (-1), .ref q73])), (q8, .inl (c8, 512, .inl (fun _ => 0))), (q17, .inl (c8, 512, .inl (upd (upd (fun _ => 0) 0 229) 16 229))), (q25, .inl (c8, 8, .inl (fun _ => 0))), (q45, .inl (c8, 40, .inl (fun _ => 0))), (q53, .inl (c8, 20, .inl (fun _ => 0))), (q61, .inl (c8, 64, .inl (fun _ => 0))), (q73, .inl (c8, 4, .inl (fun _ => 0)))] := hD
  refine lv_iinc (v := 2) (k := 0) hx hb dXM_init_98 hl rfl (by decide) (by decide) rfl (fun ls hl => ?_)
  have hl : lv_has ls 2 [(1, .int 2), (0, .ref h0)] := hl
  refine lv_goto (tgt := 80) hx hb dXM_init_101 (by decide) ?_
  refine lv_iload_n hx hb dXM_init_80 rfl (lv_at hl 0 rfl) ?_
  refine lv_bipush (v := 8) hx hb dXM_init_81 (by decide) ?_
  refine lv_icmp_ge (tgt := 104) hx hb dXM_init_83 (by decide) (fun h9 => absurd h9 (by decide)) (fun _ => ?_)
  refine lv_aload_n hx hb dXM_init_86 rfl (lv_at hl 1 rfl) ?_
  refine va_get (D := (dC, dI)) (ci := 8) (v := .ref q17) (C := RXM) (T := TXM) (N := 22) hx hb hts (by decide +kernel) hown hK hP 0 rfl rfl 2 (by decide) (hts (.fieldLink RXM 13 "DeskMachineModel" "disk" "[I") (by decide +kernel)) (fun _ h9 => h9) rfl dXM_init_87 ?_
  refine lv_bipush (v := 16) hx hb dXM_init_90 (by decide) ?_
  refine lv_iload_n hx hb dXM_init_92 rfl (lv_at hl 0 rfl) ?_
  refine lv_imul hx hb dXM_init_93 ?_
  refine lv_topi (fun x9 e9 => ?_)
  have e9 : x9 = nI 32 := e9.trans (by decide)
  subst e9
  refine lv_sipush (v := 229) hx hb dXM_init_94 (by decide) ?_
  refine va_iast hx hb hK hP hD hS 2 0 rfl rfl (vp_in_nI (by decide) (by decide)) dXM_init_97 (fun H locs hP hD hS => ?_)
  rw [nI_clamp (n := 32) (by decide)] at hP hD
  have hP : va_P (dC, dI) x_cl [(h0, .inr (8, [.int 0, .ref q8, .ref q17, .ref q25, .int 0, .int 0, .int 128, .int 0, .int 0, .int 0, .int 0, .int 0, .int 0, .int 0, .ref q45, .int 0, .ref q53, .int 0, .ref q61, .int 0, .int (-1), .ref q73])), (q8, .inl (c8, 512, .inl (fun _ => 0))), (q17, .inl (c8, 512, .inl (upd (upd (upd (fun _ => 0) 0 229) 16 229) 32 229))), (q25, .inl (c8, 8, .inl (fun _ => 0))), (q45, .inl (c8, 40, .inl (fun _ => 0))), (q53, .inl (c8, 20, .inl (fun _ => 0))), (q61, .inl (c8, 64, .inl (fun _ => 0))), (q73, .inl (c8, 4, .inl (fun _ => 0)))] H := hP
  have hD : va_D A [(h0, .inr (8, [.int 0, .ref q8, .ref q17, .ref q25, .int 0, .int 0, .int 128, .int 0, .int 0, .int 0, .int 0, .int 0, .int 0, .int 0, .ref q45, .int 0, .ref q53, .int 0, .ref q61, .int 0, .int (-1), .ref q73])), (q8, .inl (c8, 512, .inl (fun _ => 0))), (q17, .inl (c8, 512, .inl (upd (upd (upd (fun _ => 0) 0 229) 16 229) 32 229))), (q25, .inl (c8, 8, .inl (fun _ => 0))), (q45, .inl (c8, 40, .inl (fun _ => 0))), (q53, .inl (c8, 20, .inl (fun _ => 0))), (q61, .inl (c8, 64, .inl (fun _ => 0))), (q73, .inl (c8, 4, .inl (fun _ => 0)))] := hD
  refine lv_iinc (v := 3) (k := 0) hx hb dXM_init_98 hl rfl (by decide) (by decide) rfl (fun ls hl => ?_)
  have hl : lv_has ls 2 [(1, .int 3), (0, .ref h0)] := hl
  refine lv_goto (tgt := 80) hx hb dXM_init_101 (by decide) ?_
  refine lv_iload_n hx hb dXM_init_80 rfl (lv_at hl 0 rfl) ?_
  refine lv_bipush (v := 8) hx hb dXM_init_81 (by decide) ?_
  refine lv_icmp_ge (tgt := 104) hx hb dXM_init_83 (by decide) (fun h9 => absurd h9 (by decide)) (fun _ => ?_)
  refine lv_aload_n hx hb dXM_init_86 rfl (lv_at hl 1 rfl) ?_
  refine va_get (D := (dC, dI)) (ci := 8) (v := .ref q17) (C := RXM) (T := TXM) (N := 22) hx hb hts (by decide +kernel) hown hK hP 0 rfl rfl 2 (by decide) (hts (.fieldLink RXM 13 "DeskMachineModel" "disk" "[I") (by decide +kernel)) (fun _ h9 => h9) rfl dXM_init_87 ?_
  refine lv_bipush (v := 16) hx hb dXM_init_90 (by decide) ?_
  refine lv_iload_n hx hb dXM_init_92 rfl (lv_at hl 0 rfl) ?_
  refine lv_imul hx hb dXM_init_93 ?_
  refine lv_topi (fun x9 e9 => ?_)
  have e9 : x9 = nI 48 := e9.trans (by decide)
  subst e9
  refine lv_sipush (v := 229) hx hb dXM_init_94 (by decide) ?_
  refine va_iast hx hb hK hP hD hS 2 0 rfl rfl (vp_in_nI (by decide) (by decide)) dXM_init_97 (fun H locs hP hD hS => ?_)
  rw [nI_clamp (n := 48) (by decide)] at hP hD
  have hP : va_P (dC, dI) x_cl [(h0, .inr (8, [.int 0, .ref q8, .ref q17, .ref q25, .int 0, .int 0, .int 128, .int 0, .int 0, .int 0, .int 0, .int 0, .int 0, .int 0, .ref q45, .int 0, .ref q53, .int 0, .ref q61, .int 0, .int (-1), .ref q73])), (q8, .inl (c8, 512, .inl (fun _ => 0))), (q17, .inl (c8, 512, .inl (upd (upd (upd (upd (fun _ => 0) 0 229) 16 229) 32 229) 48 229))), (q25, .inl (c8, 8, .inl (fun _ => 0))), (q45, .inl (c8, 40, .inl (fun _ => 0))), (q53, .inl (c8, 20, .inl (fun _ => 0))), (q61, .inl (c8, 64, .inl (fun _ => 0))), (q73, .inl (c8, 4, .inl (fun _ => 0)))] H := hP
  have hD : va_D A [(h0, .inr (8, [.int 0, .ref q8, .ref q17, .ref q25, .int 0, .int 0, .int 128, .int 0, .int 0, .int 0, .int 0, .int 0, .int 0, .int 0, .ref q45, .int 0, .ref q53, .int 0, .ref q61, .int 0, .int (-1), .ref q73])), (q8, .inl (c8, 512, .inl (fun _ => 0))), (q17, .inl (c8, 512, .inl (upd (upd (upd (upd (fun _ => 0) 0 229) 16 229) 32 229) 48 229))), (q25, .inl (c8, 8, .inl (fun _ => 0))), (q45, .inl (c8, 40, .inl (fun _ => 0))), (q53, .inl (c8, 20, .inl (fun _ => 0))), (q61, .inl (c8, 64, .inl (fun _ => 0))), (q73, .inl (c8, 4, .inl (fun _ => 0)))] := hD
  refine lv_iinc (v := 4) (k := 0) hx hb dXM_init_98 hl rfl (by decide) (by decide) rfl (fun ls hl => ?_)
  have hl : lv_has ls 2 [(1, .int 4), (0, .ref h0)] := hl
  refine lv_goto (tgt := 80) hx hb dXM_init_101 (by decide) ?_
  refine lv_iload_n hx hb dXM_init_80 rfl (lv_at hl 0 rfl) ?_
  refine lv_bipush (v := 8) hx hb dXM_init_81 (by decide) ?_
  refine lv_icmp_ge (tgt := 104) hx hb dXM_init_83 (by decide) (fun h9 => absurd h9 (by decide)) (fun _ => ?_)
  refine lv_aload_n hx hb dXM_init_86 rfl (lv_at hl 1 rfl) ?_
  refine va_get (D := (dC, dI)) (ci := 8) (v := .ref q17) (C := RXM) (T := TXM) (N := 22) hx hb hts (by decide +kernel) hown hK hP 0 rfl rfl 2 (by decide) (hts (.fieldLink RXM 13 "DeskMachineModel" "disk" "[I") (by decide +kernel)) (fun _ h9 => h9) rfl dXM_init_87 ?_
  refine lv_bipush (v := 16) hx hb dXM_init_90 (by decide) ?_
  refine lv_iload_n hx hb dXM_init_92 rfl (lv_at hl 0 rfl) ?_
  refine lv_imul hx hb dXM_init_93 ?_
  refine lv_topi (fun x9 e9 => ?_)
  have e9 : x9 = nI 64 := e9.trans (by decide)
  subst e9
  refine lv_sipush (v := 229) hx hb dXM_init_94 (by decide) ?_
  refine va_iast hx hb hK hP hD hS 2 0 rfl rfl (vp_in_nI (by decide) (by decide)) dXM_init_97 (fun H locs hP hD hS => ?_)
  rw [nI_clamp (n := 64) (by decide)] at hP hD
  have hP : va_P (dC, dI) x_cl [(h0, .inr (8, [.int 0, .ref q8, .ref q17, .ref q25, .int 0, .int 0, .int 128, .int 0, .int 0, .int 0, .int 0, .int 0, .int 0, .int 0, .ref q45, .int 0, .ref q53, .int 0, .ref q61, .int 0, .int (-1), .ref q73])), (q8, .inl (c8, 512, .inl (fun _ => 0))), (q17, .inl (c8, 512, .inl (upd (upd (upd (upd (upd (fun _ => 0) 0 229) 16 229) 32 229) 48 229) 64 229))), (q25, .inl (c8, 8, .inl (fun _ => 0))), (q45, .inl (c8, 40, .inl (fun _ => 0))), (q53, .inl (c8, 20, .inl (fun _ => 0))), (q61, .inl (c8, 64, .inl (fun _ => 0))), (q73, .inl (c8, 4, .inl (fun _ => 0)))] H := hP
  have hD : va_D A [(h0, .inr (8, [.int 0, .ref q8, .ref q17, .ref q25, .int 0, .int 0, .int 128, .int 0, .int 0, .int 0, .int 0, .int 0, .int 0, .int 0, .ref q45, .int 0, .ref q53, .int 0, .ref q61, .int 0, .int (-1), .ref q73])), (q8, .inl (c8, 512, .inl (fun _ => 0))), (q17, .inl (c8, 512, .inl (upd (upd (upd (upd (upd (fun _ => 0) 0 229) 16 229) 32 229) 48 229) 64 229))), (q25, .inl (c8, 8, .inl (fun _ => 0))), (q45, .inl (c8, 40, .inl (fun _ => 0))), (q53, .inl (c8, 20, .inl (fun _ => 0))), (q61, .inl (c8, 64, .inl (fun _ => 0))), (q73, .inl (c8, 4, .inl (fun _ => 0)))] := hD
  refine lv_iinc (v := 5) (k := 0) hx hb dXM_init_98 hl rfl (by decide) (by decide) rfl (fun ls hl => ?_)
  have hl : lv_has ls 2 [(1, .int 5), (0, .ref h0)] := hl
  refine lv_goto (tgt := 80) hx hb dXM_init_101 (by decide) ?_
  refine lv_iload_n hx hb dXM_init_80 rfl (lv_at hl 0 rfl) ?_
  refine lv_bipush (v := 8) hx hb dXM_init_81 (by decide) ?_
  refine lv_icmp_ge (tgt := 104) hx hb dXM_init_83 (by decide) (fun h9 => absurd h9 (by decide)) (fun _ => ?_)
  refine lv_aload_n hx hb dXM_init_86 rfl (lv_at hl 1 rfl) ?_
  refine va_get (D := (dC, dI)) (ci := 8) (v := .ref q17) (C := RXM) (T := TXM) (N := 22) hx hb hts (by decide +kernel) hown hK hP 0 rfl rfl 2 (by decide) (hts (.fieldLink RXM 13 "DeskMachineModel" "disk" "[I") (by decide +kernel)) (fun _ h9 => h9) rfl dXM_init_87 ?_
  refine lv_bipush (v := 16) hx hb dXM_init_90 (by decide) ?_
  refine lv_iload_n hx hb dXM_init_92 rfl (lv_at hl 0 rfl) ?_
  refine lv_imul hx hb dXM_init_93 ?_
  refine lv_topi (fun x9 e9 => ?_)
  have e9 : x9 = nI 80 := e9.trans (by decide)
  subst e9
  refine lv_sipush (v := 229) hx hb dXM_init_94 (by decide) ?_
  refine va_iast hx hb hK hP hD hS 2 0 rfl rfl (vp_in_nI (by decide) (by decide)) dXM_init_97 (fun H locs hP hD hS => ?_)
  rw [nI_clamp (n := 80) (by decide)] at hP hD
  have hP : va_P (dC, dI) x_cl [(h0, .inr (8, [.int 0, .ref q8, .ref q17, .ref q25, .int 0, .int 0, .int 128, .int 0, .int 0, .int 0, .int 0, .int 0, .int 0, .int 0, .ref q45, .int 0, .ref q53, .int 0, .ref q61, .int 0, .int (-1), .ref q73])), (q8, .inl (c8, 512, .inl (fun _ => 0))), (q17, .inl (c8, 512, .inl (upd (upd (upd (upd (upd (upd (fun _ => 0) 0 229) 16 229) 32 229) 48 229) 64 229) 80 229))), (q25, .inl (c8, 8, .inl (fun _ => 0))), (q45, .inl (c8, 40, .inl (fun _ => 0))), (q53, .inl (c8, 20, .inl (fun _ => 0))), (q61, .inl (c8, 64, .inl (fun _ => 0))), (q73, .inl (c8, 4, .inl (fun _ => 0)))] H := hP
  have hD : va_D A [(h0, .inr (8, [.int 0, .ref q8, .ref q17, .ref q25, .int 0, .int 0, .int 128, .int 0, .int 0, .int 0, .int 0, .int 0, .int 0, .int 0, .ref q45, .int 0, .ref q53, .int 0, .ref q61, .int 0, .int (-1), .ref q73])), (q8, .inl (c8, 512, .inl (fun _ => 0))), (q17, .inl (c8, 512, .inl (upd (upd (upd (upd (upd (upd (fun _ => 0) 0 229) 16 229) 32 229) 48 229) 64 229) 80 229))), (q25, .inl (c8, 8, .inl (fun _ => 0))), (q45, .inl (c8, 40, .inl (fun _ => 0))), (q53, .inl (c8, 20, .inl (fun _ => 0))), (q61, .inl (c8, 64, .inl (fun _ => 0))), (q73, .inl (c8, 4, .inl (fun _ => 0)))] := hD
  refine lv_iinc (v := 6) (k := 0) hx hb dXM_init_98 hl rfl (by decide) (by decide) rfl (fun ls hl => ?_)
  have hl : lv_has ls 2 [(1, .int 6), (0, .ref h0)] := hl
  refine lv_goto (tgt := 80) hx hb dXM_init_101 (by decide) ?_
  refine lv_iload_n hx hb dXM_init_80 rfl (lv_at hl 0 rfl) ?_
  refine lv_bipush (v := 8) hx hb dXM_init_81 (by decide) ?_
  refine lv_icmp_ge (tgt := 104) hx hb dXM_init_83 (by decide) (fun h9 => absurd h9 (by decide)) (fun _ => ?_)
  refine lv_aload_n hx hb dXM_init_86 rfl (lv_at hl 1 rfl) ?_
  refine va_get (D := (dC, dI)) (ci := 8) (v := .ref q17) (C := RXM) (T := TXM) (N := 22) hx hb hts (by decide +kernel) hown hK hP 0 rfl rfl 2 (by decide) (hts (.fieldLink RXM 13 "DeskMachineModel" "disk" "[I") (by decide +kernel)) (fun _ h9 => h9) rfl dXM_init_87 ?_
  refine lv_bipush (v := 16) hx hb dXM_init_90 (by decide) ?_
  refine lv_iload_n hx hb dXM_init_92 rfl (lv_at hl 0 rfl) ?_
  refine lv_imul hx hb dXM_init_93 ?_
  refine lv_topi (fun x9 e9 => ?_)
  have e9 : x9 = nI 96 := e9.trans (by decide)
  subst e9
  refine lv_sipush (v := 229) hx hb dXM_init_94 (by decide) ?_
  refine va_iast hx hb hK hP hD hS 2 0 rfl rfl (vp_in_nI (by decide) (by decide)) dXM_init_97 (fun H locs hP hD hS => ?_)
  rw [nI_clamp (n := 96) (by decide)] at hP hD
  have hP : va_P (dC, dI) x_cl [(h0, .inr (8, [.int 0, .ref q8, .ref q17, .ref q25, .int 0, .int 0, .int 128, .int 0, .int 0, .int 0, .int 0, .int 0, .int 0, .int 0, .ref q45, .int 0, .ref q53, .int 0, .ref q61, .int 0, .int (-1), .ref q73])), (q8, .inl (c8, 512, .inl (fun _ => 0))), (q17, .inl (c8, 512, .inl (upd (upd (upd (upd (upd (upd (upd (fun _ => 0) 0 229) 16 229) 32 229) 48 229) 64 229) 80 229) 96 229))), (q25, .inl (c8, 8, .inl (fun _ => 0))), (q45, .inl (c8, 40, .inl (fun _ => 0))), (q53, .inl (c8, 20, .inl (fun _ => 0))), (q61, .inl (c8, 64, .inl (fun _ => 0))), (q73, .inl (c8, 4, .inl (fun _ => 0)))] H := hP
  have hD : va_D A [(h0, .inr (8, [.int 0, .ref q8, .ref q17, .ref q25, .int 0, .int 0, .int 128, .int 0, .int 0, .int 0, .int 0, .int 0, .int 0, .int 0, .ref q45, .int 0, .ref q53, .int 0, .ref q61, .int 0, .int (-1), .ref q73])), (q8, .inl (c8, 512, .inl (fun _ => 0))), (q17, .inl (c8, 512, .inl (upd (upd (upd (upd (upd (upd (upd (fun _ => 0) 0 229) 16 229) 32 229) 48 229) 64 229) 80 229) 96 229))), (q25, .inl (c8, 8, .inl (fun _ => 0))), (q45, .inl (c8, 40, .inl (fun _ => 0))), (q53, .inl (c8, 20, .inl (fun _ => 0))), (q61, .inl (c8, 64, .inl (fun _ => 0))), (q73, .inl (c8, 4, .inl (fun _ => 0)))] := hD
  refine lv_iinc (v := 7) (k := 0) hx hb dXM_init_98 hl rfl (by decide) (by decide) rfl (fun ls hl => ?_)
  have hl : lv_has ls 2 [(1, .int 7), (0, .ref h0)] := hl
  refine lv_goto (tgt := 80) hx hb dXM_init_101 (by decide) ?_
  refine lv_iload_n hx hb dXM_init_80 rfl (lv_at hl 0 rfl) ?_
  refine lv_bipush (v := 8) hx hb dXM_init_81 (by decide) ?_
  refine lv_icmp_ge (tgt := 104) hx hb dXM_init_83 (by decide) (fun h9 => absurd h9 (by decide)) (fun _ => ?_)
  refine lv_aload_n hx hb dXM_init_86 rfl (lv_at hl 1 rfl) ?_
  refine va_get (D := (dC, dI)) (ci := 8) (v := .ref q17) (C := RXM) (T := TXM) (N := 22) hx hb hts (by decide +kernel) hown hK hP 0 rfl rfl 2 (by decide) (hts (.fieldLink RXM 13 "DeskMachineModel" "disk" "[I") (by decide +kernel)) (fun _ h9 => h9) rfl dXM_init_87 ?_
  refine lv_bipush (v := 16) hx hb dXM_init_90 (by decide) ?_
  refine lv_iload_n hx hb dXM_init_92 rfl (lv_at hl 0 rfl) ?_
  refine lv_imul hx hb dXM_init_93 ?_
  refine lv_topi (fun x9 e9 => ?_)
  have e9 : x9 = nI 112 := e9.trans (by decide)
  subst e9
  refine lv_sipush (v := 229) hx hb dXM_init_94 (by decide) ?_
  refine va_iast hx hb hK hP hD hS 2 0 rfl rfl (vp_in_nI (by decide) (by decide)) dXM_init_97 (fun H locs hP hD hS => ?_)
  rw [nI_clamp (n := 112) (by decide)] at hP hD
  have hP : va_P (dC, dI) x_cl [(h0, .inr (8, [.int 0, .ref q8, .ref q17, .ref q25, .int 0, .int 0, .int 128, .int 0, .int 0, .int 0, .int 0, .int 0, .int 0, .int 0, .ref q45, .int 0, .ref q53, .int 0, .ref q61, .int 0, .int (-1), .ref q73])), (q8, .inl (c8, 512, .inl (fun _ => 0))), (q17, .inl (c8, 512, .inl (upd (upd (upd (upd (upd (upd (upd (upd (fun _ => 0) 0 229) 16 229) 32 229) 48 229) 64 229) 80 229) 96 229) 112 229))), (q25, .inl (c8, 8, .inl (fun _ => 0))), (q45, .inl (c8, 40, .inl (fun _ => 0))), (q53, .inl (c8, 20, .inl (fun _ => 0))), (q61, .inl (c8, 64, .inl (fun _ => 0))), (q73, .inl (c8, 4, .inl (fun _ => 0)))] H := hP
  have hD : va_D A [(h0, .inr (8, [.int 0, .ref q8, .ref q17, .ref q25, .int 0, .int 0, .int 128, .int 0, .int 0, .int 0, .int 0, .int 0, .int 0, .int 0, .ref q45, .int 0, .ref q53, .int 0, .ref q61, .int 0, .int (-1), .ref q73])), (q8, .inl (c8, 512, .inl (fun _ => 0))), (q17, .inl (c8, 512, .inl (upd (upd (upd (upd (upd (upd (upd (upd (fun _ => 0) 0 229) 16 229) 32 229) 48 229) 64 229) 80 229) 96 229) 112 229))), (q25, .inl (c8, 8, .inl (fun _ => 0))), (q45, .inl (c8, 40, .inl (fun _ => 0))), (q53, .inl (c8, 20, .inl (fun _ => 0))), (q61, .inl (c8, 64, .inl (fun _ => 0))), (q73, .inl (c8, 4, .inl (fun _ => 0)))] := hD
  refine lv_iinc (v := 8) (k := 0) hx hb dXM_init_98 hl rfl (by decide) (by decide) rfl (fun ls hl => ?_)
  have hl : lv_has ls 2 [(1, .int 8), (0, .ref h0)] := hl
  refine lv_goto (tgt := 80) hx hb dXM_init_101 (by decide) ?_
  refine lv_iload_n hx hb dXM_init_80 rfl (lv_at hl 0 rfl) ?_
  refine lv_bipush (v := 8) hx hb dXM_init_81 (by decide) ?_
  refine lv_icmp_ge (tgt := 104) hx hb dXM_init_83 (by decide) (fun _ => ?_) (fun h9 => absurd (by decide) h9)
  exact W.vret hx hb hr (fun t ht hW => ⟨⟨(), rfl, trivial, q8, q17, q25, q45, q53, q61, q73, c8, by rw [ht]; exact hP, va_K.moved hW.alike hK, hD⟩, hS.F ht⟩) hS.2.2 dXM_init_104
