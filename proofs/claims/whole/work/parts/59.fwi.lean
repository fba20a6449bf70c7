/-! firstWordIs -/
theorem lk_27 : Cond.fieldLink "DeskMachine$Desk" 27 "DeskMachine$Desk" "wordStart" "[I" ∈ x_words := List.mem_append_right _ (List.mem_flatMap.mpr ⟨x_i16, List.mem_of_getElem? (i := 16) rfl, List.mem_flatMap.mpr ⟨_, List.mem_of_getElem? (i := 1) rfl, List.mem_cons_self⟩⟩)
theorem lk_30 : Cond.fieldLink "DeskMachine$Desk" 30 "DeskMachine$Desk" "wordEnd" "[I" ∈ x_words := List.mem_append_right _ (List.mem_flatMap.mpr ⟨x_i16, List.mem_of_getElem? (i := 16) rfl, List.mem_flatMap.mpr ⟨_, List.mem_of_getElem? (i := 2) rfl, List.mem_cons_self⟩⟩)
theorem lk_23 : Cond.fieldLink "DeskMachine$Desk" 23 "DeskMachine$Desk" "line" "[I" ∈ x_words := List.mem_append_right _ (List.mem_flatMap.mpr ⟨x_i16, List.mem_of_getElem? (i := 16) rfl, List.mem_flatMap.mpr ⟨_, List.mem_of_getElem? (i := 0) rfl, List.mem_cons_self⟩⟩)
theorem x_tx_inv {o : Nat} {t : Int32 × Int32 × Int32 × Int32} (h : x_tx o = some t) : ∃ i, i < 5 ∧ o = 1000 + i ∧ t = (tx_c i 0, tx_c i 1, tx_c i 2, tx_c i 3) := by
  unfold x_tx at h
  split at h
  · cases h; exact ⟨0, by decide, rfl, rfl⟩
  · cases h; exact ⟨1, by decide, rfl, rfl⟩
  · cases h; exact ⟨2, by decide, rfl, rfl⟩
  · cases h; exact ⟨3, by decide, rfl, rfl⟩
  · cases h; exact ⟨4, by decide, rfl, rfl⟩
  · cases h
theorem x_fw_inv {as : List Value} {σ : xS} {r : xR} (h : x_fw as σ = some r) : ∃ o t, as = [.ref 14, .ref o] ∧ x_tx o = some t := by
  unfold x_fw at h
  split at h
  · rename_i o
    cases ht : x_tx o with
    | none => rw [ht] at h; cases h
    | some t => exact ⟨o, t, rfl, ht⟩
  · cases h
set_option maxHeartbeats 8000000 in
set_option maxRecDepth 100000 in
theorem f_wi {l : Launch} {D : va_G} {tys : List (ClassId × FieldType)} {A : Nat → Prop} {ad adV : Nat → Nat} {cI cZ : ClassId} {X : State → Prop} (hXX : ∀ U, X U → tx_X A ad adV U) {t1 : Nat} (ht1 : tys[t1]? = some (cI, .int)) (as : List Value) (σ : xS) (r : xR) (h : x_fw as σ = some r) : Met l (x_g x_jF).1 (x_ws (x_g x_jF)) (x_rmo (x_g x_jF)) (x_Pc D x_cl tys ad cI cZ x_sh (x_NW A ad X) as σ) (x_Qc D x_cl A ad cI cZ x_sh false r) 0 0 A := by
  obtain ⟨o, t, rfl, ht⟩ := x_fw_inv h
  obtain ⟨i, hi, rfl, rfl⟩ := x_tx_inv ht
  rw [x_fw_at ht] at h
  refine Met.ofW (cc := prog_2_method_7_code) (maxL := 4) (ret := some .boolean) (by decide) rfl ?_
  intro p e s m args below meth c s₁ B hml hv
  obtain ⟨rfl, hP, hK, hN⟩ := hv
  have hX : tx_X A ad adV s := hXX s hN.2.2.2
  have hx := B.exec
  have hb := B.bytes
  have hr := B.returns
  have hts := atoms_spec (ws := x_ws (x_g x_jF)) B.pre
  have hown : s.vm.findClass "DeskMachine$Desk" = some m.cls := findClass_of_methodNamed B.named
  have hlocks := B.notSynchronized
  have hts2 : ∀ w ∈ x_ws (x_g x_jF) ++ tx_sw, w.before ([.ref 14, .ref (1000 + i)].map (x_tv ad)).toArray s = true := fun w hw => (List.mem_append.mp hw).elim (hts w) (fun h9 => pay_in (big := tx_sw) hX.1 (fun w hw => ⟨hw, good_of_word (tx_good w hw)⟩) w h9 _ _ (State.WarmedH.refl s))
  have hw : ∀ w ∈ tx_sw, w ∈ x_ws (x_g x_jF) ++ tx_sw := fun w h9 => List.mem_append_right _ h9
  have hS : va_S A s.heap s.heap [] := va_S.rf
  have hin : ∀ w ∈ u_ws RX0 TX0 9, w ∈ x_ws (x_g x_jF) := fun w h9 => x_in_lay (c := (RX0, TX0, 9)) (List.mem_of_getElem? (i := 7) rfl) h9
  have hl := lv_entry ([.ref (ad 14), .ref (ad (1000 + i))]) (n := 4) (Nat.le_of_ble_eq_true rfl)
  rw [lg_entry_eq]
  show W p l e _ s m _ below meth c s.heap [] 0 0 _ (F0 m 0 (lg_sl ([.ref (ad 14), .ref (ad (1000 + i))]) ++ List.replicate (4 - (lg_sl ([.ref (ad 14), .ref (ad (1000 + i))])).length) Slot.unset).toArray [])
  generalize (lg_sl ([.ref (ad 14), .ref (ad (1000 + i))]) ++ List.replicate (4 - (lg_sl ([.ref (ad 14), .ref (ad (1000 + i))])).length) Slot.unset).toArray = ls at hl ⊢
  have hl : lv_has ls 4 [(0, .ref (ad 14)), (1, .ref (ad (1000 + i)))] := hl
  refine lv_aload_n hx hb (show decode prog_2_method_7_code 0 = .ok (.aload_n 0, 1) by decide +kernel) rfl (lv_at hl 0 rfl) ?_
  refine va_get (D := D) (ci := 7) (v := .ref (ad 17)) (C := RX0) (T := TX0) (N := 9) hx hb hts hin hown hK hP 14 rfl rfl 5 (by decide) (hts _ (List.mem_cons_of_mem _ lk_30)) (fun _ h9 => h9) rfl (show decode prog_2_method_7_code 1 = .ok (.getfield 30, 3) by decide +kernel) ?_
  refine lv_iconst (v := 0) hx hb (show decode prog_2_method_7_code 4 = .ok (.iconst 0, 1) by decide +kernel) (by decide) ?_
  refine va_iald hx hb hK hP 17 t1 rfl ht1 (vp_in_nI (n := 0) (N := 3) (by decide) (by decide)) (show decode prog_2_method_7_code 5 = .ok (.iaload, 1) by decide +kernel) ?_
  refine lv_topi (fun a ea => ?_)
  have ea : a = σ 17 0 := ea.trans (congrArg (σ 17) (by decide))
  refine lv_aload_n hx hb (show decode prog_2_method_7_code 6 = .ok (.aload_n 0, 1) by decide +kernel) rfl (lv_at hl 0 rfl) ?_
  refine va_get (D := D) (ci := 7) (v := .ref (ad 16)) (C := RX0) (T := TX0) (N := 9) hx hb hts hin hown hK hP 14 rfl rfl 4 (by decide) (hts _ (List.mem_cons_of_mem _ lk_27)) (fun _ h9 => h9) rfl (show decode prog_2_method_7_code 7 = .ok (.getfield 27, 3) by decide +kernel) ?_
  refine lv_iconst (v := 0) hx hb (show decode prog_2_method_7_code 10 = .ok (.iconst 0, 1) by decide +kernel) (by decide) ?_
  refine va_iald hx hb hK hP 16 t1 rfl ht1 (vp_in_nI (n := 0) (N := 3) (by decide) (by decide)) (show decode prog_2_method_7_code 11 = .ok (.iaload, 1) by decide +kernel) ?_
  refine lv_topi (fun b eb => ?_)
  have eb : b = σ 16 0 := eb.trans (congrArg (σ 16) (by decide))
  refine lv_isub hx hb (show decode prog_2_method_7_code 12 = .ok (.isub, 1) by decide +kernel) ?_
  rw [← ea, ← eb] at h
  refine lv_topi (fun z ez => ?_)
  rw [← ez] at h
  refine lv_istore_n (nL := 4) hx hb (show decode prog_2_method_7_code 13 = .ok (.istore_n 2, 1) by decide +kernel) rfl hl (by decide) rfl (fun ls hl => ?_)
  have hl : lv_has ls 4 [(2, .int z), (0, .ref (ad 14)), (1, .ref (ad (1000 + i)))] := hl
  refine lv_iload_n hx hb (show decode prog_2_method_7_code 14 = .ok (.iload_n 2, 1) by decide +kernel) rfl (lv_at hl 0 rfl) ?_
  refine lv_aload_n hx hb (show decode prog_2_method_7_code 15 = .ok (.aload_n 1, 1) by decide +kernel) rfl (lv_at hl 2 rfl) ?_
  refine tx_call (va_runV (As := []) (rest := [.int z]) (C := "java/lang/String") ⟨hx, hb, hml, hown, hts2⟩ (tS_len l hi) ⟨callB_of 0 hts2 (tx_in hw (by decide +kernel)) rfl rfl rfl (hts2 (.initialized "java/lang/String") (hw _ (by decide +kernel))) (hts2 (.methodLink "DeskMachine$Desk" 81 yS_len) (hw _ (by decide +kernel))) (by decide +kernel) ⟨Nat.le_of_ble_eq_true rfl, Nat.le_of_ble_eq_true rfl⟩, (hts2 (.instanceMethod yS_len) (hw _ (by decide +kernel))), (hts2 (.selects "java/lang/String" yS_len yS_len) (hw _ (by decide +kernel)))⟩ ⟨tx_bl, vk_recv hX.2.1 hi hS, fun U hU hW => tx_pre hX hS hU hW⟩ rfl rfl hl.1 rfl (Nat.le_of_ble_eq_true rfl) (show decode prog_2_method_7_code 16 = .ok (.invokevirtual 81, 3) by decide +kernel) ⟨Nat.le_of_ble_eq_true rfl, Nat.le_of_ble_eq_true rfl⟩) ?_
  refine lv_icmp_eq (tgt := 24) hx hb (show decode prog_2_method_7_code 19 = .ok (.if_icmp .eq 5, 3) by decide +kernel) (by decide) (fun hz => ?_) (fun hz => ?_)
  rotate_left
  · rw [if_neg hz] at h
    cases h
    refine lv_iconst (v := 0) hx hb (show decode prog_2_method_7_code 22 = .ok (.iconst 0, 1) by decide +kernel) (by decide) ?_
    exact W.zret hx hb hr (by decide +kernel) (fun t ht hW => ⟨rfl, by rw [ht]; exact hP, hS.F ht⟩) hS.2.2 (show decode prog_2_method_7_code 23 = .ok (.ireturn, 1) by decide +kernel)
  subst hz
  rw [if_pos rfl] at h
  by_cases hbb : b < 0 ∨ 16 < b
  · rw [if_pos hbb] at h
    cases h
  rw [if_neg hbb] at h
  obtain ⟨n, hn, rfl⟩ : ∃ n : Nat, n ≤ 16 ∧ b = nI n := nI_of2 (M := 16) (by decide) (fun z => hbb (Or.inl z)) (Int32.not_lt.mp (fun z => hbb (Or.inr z)))
  rw [nI_clamp (by omega)] at h
  dsimp only at h
  refine lv_iconst (v := 0) hx hb (show decode prog_2_method_7_code 24 = .ok (.iconst 0, 1) by decide +kernel) (by decide) ?_
  refine lv_istore_n (nL := 4) hx hb (show decode prog_2_method_7_code 25 = .ok (.istore_n 3, 1) by decide +kernel) rfl hl (by decide) rfl (fun ls hl => ?_)
  have hl : lv_has ls 4 [(3, .int (nI 0)), (2, .int 4), (0, .ref (ad 14)), (1, .ref (ad (1000 + i)))] := hl
  refine lv_iload_n hx hb (show decode prog_2_method_7_code 26 = .ok (.iload_n 3, 1) by decide +kernel) rfl (lv_at hl 0 rfl) ?_
  refine lv_iload_n hx hb (show decode prog_2_method_7_code 27 = .ok (.iload_n 2, 1) by decide +kernel) rfl (lv_at hl 1 rfl) ?_
  refine lv_icmp_ge (tgt := 60) hx hb (show decode prog_2_method_7_code 28 = .ok (.if_icmp .ge 32, 3) by decide +kernel) (by decide) (fun h9 => absurd h9 (by decide)) (fun _ => ?_)
  refine lv_aload_n hx hb (show decode prog_2_method_7_code 31 = .ok (.aload_n 0, 1) by decide +kernel) rfl (lv_at hl 2 rfl) ?_
  refine va_get (D := D) (ci := 7) (v := .ref (ad 15)) (C := RX0) (T := TX0) (N := 9) hx hb hts hin hown hK hP 14 rfl rfl 3 (by decide) (hts _ (List.mem_cons_of_mem _ lk_23)) (fun _ h9 => h9) rfl (show decode prog_2_method_7_code 32 = .ok (.getfield 23, 3) by decide +kernel) ?_
  refine lv_aload_n hx hb (show decode prog_2_method_7_code 35 = .ok (.aload_n 0, 1) by decide +kernel) rfl (lv_at hl 2 rfl) ?_
  refine va_get (D := D) (ci := 7) (v := .ref (ad 16)) (C := RX0) (T := TX0) (N := 9) hx hb hts hin hown hK hP 14 rfl rfl 4 (by decide) (hts _ (List.mem_cons_of_mem _ lk_27)) (fun _ h9 => h9) rfl (show decode prog_2_method_7_code 36 = .ok (.getfield 27, 3) by decide +kernel) ?_
  refine lv_iconst (v := 0) hx hb (show decode prog_2_method_7_code 39 = .ok (.iconst 0, 1) by decide +kernel) (by decide) ?_
  refine va_iald hx hb hK hP 16 t1 rfl ht1 (vp_in_nI (n := 0) (N := 3) (by decide) (by decide)) (show decode prog_2_method_7_code 40 = .ok (.iaload, 1) by decide +kernel) ?_
  refine lv_topi (fun b9 e9 => ?_)
  have e9 : b9 = nI n := (e9.trans (congrArg (σ 16) (by decide))).trans eb.symm
  subst e9
  refine lv_iload_n hx hb (show decode prog_2_method_7_code 41 = .ok (.iload_n 3, 1) by decide +kernel) rfl (lv_at hl 0 rfl) ?_
  refine lv_iadd hx hb (show decode prog_2_method_7_code 42 = .ok (.iadd, 1) by decide +kernel) ?_
  refine lv_topi (fun x9 e9 => ?_)
  have e9 : x9 = nI (n + 0) := e9.trans (nI_add n 0)
  subst e9
  refine va_iald hx hb hK hP 15 t1 rfl ht1 (vp_in_nI (by omega) (by decide)) (show decode prog_2_method_7_code 43 = .ok (.iaload, 1) by decide +kernel) ?_
  refine lv_topi (fun v0 ev0 => ?_)
  have ev0 : v0 = σ 15 (n + 0) := ev0.trans (congrArg (σ 15) (nI_clamp (by omega)))
  refine lv_aload_n hx hb (show decode prog_2_method_7_code 44 = .ok (.aload_n 1, 1) by decide +kernel) rfl (lv_at hl 3 rfl) ?_
  refine lv_iload_n hx hb (show decode prog_2_method_7_code 45 = .ok (.iload_n 3, 1) by decide +kernel) rfl (lv_at hl 0 rfl) ?_
  refine tx_call (va_runV (As := [.int (nI 0)]) (rest := [.int v0]) (C := "java/lang/String") ⟨hx, hb, hml, hown, hts2⟩ (tS_chr l hi (k := 0) (by decide)) ⟨callB_of 1 hts2 (tx_in hw (by decide +kernel)) rfl rfl rfl (hts2 (.initialized "java/lang/String") (hw _ (by decide +kernel))) (hts2 (.methodLink "DeskMachine$Desk" 85 yS_chr) (hw _ (by decide +kernel))) (by decide +kernel) ⟨Nat.le_of_ble_eq_true rfl, Nat.le_of_ble_eq_true rfl⟩, (hts2 (.instanceMethod yS_chr) (hw _ (by decide +kernel))), (hts2 (.selects "java/lang/String" yS_chr yS_chr) (hw _ (by decide +kernel)))⟩ ⟨tx_bl, vk_recv hX.2.1 hi hS, fun U hU hW => tx_pre hX hS hU hW⟩ rfl rfl hl.1 rfl (Nat.le_of_ble_eq_true rfl) (show decode prog_2_method_7_code 46 = .ok (.invokevirtual 85, 3) by decide +kernel) ⟨Nat.le_of_ble_eq_true rfl, Nat.le_of_ble_eq_true rfl⟩) ?_
  refine lv_icmp_eq (tgt := 54) hx hb (show decode prog_2_method_7_code 49 = .ok (.if_icmp .eq 5, 3) by decide +kernel) (by decide) (fun h0 => ?_) (fun h0 => ?_)
  rotate_left
  · rw [if_neg (fun y => h0 (ev0.trans y.1))] at h
    cases h
    refine lv_iconst (v := 0) hx hb (show decode prog_2_method_7_code 52 = .ok (.iconst 0, 1) by decide +kernel) (by decide) ?_
    exact W.zret hx hb hr (by decide +kernel) (fun t ht hW => ⟨rfl, by rw [ht]; exact hP, hS.F ht⟩) hS.2.2 (show decode prog_2_method_7_code 53 = .ok (.ireturn, 1) by decide +kernel)
  refine lv_iinc (v := nI 1) (k := 0) hx hb (show decode prog_2_method_7_code 54 = .ok (.iinc 3 1, 3) by decide +kernel) hl rfl (by decide) (by decide) rfl (fun ls hl => ?_)
  have hl : lv_has ls 4 [(3, .int (nI 1)), (2, .int 4), (0, .ref (ad 14)), (1, .ref (ad (1000 + i)))] := hl
  refine lv_goto (tgt := 26) hx hb (show decode prog_2_method_7_code 57 = .ok (.goto (-31), 3) by decide +kernel) (by decide) ?_
  refine lv_iload_n hx hb (show decode prog_2_method_7_code 26 = .ok (.iload_n 3, 1) by decide +kernel) rfl (lv_at hl 0 rfl) ?_
  refine lv_iload_n hx hb (show decode prog_2_method_7_code 27 = .ok (.iload_n 2, 1) by decide +kernel) rfl (lv_at hl 1 rfl) ?_
  refine lv_icmp_ge (tgt := 60) hx hb (show decode prog_2_method_7_code 28 = .ok (.if_icmp .ge 32, 3) by decide +kernel) (by decide) (fun h9 => absurd h9 (by decide)) (fun _ => ?_)
  refine lv_aload_n hx hb (show decode prog_2_method_7_code 31 = .ok (.aload_n 0, 1) by decide +kernel) rfl (lv_at hl 2 rfl) ?_
  refine va_get (D := D) (ci := 7) (v := .ref (ad 15)) (C := RX0) (T := TX0) (N := 9) hx hb hts hin hown hK hP 14 rfl rfl 3 (by decide) (hts _ (List.mem_cons_of_mem _ lk_23)) (fun _ h9 => h9) rfl (show decode prog_2_method_7_code 32 = .ok (.getfield 23, 3) by decide +kernel) ?_
  refine lv_aload_n hx hb (show decode prog_2_method_7_code 35 = .ok (.aload_n 0, 1) by decide +kernel) rfl (lv_at hl 2 rfl) ?_
  refine va_get (D := D) (ci := 7) (v := .ref (ad 16)) (C := RX0) (T := TX0) (N := 9) hx hb hts hin hown hK hP 14 rfl rfl 4 (by decide) (hts _ (List.mem_cons_of_mem _ lk_27)) (fun _ h9 => h9) rfl (show decode prog_2_method_7_code 36 = .ok (.getfield 27, 3) by decide +kernel) ?_
  refine lv_iconst (v := 0) hx hb (show decode prog_2_method_7_code 39 = .ok (.iconst 0, 1) by decide +kernel) (by decide) ?_
  refine va_iald hx hb hK hP 16 t1 rfl ht1 (vp_in_nI (n := 0) (N := 3) (by decide) (by decide)) (show decode prog_2_method_7_code 40 = .ok (.iaload, 1) by decide +kernel) ?_
  refine lv_topi (fun b9 e9 => ?_)
  have e9 : b9 = nI n := (e9.trans (congrArg (σ 16) (by decide))).trans eb.symm
  subst e9
  refine lv_iload_n hx hb (show decode prog_2_method_7_code 41 = .ok (.iload_n 3, 1) by decide +kernel) rfl (lv_at hl 0 rfl) ?_
  refine lv_iadd hx hb (show decode prog_2_method_7_code 42 = .ok (.iadd, 1) by decide +kernel) ?_
  refine lv_topi (fun x9 e9 => ?_)
  have e9 : x9 = nI (n + 1) := e9.trans (nI_add n 1)
  subst e9
  refine va_iald hx hb hK hP 15 t1 rfl ht1 (vp_in_nI (by omega) (by decide)) (show decode prog_2_method_7_code 43 = .ok (.iaload, 1) by decide +kernel) ?_
  refine lv_topi (fun v1 ev1 => ?_)
  have ev1 : v1 = σ 15 (n + 1) := ev1.trans (congrArg (σ 15) (nI_clamp (by omega)))
  refine lv_aload_n hx hb (show decode prog_2_method_7_code 44 = .ok (.aload_n 1, 1) by decide +kernel) rfl (lv_at hl 3 rfl) ?_
  refine lv_iload_n hx hb (show decode prog_2_method_7_code 45 = .ok (.iload_n 3, 1) by decide +kernel) rfl (lv_at hl 0 rfl) ?_
  refine tx_call (va_runV (As := [.int (nI 1)]) (rest := [.int v1]) (C := "java/lang/String") ⟨hx, hb, hml, hown, hts2⟩ (tS_chr l hi (k := 1) (by decide)) ⟨callB_of 1 hts2 (tx_in hw (by decide +kernel)) rfl rfl rfl (hts2 (.initialized "java/lang/String") (hw _ (by decide +kernel))) (hts2 (.methodLink "DeskMachine$Desk" 85 yS_chr) (hw _ (by decide +kernel))) (by decide +kernel) ⟨Nat.le_of_ble_eq_true rfl, Nat.le_of_ble_eq_true rfl⟩, (hts2 (.instanceMethod yS_chr) (hw _ (by decide +kernel))), (hts2 (.selects "java/lang/String" yS_chr yS_chr) (hw _ (by decide +kernel)))⟩ ⟨tx_bl, vk_recv hX.2.1 hi hS, fun U hU hW => tx_pre hX hS hU hW⟩ rfl rfl hl.1 rfl (Nat.le_of_ble_eq_true rfl) (show decode prog_2_method_7_code 46 = .ok (.invokevirtual 85, 3) by decide +kernel) ⟨Nat.le_of_ble_eq_true rfl, Nat.le_of_ble_eq_true rfl⟩) ?_
  refine lv_icmp_eq (tgt := 54) hx hb (show decode prog_2_method_7_code 49 = .ok (.if_icmp .eq 5, 3) by decide +kernel) (by decide) (fun h1 => ?_) (fun h1 => ?_)
  rotate_left
  · rw [if_neg (fun y => h1 (ev1.trans y.2.1))] at h
    cases h
    refine lv_iconst (v := 0) hx hb (show decode prog_2_method_7_code 52 = .ok (.iconst 0, 1) by decide +kernel) (by decide) ?_
    exact W.zret hx hb hr (by decide +kernel) (fun t ht hW => ⟨rfl, by rw [ht]; exact hP, hS.F ht⟩) hS.2.2 (show decode prog_2_method_7_code 53 = .ok (.ireturn, 1) by decide +kernel)
  refine lv_iinc (v := nI 2) (k := 0) hx hb (show decode prog_2_method_7_code 54 = .ok (.iinc 3 1, 3) by decide +kernel) hl rfl (by decide) (by decide) rfl (fun ls hl => ?_)
  have hl : lv_has ls 4 [(3, .int (nI 2)), (2, .int 4), (0, .ref (ad 14)), (1, .ref (ad (1000 + i)))] := hl
  refine lv_goto (tgt := 26) hx hb (show decode prog_2_method_7_code 57 = .ok (.goto (-31), 3) by decide +kernel) (by decide) ?_
  refine lv_iload_n hx hb (show decode prog_2_method_7_code 26 = .ok (.iload_n 3, 1) by decide +kernel) rfl (lv_at hl 0 rfl) ?_
  refine lv_iload_n hx hb (show decode prog_2_method_7_code 27 = .ok (.iload_n 2, 1) by decide +kernel) rfl (lv_at hl 1 rfl) ?_
  refine lv_icmp_ge (tgt := 60) hx hb (show decode prog_2_method_7_code 28 = .ok (.if_icmp .ge 32, 3) by decide +kernel) (by decide) (fun h9 => absurd h9 (by decide)) (fun _ => ?_)
  refine lv_aload_n hx hb (show decode prog_2_method_7_code 31 = .ok (.aload_n 0, 1) by decide +kernel) rfl (lv_at hl 2 rfl) ?_
  refine va_get (D := D) (ci := 7) (v := .ref (ad 15)) (C := RX0) (T := TX0) (N := 9) hx hb hts hin hown hK hP 14 rfl rfl 3 (by decide) (hts _ (List.mem_cons_of_mem _ lk_23)) (fun _ h9 => h9) rfl (show decode prog_2_method_7_code 32 = .ok (.getfield 23, 3) by decide +kernel) ?_
  refine lv_aload_n hx hb (show decode prog_2_method_7_code 35 = .ok (.aload_n 0, 1) by decide +kernel) rfl (lv_at hl 2 rfl) ?_
  refine va_get (D := D) (ci := 7) (v := .ref (ad 16)) (C := RX0) (T := TX0) (N := 9) hx hb hts hin hown hK hP 14 rfl rfl 4 (by decide) (hts _ (List.mem_cons_of_mem _ lk_27)) (fun _ h9 => h9) rfl (show decode prog_2_method_7_code 36 = .ok (.getfield 27, 3) by decide +kernel) ?_
  refine lv_iconst (v := 0) hx hb (show decode prog_2_method_7_code 39 = .ok (.iconst 0, 1) by decide +kernel) (by decide) ?_
  refine va_iald hx hb hK hP 16 t1 rfl ht1 (vp_in_nI (n := 0) (N := 3) (by decide) (by decide)) (show decode prog_2_method_7_code 40 = .ok (.iaload, 1) by decide +kernel) ?_
  refine lv_topi (fun b9 e9 => ?_)
  have e9 : b9 = nI n := (e9.trans (congrArg (σ 16) (by decide))).trans eb.symm
  subst e9
  refine lv_iload_n hx hb (show decode prog_2_method_7_code 41 = .ok (.iload_n 3, 1) by decide +kernel) rfl (lv_at hl 0 rfl) ?_
  refine lv_iadd hx hb (show decode prog_2_method_7_code 42 = .ok (.iadd, 1) by decide +kernel) ?_
  refine lv_topi (fun x9 e9 => ?_)
  have e9 : x9 = nI (n + 2) := e9.trans (nI_add n 2)
  subst e9
  refine va_iald hx hb hK hP 15 t1 rfl ht1 (vp_in_nI (by omega) (by decide)) (show decode prog_2_method_7_code 43 = .ok (.iaload, 1) by decide +kernel) ?_
  refine lv_topi (fun v2 ev2 => ?_)
  have ev2 : v2 = σ 15 (n + 2) := ev2.trans (congrArg (σ 15) (nI_clamp (by omega)))
  refine lv_aload_n hx hb (show decode prog_2_method_7_code 44 = .ok (.aload_n 1, 1) by decide +kernel) rfl (lv_at hl 3 rfl) ?_
  refine lv_iload_n hx hb (show decode prog_2_method_7_code 45 = .ok (.iload_n 3, 1) by decide +kernel) rfl (lv_at hl 0 rfl) ?_
  refine tx_call (va_runV (As := [.int (nI 2)]) (rest := [.int v2]) (C := "java/lang/String") ⟨hx, hb, hml, hown, hts2⟩ (tS_chr l hi (k := 2) (by decide)) ⟨callB_of 1 hts2 (tx_in hw (by decide +kernel)) rfl rfl rfl (hts2 (.initialized "java/lang/String") (hw _ (by decide +kernel))) (hts2 (.methodLink "DeskMachine$Desk" 85 yS_chr) (hw _ (by decide +kernel))) (by decide +kernel) ⟨Nat.le_of_ble_eq_true rfl, Nat.le_of_ble_eq_true rfl⟩, (hts2 (.instanceMethod yS_chr) (hw _ (by decide +kernel))), (hts2 (.selects "java/lang/String" yS_chr yS_chr) (hw _ (by decide +kernel)))⟩ ⟨tx_bl, vk_recv hX.2.1 hi hS, fun U hU hW => tx_pre hX hS hU hW⟩ rfl rfl hl.1 rfl (Nat.le_of_ble_eq_true rfl) (show decode prog_2_method_7_code 46 = .ok (.invokevirtual 85, 3) by decide +kernel) ⟨Nat.le_of_ble_eq_true rfl, Nat.le_of_ble_eq_true rfl⟩) ?_
  refine lv_icmp_eq (tgt := 54) hx hb (show decode prog_2_method_7_code 49 = .ok (.if_icmp .eq 5, 3) by decide +kernel) (by decide) (fun h2 => ?_) (fun h2 => ?_)
  rotate_left
  · rw [if_neg (fun y => h2 (ev2.trans y.2.2.1))] at h
    cases h
    refine lv_iconst (v := 0) hx hb (show decode prog_2_method_7_code 52 = .ok (.iconst 0, 1) by decide +kernel) (by decide) ?_
    exact W.zret hx hb hr (by decide +kernel) (fun t ht hW => ⟨rfl, by rw [ht]; exact hP, hS.F ht⟩) hS.2.2 (show decode prog_2_method_7_code 53 = .ok (.ireturn, 1) by decide +kernel)
  refine lv_iinc (v := nI 3) (k := 0) hx hb (show decode prog_2_method_7_code 54 = .ok (.iinc 3 1, 3) by decide +kernel) hl rfl (by decide) (by decide) rfl (fun ls hl => ?_)
  have hl : lv_has ls 4 [(3, .int (nI 3)), (2, .int 4), (0, .ref (ad 14)), (1, .ref (ad (1000 + i)))] := hl
  refine lv_goto (tgt := 26) hx hb (show decode prog_2_method_7_code 57 = .ok (.goto (-31), 3) by decide +kernel) (by decide) ?_
  refine lv_iload_n hx hb (show decode prog_2_method_7_code 26 = .ok (.iload_n 3, 1) by decide +kernel) rfl (lv_at hl 0 rfl) ?_
  refine lv_iload_n hx hb (show decode prog_2_method_7_code 27 = .ok (.iload_n 2, 1) by decide +kernel) rfl (lv_at hl 1 rfl) ?_
  refine lv_icmp_ge (tgt := 60) hx hb (show decode prog_2_method_7_code 28 = .ok (.if_icmp .ge 32, 3) by decide +kernel) (by decide) (fun h9 => absurd h9 (by decide)) (fun _ => ?_)
  refine lv_aload_n hx hb (show decode prog_2_method_7_code 31 = .ok (.aload_n 0, 1) by decide +kernel) rfl (lv_at hl 2 rfl) ?_
  refine va_get (D := D) (ci := 7) (v := .ref (ad 15)) (C := RX0) (T := TX0) (N := 9) hx hb hts hin hown hK hP 14 rfl rfl 3 (by decide) (hts _ (List.mem_cons_of_mem _ lk_23)) (fun _ h9 => h9) rfl (show decode prog_2_method_7_code 32 = .ok (.getfield 23, 3) by decide +kernel) ?_
  refine lv_aload_n hx hb (show decode prog_2_method_7_code 35 = .ok (.aload_n 0, 1) by decide +kernel) rfl (lv_at hl 2 rfl) ?_
  refine va_get (D := D) (ci := 7) (v := .ref (ad 16)) (C := RX0) (T := TX0) (N := 9) hx hb hts hin hown hK hP 14 rfl rfl 4 (by decide) (hts _ (List.mem_cons_of_mem _ lk_27)) (fun _ h9 => h9) rfl (show decode prog_2_method_7_code 36 = .ok (.getfield 27, 3) by decide +kernel) ?_
  refine lv_iconst (v := 0) hx hb (show decode prog_2_method_7_code 39 = .ok (.iconst 0, 1) by decide +kernel) (by decide) ?_
  refine va_iald hx hb hK hP 16 t1 rfl ht1 (vp_in_nI (n := 0) (N := 3) (by decide) (by decide)) (show decode prog_2_method_7_code 40 = .ok (.iaload, 1) by decide +kernel) ?_
  refine lv_topi (fun b9 e9 => ?_)
  have e9 : b9 = nI n := (e9.trans (congrArg (σ 16) (by decide))).trans eb.symm
  subst e9
  refine lv_iload_n hx hb (show decode prog_2_method_7_code 41 = .ok (.iload_n 3, 1) by decide +kernel) rfl (lv_at hl 0 rfl) ?_
  refine lv_iadd hx hb (show decode prog_2_method_7_code 42 = .ok (.iadd, 1) by decide +kernel) ?_
  refine lv_topi (fun x9 e9 => ?_)
  have e9 : x9 = nI (n + 3) := e9.trans (nI_add n 3)
  subst e9
  refine va_iald hx hb hK hP 15 t1 rfl ht1 (vp_in_nI (by omega) (by decide)) (show decode prog_2_method_7_code 43 = .ok (.iaload, 1) by decide +kernel) ?_
  refine lv_topi (fun v3 ev3 => ?_)
  have ev3 : v3 = σ 15 (n + 3) := ev3.trans (congrArg (σ 15) (nI_clamp (by omega)))
  refine lv_aload_n hx hb (show decode prog_2_method_7_code 44 = .ok (.aload_n 1, 1) by decide +kernel) rfl (lv_at hl 3 rfl) ?_
  refine lv_iload_n hx hb (show decode prog_2_method_7_code 45 = .ok (.iload_n 3, 1) by decide +kernel) rfl (lv_at hl 0 rfl) ?_
  refine tx_call (va_runV (As := [.int (nI 3)]) (rest := [.int v3]) (C := "java/lang/String") ⟨hx, hb, hml, hown, hts2⟩ (tS_chr l hi (k := 3) (by decide)) ⟨callB_of 1 hts2 (tx_in hw (by decide +kernel)) rfl rfl rfl (hts2 (.initialized "java/lang/String") (hw _ (by decide +kernel))) (hts2 (.methodLink "DeskMachine$Desk" 85 yS_chr) (hw _ (by decide +kernel))) (by decide +kernel) ⟨Nat.le_of_ble_eq_true rfl, Nat.le_of_ble_eq_true rfl⟩, (hts2 (.instanceMethod yS_chr) (hw _ (by decide +kernel))), (hts2 (.selects "java/lang/String" yS_chr yS_chr) (hw _ (by decide +kernel)))⟩ ⟨tx_bl, vk_recv hX.2.1 hi hS, fun U hU hW => tx_pre hX hS hU hW⟩ rfl rfl hl.1 rfl (Nat.le_of_ble_eq_true rfl) (show decode prog_2_method_7_code 46 = .ok (.invokevirtual 85, 3) by decide +kernel) ⟨Nat.le_of_ble_eq_true rfl, Nat.le_of_ble_eq_true rfl⟩) ?_
  refine lv_icmp_eq (tgt := 54) hx hb (show decode prog_2_method_7_code 49 = .ok (.if_icmp .eq 5, 3) by decide +kernel) (by decide) (fun h3 => ?_) (fun h3 => ?_)
  rotate_left
  · rw [if_neg (fun y => h3 (ev3.trans y.2.2.2))] at h
    cases h
    refine lv_iconst (v := 0) hx hb (show decode prog_2_method_7_code 52 = .ok (.iconst 0, 1) by decide +kernel) (by decide) ?_
    exact W.zret hx hb hr (by decide +kernel) (fun t ht hW => ⟨rfl, by rw [ht]; exact hP, hS.F ht⟩) hS.2.2 (show decode prog_2_method_7_code 53 = .ok (.ireturn, 1) by decide +kernel)
  refine lv_iinc (v := nI 4) (k := 0) hx hb (show decode prog_2_method_7_code 54 = .ok (.iinc 3 1, 3) by decide +kernel) hl rfl (by decide) (by decide) rfl (fun ls hl => ?_)
  have hl : lv_has ls 4 [(3, .int (nI 4)), (2, .int 4), (0, .ref (ad 14)), (1, .ref (ad (1000 + i)))] := hl
  refine lv_goto (tgt := 26) hx hb (show decode prog_2_method_7_code 57 = .ok (.goto (-31), 3) by decide +kernel) (by decide) ?_
  rw [if_pos ⟨ev0.symm.trans h0, ev1.symm.trans h1, ev2.symm.trans h2, ev3.symm.trans h3⟩] at h
  cases h
  refine lv_iload_n hx hb (show decode prog_2_method_7_code 26 = .ok (.iload_n 3, 1) by decide +kernel) rfl (lv_at hl 0 rfl) ?_
  refine lv_iload_n hx hb (show decode prog_2_method_7_code 27 = .ok (.iload_n 2, 1) by decide +kernel) rfl (lv_at hl 1 rfl) ?_
  refine lv_icmp_ge (tgt := 60) hx hb (show decode prog_2_method_7_code 28 = .ok (.if_icmp .ge 32, 3) by decide +kernel) (by decide) (fun _ => ?_) (fun h9 => absurd (by decide) h9)
  refine lv_iconst (v := 1) hx hb (show decode prog_2_method_7_code 60 = .ok (.iconst 1, 1) by decide +kernel) (by decide) ?_
  exact W.zret hx hb hr (by decide +kernel) (fun t ht hW => ⟨rfl, by rw [ht]; exact hP, hS.F ht⟩) hS.2.2 (show decode prog_2_method_7_code 61 = .ok (.ireturn, 1) by decide +kernel)
