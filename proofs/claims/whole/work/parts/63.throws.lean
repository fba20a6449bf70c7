/-! How the class's methods throw -/
abbrev th_rm : Room := { frames := 7, cells := 1, slots := 6, locals := 120 }
set_option maxHeartbeats 4000000 in
set_option maxRecDepth 100000 in
theorem th_key1 {l : Launch} (hlt : l.stackTraces = false) {D : va_G} {tys : List (ClassId × FieldType)} {A : Nat → Prop} {ad adV : Nat → Nat} {cI cZ : ClassId} (hD : ∀ σ : xS, va_D A (x_w ad cI cZ x_sh σ)) {t1 t2 : Nat} (ht1 : tys[t1]? = some (cI, .int)) (ht2 : tys[t2]? = some (cZ, .boolean)) {σ : xS} {v1 : Int32} (h1 : x_M 1 0 [.int v1] σ = some ((0 : Int32), σ)) : vx_Met l x_i4.1 (x_ws x_i4) th_rm (x_Pc D x_cl tys ad cI cZ x_sh (NW9 A ad adV) [.ref 0, .int v1] σ) (th_Qc A) (th_XC D A ad cI cZ σ nIAE) 1 6 A := by
  refine vx_ofW (cc := prog_1_method_2_code) (maxL := 2) (ret := (some .int)) (by decide) rfl ?_
  intro p e s m args below meth c s₁ B hml htb hv
  obtain ⟨rfl, hP, hK, hN⟩ := hv
  have hX : th_X A s := hN.2.2.2.2
  have hx := B.exec
  have hb := B.bytes
  have hts := atoms_spec (ws := x_ws x_i4) B.pre
  have hown : s.vm.findClass "DeskMachine" = some m.cls := findClass_of_methodNamed B.named
  have hlocks := B.notSynchronized
  have hS : va_S A s.heap s.heap [] := va_S.rf
  have hl := lv_entry ([.ref (ad 0), .int v1]) (n := 2) (Nat.le_of_ble_eq_true rfl)
  rw [lg_entry_eq]
  show W p l e _ s m _ below meth c s.heap [] 0 0 _ (F0 m 0 (lg_sl ([.ref (ad 0), .int v1]) ++ List.replicate (2 - (lg_sl ([.ref (ad 0), .int v1])).length) Slot.unset).toArray [])
  generalize (lg_sl ([.ref (ad 0), .int v1]) ++ List.replicate (2 - (lg_sl ([.ref (ad 0), .int v1])).length) Slot.unset).toArray = ls at hl ⊢
  have hl : lv_has ls 2 [(0, .ref (ad 0)), (1, .int v1)] := hl
  refine lv_iload_n hx hb (show decode prog_1_method_2_code 0 = .ok (.iload_n 1, 1) by decide +kernel) rfl (lv_at hl 1 rfl) ?_
  have hw9 := x_el_in (j := 4) (k := 1) (i := x_i4) rfl rfl
  have hM9 : Met l x_i0.1 (x_ws x_i0) (x_rmo x_i0) (x_Pc D x_cl tys ad cI cZ x_sh (NW9 A ad adV) [.int v1] σ) (x_Qc D x_cl A ad cI cZ x_sh false (0, σ)) 0 0 A := x_M_ok hD ht1 ht2 1 0 _ _ _ h1
  obtain ⟨a9, hr9⟩ := x_stat (p := p) (e := e) (below := below) (meth := meth) (R := th_rm) (pc := 1) (rest := []) (ls := ls) (v := false) NW9_mv ⟨hx, hb, hml, hown, hts⟩ hM9 (Or.inl ⟨th_cb (i := x_i4) (i' := x_i0) (q := 71) (na := 1) hts (hw9 _ (List.mem_of_getElem? (i := 0) rfl)) (hw9 _ (List.mem_of_getElem? (i := 1) rfl)) (hw9 _ (List.mem_of_getElem? (i := 3) rfl)) (by decide +kernel) ⟨Nat.le_of_ble_eq_true rfl, Nat.le_of_ble_eq_true rfl⟩, hts _ (List.mem_cons_of_mem _ (hw9 _ (List.mem_of_getElem? (i := 2) rfl)))⟩) hP hK hS hN rfl hl.1 rfl (show decode prog_1_method_2_code 1 = .ok (.invokestatic 71, 3) by decide +kernel)
  refine x_callW hr9 hS (fun H locs hP hS => ?_)
  refine W.eq (g2 := F0 m 4 ls [.int 0]) rfl ?_
  refine lv_if_ne (tgt := 15) hx hb (show decode prog_1_method_2_code 4 = .ok (.ifCond .ne 11, 3) by decide +kernel) (by decide) (fun h9 => absurd h9 (fun z => z rfl)) (fun _ => ?_)
  exact th_iae hx hb hlt hown hX hP hS (by rw [hml]; exact hl.1) (show decode prog_1_method_2_code 7 = .ok (.new 75, 3) by decide +kernel) (show decode prog_1_method_2_code 10 = .ok (.dup, 1) by decide +kernel) (show decode prog_1_method_2_code 11 = .ok (.invokespecial 77, 3) by decide +kernel) (show decode prog_1_method_2_code 14 = .ok (.athrow, 1) by decide +kernel) htb ⟨Nat.le_of_ble_eq_true rfl, Nat.le_of_ble_eq_true rfl, Nat.le_of_ble_eq_true rfl, Nat.le_of_ble_eq_true rfl⟩ hlocks
set_option maxHeartbeats 4000000 in
set_option maxRecDepth 100000 in
theorem th_key2 {l : Launch} (hlt : l.stackTraces = false) {D : va_G} {tys : List (ClassId × FieldType)} {A : Nat → Prop} {ad adV : Nat → Nat} {cI cZ : ClassId} (hD : ∀ σ : xS, va_D A (x_w ad cI cZ x_sh σ)) {t1 t2 : Nat} (ht1 : tys[t1]? = some (cI, .int)) (ht2 : tys[t2]? = some (cZ, .boolean)) {σ : xS} {v1 : Int32} (h1 : x_M 1 0 [.int v1] σ = some ((1 : Int32), σ)) (h2 : x_M 1 1 [.ref 8] σ = some ((1 : Int32), σ)) : vx_Met l x_i4.1 (x_ws x_i4) th_rm (x_Pc D x_cl tys ad cI cZ x_sh (NW9 A ad adV) [.ref 0, .int v1] σ) (th_Qc A) (th_XC D A ad cI cZ σ nISE) 1 6 A := by
  refine vx_ofW (cc := prog_1_method_2_code) (maxL := 2) (ret := (some .int)) (by decide) rfl ?_
  intro p e s m args below meth c s₁ B hml htb hv
  obtain ⟨rfl, hP, hK, hN⟩ := hv
  have hX : th_X A s := hN.2.2.2.2
  have hx := B.exec
  have hb := B.bytes
  have hts := atoms_spec (ws := x_ws x_i4) B.pre
  have hown : s.vm.findClass "DeskMachine" = some m.cls := findClass_of_methodNamed B.named
  have hlocks := B.notSynchronized
  have hS : va_S A s.heap s.heap [] := va_S.rf
  have hl := lv_entry ([.ref (ad 0), .int v1]) (n := 2) (Nat.le_of_ble_eq_true rfl)
  rw [lg_entry_eq]
  show W p l e _ s m _ below meth c s.heap [] 0 0 _ (F0 m 0 (lg_sl ([.ref (ad 0), .int v1]) ++ List.replicate (2 - (lg_sl ([.ref (ad 0), .int v1])).length) Slot.unset).toArray [])
  generalize (lg_sl ([.ref (ad 0), .int v1]) ++ List.replicate (2 - (lg_sl ([.ref (ad 0), .int v1])).length) Slot.unset).toArray = ls at hl ⊢
  have hl : lv_has ls 2 [(0, .ref (ad 0)), (1, .int v1)] := hl
  refine lv_iload_n hx hb (show decode prog_1_method_2_code 0 = .ok (.iload_n 1, 1) by decide +kernel) rfl (lv_at hl 1 rfl) ?_
  have hw9 := x_el_in (j := 4) (k := 1) (i := x_i4) rfl rfl
  have hM9 : Met l x_i0.1 (x_ws x_i0) (x_rmo x_i0) (x_Pc D x_cl tys ad cI cZ x_sh (NW9 A ad adV) [.int v1] σ) (x_Qc D x_cl A ad cI cZ x_sh false (1, σ)) 0 0 A := x_M_ok hD ht1 ht2 1 0 _ _ _ h1
  obtain ⟨a9, hr9⟩ := x_stat (p := p) (e := e) (below := below) (meth := meth) (R := th_rm) (pc := 1) (rest := []) (ls := ls) (v := false) NW9_mv ⟨hx, hb, hml, hown, hts⟩ hM9 (Or.inl ⟨th_cb (i := x_i4) (i' := x_i0) (q := 71) (na := 1) hts (hw9 _ (List.mem_of_getElem? (i := 0) rfl)) (hw9 _ (List.mem_of_getElem? (i := 1) rfl)) (hw9 _ (List.mem_of_getElem? (i := 3) rfl)) (by decide +kernel) ⟨Nat.le_of_ble_eq_true rfl, Nat.le_of_ble_eq_true rfl⟩, hts _ (List.mem_cons_of_mem _ (hw9 _ (List.mem_of_getElem? (i := 2) rfl)))⟩) hP hK hS hN rfl hl.1 rfl (show decode prog_1_method_2_code 1 = .ok (.invokestatic 71, 3) by decide +kernel)
  refine x_callW hr9 hS (fun H locs hP hS => ?_)
  refine W.eq (g2 := F0 m 4 ls [.int 1]) rfl ?_
  refine lv_if_ne (tgt := 15) hx hb (show decode prog_1_method_2_code 4 = .ok (.ifCond .ne 11, 3) by decide +kernel) (by decide) (fun _ => ?_) (fun h9 => absurd h9 (by decide))
  refine lv_aload_n hx hb (show decode prog_1_method_2_code 15 = .ok (.aload_n 0, 1) by decide +kernel) rfl (lv_at hl 0 rfl) ?_
  have hw9 := x_el_in (j := 4) (k := 0) (i := x_i4) rfl rfl
  refine va_get (D := D) (ci := 0) (v := .ref (ad 8)) (C := RX7) (T := TX7) (N := 9) hx hb hts (fun w h9 => x_in_lay (c := (RX7, TX7, 9)) (List.mem_of_getElem? (i := 0) rfl) h9) hown hK hP 0 rfl rfl 3 (by decide) (hts _ (List.mem_cons_of_mem _ (hw9 _ (List.mem_of_getElem? (i := 0) rfl)))) (fun _ h9 => h9) rfl (show decode prog_1_method_2_code 16 = .ok (.getfield 35, 3) by decide +kernel) ?_
  have hw9 := x_el_in (j := 4) (k := 2) (i := x_i4) rfl rfl
  have hM9 : Met l x_i1.1 (x_ws x_i1) (x_rmo x_i1) (x_Pc D x_cl tys ad cI cZ x_sh (NW9 A ad adV) [.ref 8] σ) (x_Qc D x_cl A ad cI cZ x_sh false (1, σ)) 0 0 A := x_M_ok hD ht1 ht2 1 1 _ _ _ h2
  obtain ⟨a9, hr9⟩ := x_virt (p := p) (e := e) (below := below) (meth := meth) (R := th_rm) (pc := 19) (rest := []) (as := []) (o := 8) (ci := 4) (ls := ls) (v := false) NW9_mv ⟨hx, hb, hml, hown, hts⟩ hM9 (Or.inl ⟨th_cb (i := x_i4) (i' := x_i1) (q := 78) (na := 0) hts (hw9 _ (List.mem_of_getElem? (i := 0) rfl)) (hw9 _ (List.mem_of_getElem? (i := 1) rfl)) (hw9 _ (List.mem_of_getElem? (i := 4) rfl)) (by decide +kernel) ⟨Nat.le_of_ble_eq_true rfl, Nat.le_of_ble_eq_true rfl⟩, hts _ (List.mem_cons_of_mem _ (hw9 _ (List.mem_of_getElem? (i := 2) rfl))), hts _ (List.mem_cons_of_mem _ (hw9 _ (List.mem_of_getElem? (i := 3) rfl)))⟩) rfl rfl hP hK hS hN rfl hl.1 rfl (show decode prog_1_method_2_code 19 = .ok (.invokevirtual 78, 3) by decide +kernel)
  refine x_callW hr9 hS (fun H locs hP hS => ?_)
  refine W.eq (g2 := F0 m 22 ls [.int 1]) rfl ?_
  refine lv_if_eq (tgt := 33) hx hb (show decode prog_1_method_2_code 22 = .ok (.ifCond .eq 11, 3) by decide +kernel) (by decide) (fun h9 => absurd h9 (by decide)) (fun _ => ?_)
  exact th_ise hx hb hlt hown hX hP hS (by rw [hml]; exact hl.1) (show decode prog_1_method_2_code 25 = .ok (.new 82, 3) by decide +kernel) (show decode prog_1_method_2_code 28 = .ok (.dup, 1) by decide +kernel) (show decode prog_1_method_2_code 29 = .ok (.invokespecial 84, 3) by decide +kernel) (show decode prog_1_method_2_code 32 = .ok (.athrow, 1) by decide +kernel) htb ⟨Nat.le_of_ble_eq_true rfl, Nat.le_of_ble_eq_true rfl, Nat.le_of_ble_eq_true rfl, Nat.le_of_ble_eq_true rfl⟩ hlocks
set_option maxHeartbeats 4000000 in
set_option maxRecDepth 100000 in
theorem th_run1 {l : Launch} (hlt : l.stackTraces = false) {D : va_G} {tys : List (ClassId × FieldType)} {A : Nat → Prop} {ad adV : Nat → Nat} {cI cZ : ClassId} (hD : ∀ σ : xS, va_D A (x_w ad cI cZ x_sh σ)) {t1 t2 : Nat} (ht1 : tys[t1]? = some (cI, .int)) (ht2 : tys[t2]? = some (cZ, .boolean)) {σ : xS} {v1 : Int32} (h1 : v1 < 1) : vx_Met l x_i95.1 (x_ws x_i95) th_rm (x_Pc D x_cl tys ad cI cZ x_sh (NW9 A ad adV) [.ref 0, .int v1] σ) (th_Qc A) (th_XC D A ad cI cZ σ nIAE) 1 6 A := by
  refine vx_ofW (cc := prog_1_method_3_code) (maxL := 4) (ret := (some .int)) (by decide) rfl ?_
  intro p e s m args below meth c s₁ B hml htb hv
  obtain ⟨rfl, hP, hK, hN⟩ := hv
  have hX : th_X A s := hN.2.2.2.2
  have hx := B.exec
  have hb := B.bytes
  have hts := atoms_spec (ws := x_ws x_i95) B.pre
  have hown : s.vm.findClass "DeskMachine" = some m.cls := findClass_of_methodNamed B.named
  have hlocks := B.notSynchronized
  have hS : va_S A s.heap s.heap [] := va_S.rf
  have hl := lv_entry ([.ref (ad 0), .int v1]) (n := 4) (Nat.le_of_ble_eq_true rfl)
  rw [lg_entry_eq]
  show W p l e _ s m _ below meth c s.heap [] 0 0 _ (F0 m 0 (lg_sl ([.ref (ad 0), .int v1]) ++ List.replicate (4 - (lg_sl ([.ref (ad 0), .int v1])).length) Slot.unset).toArray [])
  generalize (lg_sl ([.ref (ad 0), .int v1]) ++ List.replicate (4 - (lg_sl ([.ref (ad 0), .int v1])).length) Slot.unset).toArray = ls at hl ⊢
  have hl : lv_has ls 4 [(0, .ref (ad 0)), (1, .int v1)] := hl
  refine lv_iload_n hx hb (show decode prog_1_method_3_code 0 = .ok (.iload_n 1, 1) by decide +kernel) rfl (lv_at hl 1 rfl) ?_
  refine lv_iconst (v := 1) hx hb (show decode prog_1_method_3_code 1 = .ok (.iconst 1, 1) by decide +kernel) (by decide) ?_
  refine lv_icmp_lt (tgt := 12) hx hb (show decode prog_1_method_3_code 2 = .ok (.if_icmp .lt 10, 3) by decide +kernel) (by decide) (fun _ => ?_) (fun h9 => absurd h1 h9)
  exact th_iae hx hb hlt hown hX hP hS (by rw [hml]; exact hl.1) (show decode prog_1_method_3_code 12 = .ok (.new 75, 3) by decide +kernel) (show decode prog_1_method_3_code 15 = .ok (.dup, 1) by decide +kernel) (show decode prog_1_method_3_code 16 = .ok (.invokespecial 77, 3) by decide +kernel) (show decode prog_1_method_3_code 19 = .ok (.athrow, 1) by decide +kernel) htb ⟨Nat.le_of_ble_eq_true rfl, Nat.le_of_ble_eq_true rfl, Nat.le_of_ble_eq_true rfl, Nat.le_of_ble_eq_true rfl⟩ hlocks
set_option maxHeartbeats 4000000 in
set_option maxRecDepth 100000 in
theorem th_run2 {l : Launch} (hlt : l.stackTraces = false) {D : va_G} {tys : List (ClassId × FieldType)} {A : Nat → Prop} {ad adV : Nat → Nat} {cI cZ : ClassId} (hD : ∀ σ : xS, va_D A (x_w ad cI cZ x_sh σ)) {t1 t2 : Nat} (ht1 : tys[t1]? = some (cI, .int)) (ht2 : tys[t2]? = some (cZ, .boolean)) {σ : xS} {v1 : Int32} (h1 : ¬ v1 < 1) (h2 : ¬ v1 ≤ 1000) : vx_Met l x_i95.1 (x_ws x_i95) th_rm (x_Pc D x_cl tys ad cI cZ x_sh (NW9 A ad adV) [.ref 0, .int v1] σ) (th_Qc A) (th_XC D A ad cI cZ σ nIAE) 1 6 A := by
  refine vx_ofW (cc := prog_1_method_3_code) (maxL := 4) (ret := (some .int)) (by decide) rfl ?_
  intro p e s m args below meth c s₁ B hml htb hv
  obtain ⟨rfl, hP, hK, hN⟩ := hv
  have hX : th_X A s := hN.2.2.2.2
  have hx := B.exec
  have hb := B.bytes
  have hts := atoms_spec (ws := x_ws x_i95) B.pre
  have hown : s.vm.findClass "DeskMachine" = some m.cls := findClass_of_methodNamed B.named
  have hlocks := B.notSynchronized
  have hS : va_S A s.heap s.heap [] := va_S.rf
  have hl := lv_entry ([.ref (ad 0), .int v1]) (n := 4) (Nat.le_of_ble_eq_true rfl)
  rw [lg_entry_eq]
  show W p l e _ s m _ below meth c s.heap [] 0 0 _ (F0 m 0 (lg_sl ([.ref (ad 0), .int v1]) ++ List.replicate (4 - (lg_sl ([.ref (ad 0), .int v1])).length) Slot.unset).toArray [])
  generalize (lg_sl ([.ref (ad 0), .int v1]) ++ List.replicate (4 - (lg_sl ([.ref (ad 0), .int v1])).length) Slot.unset).toArray = ls at hl ⊢
  have hl : lv_has ls 4 [(0, .ref (ad 0)), (1, .int v1)] := hl
  refine lv_iload_n hx hb (show decode prog_1_method_3_code 0 = .ok (.iload_n 1, 1) by decide +kernel) rfl (lv_at hl 1 rfl) ?_
  refine lv_iconst (v := 1) hx hb (show decode prog_1_method_3_code 1 = .ok (.iconst 1, 1) by decide +kernel) (by decide) ?_
  refine lv_icmp_lt (tgt := 12) hx hb (show decode prog_1_method_3_code 2 = .ok (.if_icmp .lt 10, 3) by decide +kernel) (by decide) (fun h9 => absurd h9 h1) (fun _ => ?_)
  refine lv_iload_n hx hb (show decode prog_1_method_3_code 5 = .ok (.iload_n 1, 1) by decide +kernel) rfl (lv_at hl 1 rfl) ?_
  refine lv_sipush (v := 1000) hx hb (show decode prog_1_method_3_code 6 = .ok (.sipush 1000, 3) by decide +kernel) (by decide) ?_
  refine lv_icmp_le (tgt := 20) hx hb (show decode prog_1_method_3_code 9 = .ok (.if_icmp .le 11, 3) by decide +kernel) (by decide) (fun h9 => absurd h9 h2) (fun _ => ?_)
  exact th_iae hx hb hlt hown hX hP hS (by rw [hml]; exact hl.1) (show decode prog_1_method_3_code 12 = .ok (.new 75, 3) by decide +kernel) (show decode prog_1_method_3_code 15 = .ok (.dup, 1) by decide +kernel) (show decode prog_1_method_3_code 16 = .ok (.invokespecial 77, 3) by decide +kernel) (show decode prog_1_method_3_code 19 = .ok (.athrow, 1) by decide +kernel) htb ⟨Nat.le_of_ble_eq_true rfl, Nat.le_of_ble_eq_true rfl, Nat.le_of_ble_eq_true rfl, Nat.le_of_ble_eq_true rfl⟩ hlocks
set_option maxHeartbeats 4000000 in
set_option maxRecDepth 100000 in
theorem th_poke1 {l : Launch} (hlt : l.stackTraces = false) {D : va_G} {tys : List (ClassId × FieldType)} {A : Nat → Prop} {ad adV : Nat → Nat} {cI cZ : ClassId} (hD : ∀ σ : xS, va_D A (x_w ad cI cZ x_sh σ)) {t1 t2 : Nat} (ht1 : tys[t1]? = some (cI, .int)) (ht2 : tys[t2]? = some (cZ, .boolean)) {σ : xS} {v1 v2 : Int32} (h1 : x_M 1 96 [.int v1] σ = some ((0 : Int32), σ)) : vx_Met l x_i97.1 (x_ws x_i97) th_rm (x_Pc D x_cl tys ad cI cZ x_sh (NW9 A ad adV) [.ref 0, .int v1, .int v2] σ) (th_Qc A) (th_XC D A ad cI cZ σ nIAE) 1 6 A := by
  refine vx_ofW (cc := prog_1_method_4_code) (maxL := 3) (ret := (some .boolean)) (by decide) rfl ?_
  intro p e s m args below meth c s₁ B hml htb hv
  obtain ⟨rfl, hP, hK, hN⟩ := hv
  have hX : th_X A s := hN.2.2.2.2
  have hx := B.exec
  have hb := B.bytes
  have hts := atoms_spec (ws := x_ws x_i97) B.pre
  have hown : s.vm.findClass "DeskMachine" = some m.cls := findClass_of_methodNamed B.named
  have hlocks := B.notSynchronized
  have hS : va_S A s.heap s.heap [] := va_S.rf
  have hl := lv_entry ([.ref (ad 0), .int v1, .int v2]) (n := 3) (Nat.le_of_ble_eq_true rfl)
  rw [lg_entry_eq]
  show W p l e _ s m _ below meth c s.heap [] 0 0 _ (F0 m 0 (lg_sl ([.ref (ad 0), .int v1, .int v2]) ++ List.replicate (3 - (lg_sl ([.ref (ad 0), .int v1, .int v2])).length) Slot.unset).toArray [])
  generalize (lg_sl ([.ref (ad 0), .int v1, .int v2]) ++ List.replicate (3 - (lg_sl ([.ref (ad 0), .int v1, .int v2])).length) Slot.unset).toArray = ls at hl ⊢
  have hl : lv_has ls 3 [(0, .ref (ad 0)), (1, .int v1), (2, .int v2)] := hl
  refine lv_iload_n hx hb (show decode prog_1_method_4_code 0 = .ok (.iload_n 1, 1) by decide +kernel) rfl (lv_at hl 1 rfl) ?_
  have hw9 := x_el_in (j := 97) (k := 2) (i := x_i97) rfl rfl
  have hM9 : Met l x_i96.1 (x_ws x_i96) (x_rmo x_i96) (x_Pc D x_cl tys ad cI cZ x_sh (NW9 A ad adV) [.int v1] σ) (x_Qc D x_cl A ad cI cZ x_sh false (0, σ)) 0 0 A := x_M_ok hD ht1 ht2 1 96 _ _ _ h1
  obtain ⟨a9, hr9⟩ := x_stat (p := p) (e := e) (below := below) (meth := meth) (R := th_rm) (pc := 1) (rest := []) (ls := ls) (v := false) NW9_mv ⟨hx, hb, hml, hown, hts⟩ hM9 (Or.inl ⟨th_cb (i := x_i97) (i' := x_i96) (q := 99) (na := 1) hts (hw9 _ (List.mem_of_getElem? (i := 0) rfl)) (hw9 _ (List.mem_of_getElem? (i := 1) rfl)) (hw9 _ (List.mem_of_getElem? (i := 3) rfl)) (by decide +kernel) ⟨Nat.le_of_ble_eq_true rfl, Nat.le_of_ble_eq_true rfl⟩, hts _ (List.mem_cons_of_mem _ (hw9 _ (List.mem_of_getElem? (i := 2) rfl)))⟩) hP hK hS hN rfl hl.1 rfl (show decode prog_1_method_4_code 1 = .ok (.invokestatic 99, 3) by decide +kernel)
  refine x_callW hr9 hS (fun H locs hP hS => ?_)
  refine W.eq (g2 := F0 m 4 ls [.int 0]) rfl ?_
  refine lv_if_eq (tgt := 14) hx hb (show decode prog_1_method_4_code 4 = .ok (.ifCond .eq 10, 3) by decide +kernel) (by decide) (fun _ => ?_) (fun h9 => absurd rfl h9)
  exact th_iae hx hb hlt hown hX hP hS (by rw [hml]; exact hl.1) (show decode prog_1_method_4_code 14 = .ok (.new 75, 3) by decide +kernel) (show decode prog_1_method_4_code 17 = .ok (.dup, 1) by decide +kernel) (show decode prog_1_method_4_code 18 = .ok (.invokespecial 77, 3) by decide +kernel) (show decode prog_1_method_4_code 21 = .ok (.athrow, 1) by decide +kernel) htb ⟨Nat.le_of_ble_eq_true rfl, Nat.le_of_ble_eq_true rfl, Nat.le_of_ble_eq_true rfl, Nat.le_of_ble_eq_true rfl⟩ hlocks
set_option maxHeartbeats 4000000 in
set_option maxRecDepth 100000 in
theorem th_poke2 {l : Launch} (hlt : l.stackTraces = false) {D : va_G} {tys : List (ClassId × FieldType)} {A : Nat → Prop} {ad adV : Nat → Nat} {cI cZ : ClassId} (hD : ∀ σ : xS, va_D A (x_w ad cI cZ x_sh σ)) {t1 t2 : Nat} (ht1 : tys[t1]? = some (cI, .int)) (ht2 : tys[t2]? = some (cZ, .boolean)) {σ : xS} {v1 v2 : Int32} (h1 : x_M 1 96 [.int v1] σ = some ((1 : Int32), σ)) (h2 : x_M 1 0 [.int v2] σ = some ((0 : Int32), σ)) : vx_Met l x_i97.1 (x_ws x_i97) th_rm (x_Pc D x_cl tys ad cI cZ x_sh (NW9 A ad adV) [.ref 0, .int v1, .int v2] σ) (th_Qc A) (th_XC D A ad cI cZ σ nIAE) 1 6 A := by
  refine vx_ofW (cc := prog_1_method_4_code) (maxL := 3) (ret := (some .boolean)) (by decide) rfl ?_
  intro p e s m args below meth c s₁ B hml htb hv
  obtain ⟨rfl, hP, hK, hN⟩ := hv
  have hX : th_X A s := hN.2.2.2.2
  have hx := B.exec
  have hb := B.bytes
  have hts := atoms_spec (ws := x_ws x_i97) B.pre
  have hown : s.vm.findClass "DeskMachine" = some m.cls := findClass_of_methodNamed B.named
  have hlocks := B.notSynchronized
  have hS : va_S A s.heap s.heap [] := va_S.rf
  have hl := lv_entry ([.ref (ad 0), .int v1, .int v2]) (n := 3) (Nat.le_of_ble_eq_true rfl)
  rw [lg_entry_eq]
  show W p l e _ s m _ below meth c s.heap [] 0 0 _ (F0 m 0 (lg_sl ([.ref (ad 0), .int v1, .int v2]) ++ List.replicate (3 - (lg_sl ([.ref (ad 0), .int v1, .int v2])).length) Slot.unset).toArray [])
  generalize (lg_sl ([.ref (ad 0), .int v1, .int v2]) ++ List.replicate (3 - (lg_sl ([.ref (ad 0), .int v1, .int v2])).length) Slot.unset).toArray = ls at hl ⊢
  have hl : lv_has ls 3 [(0, .ref (ad 0)), (1, .int v1), (2, .int v2)] := hl
  refine lv_iload_n hx hb (show decode prog_1_method_4_code 0 = .ok (.iload_n 1, 1) by decide +kernel) rfl (lv_at hl 1 rfl) ?_
  have hw9 := x_el_in (j := 97) (k := 2) (i := x_i97) rfl rfl
  have hM9 : Met l x_i96.1 (x_ws x_i96) (x_rmo x_i96) (x_Pc D x_cl tys ad cI cZ x_sh (NW9 A ad adV) [.int v1] σ) (x_Qc D x_cl A ad cI cZ x_sh false (1, σ)) 0 0 A := x_M_ok hD ht1 ht2 1 96 _ _ _ h1
  obtain ⟨a9, hr9⟩ := x_stat (p := p) (e := e) (below := below) (meth := meth) (R := th_rm) (pc := 1) (rest := []) (ls := ls) (v := false) NW9_mv ⟨hx, hb, hml, hown, hts⟩ hM9 (Or.inl ⟨th_cb (i := x_i97) (i' := x_i96) (q := 99) (na := 1) hts (hw9 _ (List.mem_of_getElem? (i := 0) rfl)) (hw9 _ (List.mem_of_getElem? (i := 1) rfl)) (hw9 _ (List.mem_of_getElem? (i := 3) rfl)) (by decide +kernel) ⟨Nat.le_of_ble_eq_true rfl, Nat.le_of_ble_eq_true rfl⟩, hts _ (List.mem_cons_of_mem _ (hw9 _ (List.mem_of_getElem? (i := 2) rfl)))⟩) hP hK hS hN rfl hl.1 rfl (show decode prog_1_method_4_code 1 = .ok (.invokestatic 99, 3) by decide +kernel)
  refine x_callW hr9 hS (fun H locs hP hS => ?_)
  refine W.eq (g2 := F0 m 4 ls [.int 1]) rfl ?_
  refine lv_if_eq (tgt := 14) hx hb (show decode prog_1_method_4_code 4 = .ok (.ifCond .eq 10, 3) by decide +kernel) (by decide) (fun h9 => absurd h9 (by decide)) (fun _ => ?_)
  refine lv_iload_n hx hb (show decode prog_1_method_4_code 7 = .ok (.iload_n 2, 1) by decide +kernel) rfl (lv_at hl 2 rfl) ?_
  have hw9 := x_el_in (j := 97) (k := 1) (i := x_i97) rfl rfl
  have hM9 : Met l x_i0.1 (x_ws x_i0) (x_rmo x_i0) (x_Pc D x_cl tys ad cI cZ x_sh (NW9 A ad adV) [.int v2] σ) (x_Qc D x_cl A ad cI cZ x_sh false (0, σ)) 0 0 A := x_M_ok hD ht1 ht2 1 0 _ _ _ h2
  obtain ⟨a9, hr9⟩ := x_stat (p := p) (e := e) (below := below) (meth := meth) (R := th_rm) (pc := 8) (rest := []) (ls := ls) (v := false) NW9_mv ⟨hx, hb, hml, hown, hts⟩ hM9 (Or.inl ⟨th_cb (i := x_i97) (i' := x_i0) (q := 71) (na := 1) hts (hw9 _ (List.mem_of_getElem? (i := 0) rfl)) (hw9 _ (List.mem_of_getElem? (i := 1) rfl)) (hw9 _ (List.mem_of_getElem? (i := 3) rfl)) (by decide +kernel) ⟨Nat.le_of_ble_eq_true rfl, Nat.le_of_ble_eq_true rfl⟩, hts _ (List.mem_cons_of_mem _ (hw9 _ (List.mem_of_getElem? (i := 2) rfl)))⟩) hP hK hS hN rfl hl.1 rfl (show decode prog_1_method_4_code 8 = .ok (.invokestatic 71, 3) by decide +kernel)
  refine x_callW hr9 hS (fun H locs hP hS => ?_)
  refine W.eq (g2 := F0 m 11 ls [.int 0]) rfl ?_
  refine lv_if_ne (tgt := 22) hx hb (show decode prog_1_method_4_code 11 = .ok (.ifCond .ne 11, 3) by decide +kernel) (by decide) (fun h9 => absurd h9 (fun z => z rfl)) (fun _ => ?_)
  exact th_iae hx hb hlt hown hX hP hS (by rw [hml]; exact hl.1) (show decode prog_1_method_4_code 14 = .ok (.new 75, 3) by decide +kernel) (show decode prog_1_method_4_code 17 = .ok (.dup, 1) by decide +kernel) (show decode prog_1_method_4_code 18 = .ok (.invokespecial 77, 3) by decide +kernel) (show decode prog_1_method_4_code 21 = .ok (.athrow, 1) by decide +kernel) htb ⟨Nat.le_of_ble_eq_true rfl, Nat.le_of_ble_eq_true rfl, Nat.le_of_ble_eq_true rfl, Nat.le_of_ble_eq_true rfl⟩ hlocks
set_option maxHeartbeats 4000000 in
set_option maxRecDepth 100000 in
theorem th_peek {l : Launch} (hlt : l.stackTraces = false) {D : va_G} {tys : List (ClassId × FieldType)} {A : Nat → Prop} {ad adV : Nat → Nat} {cI cZ : ClassId} (hD : ∀ σ : xS, va_D A (x_w ad cI cZ x_sh σ)) {t1 t2 : Nat} (ht1 : tys[t1]? = some (cI, .int)) (ht2 : tys[t2]? = some (cZ, .boolean)) {σ : xS} {v1 : Int32} (h1 : x_M 1 96 [.int v1] σ = some ((0 : Int32), σ)) : vx_Met l x_i98.1 (x_ws x_i98) th_rm (x_Pc D x_cl tys ad cI cZ x_sh (NW9 A ad adV) [.ref 0, .int v1] σ) (th_Qc A) (th_XC D A ad cI cZ σ nIAE) 1 6 A := by
  refine vx_ofW (cc := prog_1_method_5_code) (maxL := 2) (ret := (some .int)) (by decide) rfl ?_
  intro p e s m args below meth c s₁ B hml htb hv
  obtain ⟨rfl, hP, hK, hN⟩ := hv
  have hX : th_X A s := hN.2.2.2.2
  have hx := B.exec
  have hb := B.bytes
  have hts := atoms_spec (ws := x_ws x_i98) B.pre
  have hown : s.vm.findClass "DeskMachine" = some m.cls := findClass_of_methodNamed B.named
  have hlocks := B.notSynchronized
  have hS : va_S A s.heap s.heap [] := va_S.rf
  have hl := lv_entry ([.ref (ad 0), .int v1]) (n := 2) (Nat.le_of_ble_eq_true rfl)
  rw [lg_entry_eq]
  show W p l e _ s m _ below meth c s.heap [] 0 0 _ (F0 m 0 (lg_sl ([.ref (ad 0), .int v1]) ++ List.replicate (2 - (lg_sl ([.ref (ad 0), .int v1])).length) Slot.unset).toArray [])
  generalize (lg_sl ([.ref (ad 0), .int v1]) ++ List.replicate (2 - (lg_sl ([.ref (ad 0), .int v1])).length) Slot.unset).toArray = ls at hl ⊢
  have hl : lv_has ls 2 [(0, .ref (ad 0)), (1, .int v1)] := hl
  refine lv_iload_n hx hb (show decode prog_1_method_5_code 0 = .ok (.iload_n 1, 1) by decide +kernel) rfl (lv_at hl 1 rfl) ?_
  have hw9 := x_el_in (j := 98) (k := 1) (i := x_i98) rfl rfl
  have hM9 : Met l x_i96.1 (x_ws x_i96) (x_rmo x_i96) (x_Pc D x_cl tys ad cI cZ x_sh (NW9 A ad adV) [.int v1] σ) (x_Qc D x_cl A ad cI cZ x_sh false (0, σ)) 0 0 A := x_M_ok hD ht1 ht2 1 96 _ _ _ h1
  obtain ⟨a9, hr9⟩ := x_stat (p := p) (e := e) (below := below) (meth := meth) (R := th_rm) (pc := 1) (rest := []) (ls := ls) (v := false) NW9_mv ⟨hx, hb, hml, hown, hts⟩ hM9 (Or.inl ⟨th_cb (i := x_i98) (i' := x_i96) (q := 99) (na := 1) hts (hw9 _ (List.mem_of_getElem? (i := 0) rfl)) (hw9 _ (List.mem_of_getElem? (i := 1) rfl)) (hw9 _ (List.mem_of_getElem? (i := 3) rfl)) (by decide +kernel) ⟨Nat.le_of_ble_eq_true rfl, Nat.le_of_ble_eq_true rfl⟩, hts _ (List.mem_cons_of_mem _ (hw9 _ (List.mem_of_getElem? (i := 2) rfl)))⟩) hP hK hS hN rfl hl.1 rfl (show decode prog_1_method_5_code 1 = .ok (.invokestatic 99, 3) by decide +kernel)
  refine x_callW hr9 hS (fun H locs hP hS => ?_)
  refine W.eq (g2 := F0 m 4 ls [.int 0]) rfl ?_
  refine lv_if_ne (tgt := 15) hx hb (show decode prog_1_method_5_code 4 = .ok (.ifCond .ne 11, 3) by decide +kernel) (by decide) (fun h9 => absurd h9 (fun z => z rfl)) (fun _ => ?_)
  exact th_iae hx hb hlt hown hX hP hS (by rw [hml]; exact hl.1) (show decode prog_1_method_5_code 7 = .ok (.new 75, 3) by decide +kernel) (show decode prog_1_method_5_code 10 = .ok (.dup, 1) by decide +kernel) (show decode prog_1_method_5_code 11 = .ok (.invokespecial 77, 3) by decide +kernel) (show decode prog_1_method_5_code 14 = .ok (.athrow, 1) by decide +kernel) htb ⟨Nat.le_of_ble_eq_true rfl, Nat.le_of_ble_eq_true rfl, Nat.le_of_ble_eq_true rfl, Nat.le_of_ble_eq_true rfl⟩ hlocks
set_option maxHeartbeats 4000000 in
set_option maxRecDepth 100000 in
theorem th_disk {l : Launch} (hlt : l.stackTraces = false) {D : va_G} {tys : List (ClassId × FieldType)} {A : Nat → Prop} {ad adV : Nat → Nat} {cI cZ : ClassId} (hD : ∀ σ : xS, va_D A (x_w ad cI cZ x_sh σ)) {t1 t2 : Nat} (ht1 : tys[t1]? = some (cI, .int)) (ht2 : tys[t2]? = some (cZ, .boolean)) {σ : xS} {v1 v2 : Int32} (h1 : x_M 1 99 [.int v1, .int v2] σ = some ((0 : Int32), σ)) : vx_Met l x_i100.1 (x_ws x_i100) th_rm (x_Pc D x_cl tys ad cI cZ x_sh (NW9 A ad adV) [.ref 0, .int v1, .int v2] σ) (th_Qc A) (th_XC D A ad cI cZ σ nIAE) 1 6 A := by
  refine vx_ofW (cc := prog_1_method_6_code) (maxL := 3) (ret := (some .int)) (by decide) rfl ?_
  intro p e s m args below meth c s₁ B hml htb hv
  obtain ⟨rfl, hP, hK, hN⟩ := hv
  have hX : th_X A s := hN.2.2.2.2
  have hx := B.exec
  have hb := B.bytes
  have hts := atoms_spec (ws := x_ws x_i100) B.pre
  have hown : s.vm.findClass "DeskMachine" = some m.cls := findClass_of_methodNamed B.named
  have hlocks := B.notSynchronized
  have hS : va_S A s.heap s.heap [] := va_S.rf
  have hl := lv_entry ([.ref (ad 0), .int v1, .int v2]) (n := 3) (Nat.le_of_ble_eq_true rfl)
  rw [lg_entry_eq]
  show W p l e _ s m _ below meth c s.heap [] 0 0 _ (F0 m 0 (lg_sl ([.ref (ad 0), .int v1, .int v2]) ++ List.replicate (3 - (lg_sl ([.ref (ad 0), .int v1, .int v2])).length) Slot.unset).toArray [])
  generalize (lg_sl ([.ref (ad 0), .int v1, .int v2]) ++ List.replicate (3 - (lg_sl ([.ref (ad 0), .int v1, .int v2])).length) Slot.unset).toArray = ls at hl ⊢
  have hl : lv_has ls 3 [(0, .ref (ad 0)), (1, .int v1), (2, .int v2)] := hl
  refine lv_iload_n hx hb (show decode prog_1_method_6_code 0 = .ok (.iload_n 1, 1) by decide +kernel) rfl (lv_at hl 1 rfl) ?_
  refine lv_iload_n hx hb (show decode prog_1_method_6_code 1 = .ok (.iload_n 2, 1) by decide +kernel) rfl (lv_at hl 2 rfl) ?_
  have hw9 := x_el_in (j := 100) (k := 1) (i := x_i100) rfl rfl
  have hM9 : Met l x_i99.1 (x_ws x_i99) (x_rmo x_i99) (x_Pc D x_cl tys ad cI cZ x_sh (NW9 A ad adV) [.int v1, .int v2] σ) (x_Qc D x_cl A ad cI cZ x_sh false (0, σ)) 0 0 A := x_M_ok hD ht1 ht2 1 99 _ _ _ h1
  obtain ⟨a9, hr9⟩ := x_stat (p := p) (e := e) (below := below) (meth := meth) (R := th_rm) (pc := 2) (rest := []) (ls := ls) (v := false) NW9_mv ⟨hx, hb, hml, hown, hts⟩ hM9 (Or.inl ⟨th_cb (i := x_i100) (i' := x_i99) (q := 110) (na := 2) hts (hw9 _ (List.mem_of_getElem? (i := 0) rfl)) (hw9 _ (List.mem_of_getElem? (i := 1) rfl)) (hw9 _ (List.mem_of_getElem? (i := 3) rfl)) (by decide +kernel) ⟨Nat.le_of_ble_eq_true rfl, Nat.le_of_ble_eq_true rfl⟩, hts _ (List.mem_cons_of_mem _ (hw9 _ (List.mem_of_getElem? (i := 2) rfl)))⟩) hP hK hS hN rfl hl.1 rfl (show decode prog_1_method_6_code 2 = .ok (.invokestatic 110, 3) by decide +kernel)
  refine x_callW hr9 hS (fun H locs hP hS => ?_)
  refine W.eq (g2 := F0 m 5 ls [.int 0]) rfl ?_
  refine lv_if_ne (tgt := 16) hx hb (show decode prog_1_method_6_code 5 = .ok (.ifCond .ne 11, 3) by decide +kernel) (by decide) (fun h9 => absurd h9 (fun z => z rfl)) (fun _ => ?_)
  exact th_iae hx hb hlt hown hX hP hS (by rw [hml]; exact hl.1) (show decode prog_1_method_6_code 8 = .ok (.new 75, 3) by decide +kernel) (show decode prog_1_method_6_code 11 = .ok (.dup, 1) by decide +kernel) (show decode prog_1_method_6_code 12 = .ok (.invokespecial 77, 3) by decide +kernel) (show decode prog_1_method_6_code 15 = .ok (.athrow, 1) by decide +kernel) htb ⟨Nat.le_of_ble_eq_true rfl, Nat.le_of_ble_eq_true rfl, Nat.le_of_ble_eq_true rfl, Nat.le_of_ble_eq_true rfl⟩ hlocks
set_option maxHeartbeats 4000000 in
set_option maxRecDepth 100000 in
theorem th_burn1 {l : Launch} (hlt : l.stackTraces = false) {D : va_G} {tys : List (ClassId × FieldType)} {A : Nat → Prop} {ad adV : Nat → Nat} {cI cZ : ClassId} (hD : ∀ σ : xS, va_D A (x_w ad cI cZ x_sh σ)) {t1 t2 : Nat} (ht1 : tys[t1]? = some (cI, .int)) (ht2 : tys[t2]? = some (cZ, .boolean)) {σ : xS} {v1 v2 v3 : Int32} (h1 : x_M 1 99 [.int v1, .int v2] σ = some ((0 : Int32), σ)) : vx_Met l x_i101.1 (x_ws x_i101) th_rm (x_Pc D x_cl tys ad cI cZ x_sh (NW9 A ad adV) [.ref 0, .int v1, .int v2, .int v3] σ) (th_Qc A) (th_XC D A ad cI cZ σ nIAE) 1 6 A := by
  refine vx_ofW (cc := prog_1_method_7_code) (maxL := 4) (ret := (some .boolean)) (by decide) rfl ?_
  intro p e s m args below meth c s₁ B hml htb hv
  obtain ⟨rfl, hP, hK, hN⟩ := hv
  have hX : th_X A s := hN.2.2.2.2
  have hx := B.exec
  have hb := B.bytes
  have hts := atoms_spec (ws := x_ws x_i101) B.pre
  have hown : s.vm.findClass "DeskMachine" = some m.cls := findClass_of_methodNamed B.named
  have hlocks := B.notSynchronized
  have hS : va_S A s.heap s.heap [] := va_S.rf
  have hl := lv_entry ([.ref (ad 0), .int v1, .int v2, .int v3]) (n := 4) (Nat.le_of_ble_eq_true rfl)
  rw [lg_entry_eq]
  show W p l e _ s m _ below meth c s.heap [] 0 0 _ (F0 m 0 (lg_sl ([.ref (ad 0), .int v1, .int v2, .int v3]) ++ List.replicate (4 - (lg_sl ([.ref (ad 0), .int v1, .int v2, .int v3])).length) Slot.unset).toArray [])
  generalize (lg_sl ([.ref (ad 0), .int v1, .int v2, .int v3]) ++ List.replicate (4 - (lg_sl ([.ref (ad 0), .int v1, .int v2, .int v3])).length) Slot.unset).toArray = ls at hl ⊢
  have hl : lv_has ls 4 [(0, .ref (ad 0)), (1, .int v1), (2, .int v2), (3, .int v3)] := hl
  refine lv_iload_n hx hb (show decode prog_1_method_7_code 0 = .ok (.iload_n 1, 1) by decide +kernel) rfl (lv_at hl 1 rfl) ?_
  refine lv_iload_n hx hb (show decode prog_1_method_7_code 1 = .ok (.iload_n 2, 1) by decide +kernel) rfl (lv_at hl 2 rfl) ?_
  have hw9 := x_el_in (j := 101) (k := 2) (i := x_i101) rfl rfl
  have hM9 : Met l x_i99.1 (x_ws x_i99) (x_rmo x_i99) (x_Pc D x_cl tys ad cI cZ x_sh (NW9 A ad adV) [.int v1, .int v2] σ) (x_Qc D x_cl A ad cI cZ x_sh false (0, σ)) 0 0 A := x_M_ok hD ht1 ht2 1 99 _ _ _ h1
  obtain ⟨a9, hr9⟩ := x_stat (p := p) (e := e) (below := below) (meth := meth) (R := th_rm) (pc := 2) (rest := []) (ls := ls) (v := false) NW9_mv ⟨hx, hb, hml, hown, hts⟩ hM9 (Or.inl ⟨th_cb (i := x_i101) (i' := x_i99) (q := 110) (na := 2) hts (hw9 _ (List.mem_of_getElem? (i := 0) rfl)) (hw9 _ (List.mem_of_getElem? (i := 1) rfl)) (hw9 _ (List.mem_of_getElem? (i := 3) rfl)) (by decide +kernel) ⟨Nat.le_of_ble_eq_true rfl, Nat.le_of_ble_eq_true rfl⟩, hts _ (List.mem_cons_of_mem _ (hw9 _ (List.mem_of_getElem? (i := 2) rfl)))⟩) hP hK hS hN rfl hl.1 rfl (show decode prog_1_method_7_code 2 = .ok (.invokestatic 110, 3) by decide +kernel)
  refine x_callW hr9 hS (fun H locs hP hS => ?_)
  refine W.eq (g2 := F0 m 5 ls [.int 0]) rfl ?_
  refine lv_if_eq (tgt := 15) hx hb (show decode prog_1_method_7_code 5 = .ok (.ifCond .eq 10, 3) by decide +kernel) (by decide) (fun _ => ?_) (fun h9 => absurd rfl h9)
  exact th_iae hx hb hlt hown hX hP hS (by rw [hml]; exact hl.1) (show decode prog_1_method_7_code 15 = .ok (.new 75, 3) by decide +kernel) (show decode prog_1_method_7_code 18 = .ok (.dup, 1) by decide +kernel) (show decode prog_1_method_7_code 19 = .ok (.invokespecial 77, 3) by decide +kernel) (show decode prog_1_method_7_code 22 = .ok (.athrow, 1) by decide +kernel) htb ⟨Nat.le_of_ble_eq_true rfl, Nat.le_of_ble_eq_true rfl, Nat.le_of_ble_eq_true rfl, Nat.le_of_ble_eq_true rfl⟩ hlocks
set_option maxHeartbeats 4000000 in
set_option maxRecDepth 100000 in
theorem th_burn2 {l : Launch} (hlt : l.stackTraces = false) {D : va_G} {tys : List (ClassId × FieldType)} {A : Nat → Prop} {ad adV : Nat → Nat} {cI cZ : ClassId} (hD : ∀ σ : xS, va_D A (x_w ad cI cZ x_sh σ)) {t1 t2 : Nat} (ht1 : tys[t1]? = some (cI, .int)) (ht2 : tys[t2]? = some (cZ, .boolean)) {σ : xS} {v1 v2 v3 : Int32} (h1 : x_M 1 99 [.int v1, .int v2] σ = some ((1 : Int32), σ)) (h2 : x_M 1 0 [.int v3] σ = some ((0 : Int32), σ)) : vx_Met l x_i101.1 (x_ws x_i101) th_rm (x_Pc D x_cl tys ad cI cZ x_sh (NW9 A ad adV) [.ref 0, .int v1, .int v2, .int v3] σ) (th_Qc A) (th_XC D A ad cI cZ σ nIAE) 1 6 A := by
  refine vx_ofW (cc := prog_1_method_7_code) (maxL := 4) (ret := (some .boolean)) (by decide) rfl ?_
  intro p e s m args below meth c s₁ B hml htb hv
  obtain ⟨rfl, hP, hK, hN⟩ := hv
  have hX : th_X A s := hN.2.2.2.2
  have hx := B.exec
  have hb := B.bytes
  have hts := atoms_spec (ws := x_ws x_i101) B.pre
  have hown : s.vm.findClass "DeskMachine" = some m.cls := findClass_of_methodNamed B.named
  have hlocks := B.notSynchronized
  have hS : va_S A s.heap s.heap [] := va_S.rf
  have hl := lv_entry ([.ref (ad 0), .int v1, .int v2, .int v3]) (n := 4) (Nat.le_of_ble_eq_true rfl)
  rw [lg_entry_eq]
  show W p l e _ s m _ below meth c s.heap [] 0 0 _ (F0 m 0 (lg_sl ([.ref (ad 0), .int v1, .int v2, .int v3]) ++ List.replicate (4 - (lg_sl ([.ref (ad 0), .int v1, .int v2, .int v3])).length) Slot.unset).toArray [])
  generalize (lg_sl ([.ref (ad 0), .int v1, .int v2, .int v3]) ++ List.replicate (4 - (lg_sl ([.ref (ad 0), .int v1, .int v2, .int v3])).length) Slot.unset).toArray = ls at hl ⊢
  have hl : lv_has ls 4 [(0, .ref (ad 0)), (1, .int v1), (2, .int v2), (3, .int v3)] := hl
  refine lv_iload_n hx hb (show decode prog_1_method_7_code 0 = .ok (.iload_n 1, 1) by decide +kernel) rfl (lv_at hl 1 rfl) ?_
  refine lv_iload_n hx hb (show decode prog_1_method_7_code 1 = .ok (.iload_n 2, 1) by decide +kernel) rfl (lv_at hl 2 rfl) ?_
  have hw9 := x_el_in (j := 101) (k := 2) (i := x_i101) rfl rfl
  have hM9 : Met l x_i99.1 (x_ws x_i99) (x_rmo x_i99) (x_Pc D x_cl tys ad cI cZ x_sh (NW9 A ad adV) [.int v1, .int v2] σ) (x_Qc D x_cl A ad cI cZ x_sh false (1, σ)) 0 0 A := x_M_ok hD ht1 ht2 1 99 _ _ _ h1
  obtain ⟨a9, hr9⟩ := x_stat (p := p) (e := e) (below := below) (meth := meth) (R := th_rm) (pc := 2) (rest := []) (ls := ls) (v := false) NW9_mv ⟨hx, hb, hml, hown, hts⟩ hM9 (Or.inl ⟨th_cb (i := x_i101) (i' := x_i99) (q := 110) (na := 2) hts (hw9 _ (List.mem_of_getElem? (i := 0) rfl)) (hw9 _ (List.mem_of_getElem? (i := 1) rfl)) (hw9 _ (List.mem_of_getElem? (i := 3) rfl)) (by decide +kernel) ⟨Nat.le_of_ble_eq_true rfl, Nat.le_of_ble_eq_true rfl⟩, hts _ (List.mem_cons_of_mem _ (hw9 _ (List.mem_of_getElem? (i := 2) rfl)))⟩) hP hK hS hN rfl hl.1 rfl (show decode prog_1_method_7_code 2 = .ok (.invokestatic 110, 3) by decide +kernel)
  refine x_callW hr9 hS (fun H locs hP hS => ?_)
  refine W.eq (g2 := F0 m 5 ls [.int 1]) rfl ?_
  refine lv_if_eq (tgt := 15) hx hb (show decode prog_1_method_7_code 5 = .ok (.ifCond .eq 10, 3) by decide +kernel) (by decide) (fun h9 => absurd h9 (by decide)) (fun _ => ?_)
  refine lv_iload_n hx hb (show decode prog_1_method_7_code 8 = .ok (.iload_n 3, 1) by decide +kernel) rfl (lv_at hl 3 rfl) ?_
  have hw9 := x_el_in (j := 101) (k := 1) (i := x_i101) rfl rfl
  have hM9 : Met l x_i0.1 (x_ws x_i0) (x_rmo x_i0) (x_Pc D x_cl tys ad cI cZ x_sh (NW9 A ad adV) [.int v3] σ) (x_Qc D x_cl A ad cI cZ x_sh false (0, σ)) 0 0 A := x_M_ok hD ht1 ht2 1 0 _ _ _ h2
  obtain ⟨a9, hr9⟩ := x_stat (p := p) (e := e) (below := below) (meth := meth) (R := th_rm) (pc := 9) (rest := []) (ls := ls) (v := false) NW9_mv ⟨hx, hb, hml, hown, hts⟩ hM9 (Or.inl ⟨th_cb (i := x_i101) (i' := x_i0) (q := 71) (na := 1) hts (hw9 _ (List.mem_of_getElem? (i := 0) rfl)) (hw9 _ (List.mem_of_getElem? (i := 1) rfl)) (hw9 _ (List.mem_of_getElem? (i := 3) rfl)) (by decide +kernel) ⟨Nat.le_of_ble_eq_true rfl, Nat.le_of_ble_eq_true rfl⟩, hts _ (List.mem_cons_of_mem _ (hw9 _ (List.mem_of_getElem? (i := 2) rfl)))⟩) hP hK hS hN rfl hl.1 rfl (show decode prog_1_method_7_code 9 = .ok (.invokestatic 71, 3) by decide +kernel)
  refine x_callW hr9 hS (fun H locs hP hS => ?_)
  refine W.eq (g2 := F0 m 12 ls [.int 0]) rfl ?_
  refine lv_if_ne (tgt := 23) hx hb (show decode prog_1_method_7_code 12 = .ok (.ifCond .ne 11, 3) by decide +kernel) (by decide) (fun h9 => absurd h9 (fun z => z rfl)) (fun _ => ?_)
  exact th_iae hx hb hlt hown hX hP hS (by rw [hml]; exact hl.1) (show decode prog_1_method_7_code 15 = .ok (.new 75, 3) by decide +kernel) (show decode prog_1_method_7_code 18 = .ok (.dup, 1) by decide +kernel) (show decode prog_1_method_7_code 19 = .ok (.invokespecial 77, 3) by decide +kernel) (show decode prog_1_method_7_code 22 = .ok (.athrow, 1) by decide +kernel) htb ⟨Nat.le_of_ble_eq_true rfl, Nat.le_of_ble_eq_true rfl, Nat.le_of_ble_eq_true rfl, Nat.le_of_ble_eq_true rfl⟩ hlocks
