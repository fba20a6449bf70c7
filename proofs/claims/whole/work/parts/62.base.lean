/-! The tables' good words; the contracts of all methods; what a throw needs -/
abbrev nIAE : String := "java/lang/IllegalArgumentException"
abbrev nISE : String := "java/lang/IllegalStateException"
abbrev nChain : List String := ["java/lang/RuntimeException", "java/lang/Exception"]
def th_W : List Cond := vx_at0 RX7 77 nIAE nChain ++ (vx_at0 RX7 84 nISE nChain ++ [.classLink RX7 75 nIAE, .initialized nIAE, .classLink RX7 82 nISE, .initialized nISE, .classLink RL 13 nIAE, .classLink RL 15 nISE, .castable nIAE nIAE, .castable nISE nISE])
def th_ok (w : Cond) : Bool := goodWord w || (match w with
  | .castable _ _ => true
  | .declares _ => true
  | _ => false)
theorem th_all : ∀ w ∈ th_W, th_ok w = true := List.all_eq_true.mp (by decide +kernel)
theorem th_mv1 {w : Cond} {s U : State} (h : th_ok w = true) (hW : s.WarmedH U.vm) (hw : w.before #[] s = true) : w.before #[] U = true := by
  unfold th_ok at h
  rw [Bool.or_eq_true] at h
  rcases h with h | h
  · exact word_at hW (good_of_word h) hw
  · cases w with
    | castable C T => exact va_Nw.warmC hW hw
    | declares x => exact va_Nw.warmD hW hw
    | _ => cases h
def th_X (A : Nat → Prop) (U : State) : Prop := (∀ w ∈ th_W, w.before #[] U = true) ∧ vx_Zq Bundle.tN "UNASSIGNED_STACK" Bundle.steD A U U.heap ∧ vx_Zq Bundle.tN "SUPPRESSED_SENTINEL" Bundle.listD A U U.heap ∧ va_Nc nISE nIAE U
theorem th_mv {A : Nat → Prop} : x_Mv A (th_X A) := by
  intro s U ⟨h1, h2, h3, h4⟩ hW hq
  exact ⟨fun w hw => th_mv1 (th_all w hw) hW (h1 w hw), (vx_Zq.moved hW.alike h2).kept hq, (vx_Zq.moved hW.alike h3).kept hq, va_Nc.moved hW.alike h4⟩
def X9 (A : Nat → Prop) (ad adV : Nat → Nat) (U : State) : Prop := tx_X A ad adV U ∧ th_X A U
theorem X9_mv {A : Nat → Prop} {ad adV : Nat → Nat} : x_Mv A (X9 A ad adV) := fun s U h hW hq => ⟨tx_mv s U h.1 hW hq, th_mv s U h.2 hW hq⟩
abbrev NW9 (A : Nat → Prop) (ad adV : Nat → Nat) : State → Prop := x_NW A ad (X9 A ad adV)
theorem NW9_mv {A : Nat → Prop} {ad adV : Nat → Nat} : x_Mv A (NW9 A ad adV) := x_NW_mv X9_mv
theorem NW9_nar {A B : Nat → Prop} {ad adV : Nat → Nat} {U : State} (h : NW9 A ad adV U) (hAB : ∀ q, B q → A q) : NW9 B ad adV U := by
  obtain ⟨h1, h2, h3, ⟨t1, t2, t3, t4⟩, k1, k2, k3, k4⟩ := h
  exact ⟨h1.narrow hAB, h2.narrow hAB, h3, ⟨t1, t2.narrow hAB, t3.narrow hAB, t4.narrow hAB⟩, k1, k2.narrow hAB, k3.narrow hAB, k4⟩
theorem x_M_ok {l : Launch} {D : va_G} {tys : List (ClassId × FieldType)} {A : Nat → Prop} {ad adV : Nat → Nat} {cI cZ : ClassId} (hD : ∀ σ : xS, va_D A (x_w ad cI cZ x_sh σ)) {t1 t2 : Nat} (ht1 : tys[t1]? = some (cI, .int)) (ht2 : tys[t2]? = some (cZ, .boolean)) :
    ∀ (d j : Nat) (as : List Value) (σ : xS) (r : xR), x_M d j as σ = some r → Met l (x_g j).1 (x_ws (x_g j)) (x_rmo (x_g j)) (x_Pc D x_cl tys ad cI cZ x_sh (NW9 A ad adV) as σ) (x_Qc D x_cl A ad cI cZ x_sh (Nat.beq (x_g j).2.2.2.2.1 0) r) 0 0 A :=
  x_M_ok_open X9_mv x_words_good hD ht1 ht2 (fun as σ r h => f_wi (fun U h => h.1) ht1 as σ r h)
theorem met_of_vx {l : Launch} {y : MethodName} {ws : List Cond} {rm : Room} {Pc : Array Value → State → Prop} {Qc : Array Value → State → Outcome → State → Prop} {mc ms : Nat} {free : Addr → Prop} (h : vx_Met l y ws rm Pc Qc (fun _ _ _ => False) mc ms free) : Met l y ws rm Pc Qc mc ms free :=
  MetFree.mono h (fun _ _ h => h) (fun _ _ _ _ _ h => h) (fun a s o s' _ hq => hq.elim id (fun ⟨_, _, _, _, _, hx, _⟩ => hx.elim))
/-- the words of a place of a method's pool -/
theorem x_el_in {j k : Nat} {i : xI} {e : Nat × xE} (hi : x_tab[j]? = some i) (hp : i.2.2.2.2.2.1[k]? = some e) : ∀ w ∈ x_el i.1.cls e.1 e.2, w ∈ x_words := fun w hw =>
  List.mem_append_right _ (List.mem_flatMap.mpr ⟨i, List.mem_of_getElem? hi, List.mem_flatMap.mpr ⟨e, List.mem_of_getElem? hp, hw⟩⟩)
theorem th_cb {i i' : xI} {q na : Nat} {R : Room} {s : State} {args : Array Value} (hts : ∀ w ∈ x_ws i, w.before args s = true) (h1 : Cond.methodLink i.1.cls q i'.1 ∈ x_words) (h2 : Cond.code i'.1 i'.2.1 i'.2.2.1 i'.2.2.2.1 ∈ x_words) (h4 : Cond.initialized i'.1.cls ∈ x_words)
    (hd : i'.1.cls ≠ "java/lang/invoke/MethodHandle" ∧ i'.1.cls ≠ "java/lang/invoke/VarHandle" ∧ (parseMethodDescriptor i'.1.desc).map (fun d => d.parameters.length) = some na) (hR : (x_rmo i').frames + 1 ≤ R.frames ∧ 8 + (i'.2.2.1 + 11) + (x_rmo i').locals ≤ R.locals) :
    CallB R s args i.1.cls q i'.1 i'.2.1 i'.2.2.1 i'.2.2.2.1 (x_ws i') (x_rmo i') 0 0 na :=
  callB_of na hts (x_good x_words_good h2) rfl rfl rfl (hts _ (List.mem_cons_of_mem _ h4)) (hts _ (List.mem_cons_of_mem _ h1)) hd hR
/-- how a method of the class throws: its class, and the same world -/
abbrev th_XC (D : va_G) (A : Nat → Prop) (ad : Nat → Nat) (cI cZ : ClassId) (σ : xS) (E : String) : String → State → State → Prop := vx_X (fun _ : Unit => True) (fun E' _ t => E' = E ∧ va_P D x_cl (x_w ad cI cZ x_sh σ) t.heap) A
abbrev th_Qc (A : Nat → Prop) : Array Value → State → Outcome → State → Prop := va_Qi (fun _ (_ : Unit) => False) (fun _ _ => True) A
section THR
variable {p : Program} {l : Launch} {e : Env} {s : State} {m : MethodId} {args : Array Value} {below : List Frame} {meth : Method} {c : Code} {H : Heap} {locs : List Loc} {R : Room}
variable {cc : ByteArray} {pc : Nat} {ls : Array Slot} {D : va_G} {A : Nat → Prop} {ad adV : Nat → Nat} {cI cZ : ClassId} {σ : xS} {Qc : Array Value → State → Outcome → State → Prop}
theorem th_fx {E : String} (hP : va_P D x_cl (x_w ad cI cZ x_sh σ) H) (hS : va_S A s.heap H locs) : ∀ t : State, s.vm.Alike t.vm → H.size ≤ t.heap.size → (∀ q : Nat, q < H.size → t.heap[q]? = H[q]?) → th_XC D A ad cI cZ σ E E s t := fun t _ h1 h2 =>
  ⟨(), trivial, ⟨rfl, hP.kept (fun k x hx => h2 x.1 ((hP k x hx).lt))⟩, Nat.le_trans hS.1 h1, fun q h3 h4 => (h2 q (Nat.lt_of_lt_of_le h3 hS.1)).trans (hS.2.1 q h3 h4)⟩
theorem th_iae (hexec : p.tables.exec = Jvm.exec) (hb : c.code = cc) (hl : l.stackTraces = false) (hown : s.vm.findClass RX7 = some m.cls) (hX : th_X A s) (hP : va_P D x_cl (x_w ad cI cZ x_sh σ) H) (hS : va_S A s.heap H locs) (hsize : ls.size = c.maxLocals)
    (d0 : decode cc pc = .ok (.new 75, 3)) (d3 : decode cc (pc + 3) = .ok (.dup, 1)) (d4 : decode cc (pc + 4) = .ok (.invokespecial 77, 3)) (d7 : decode cc (pc + 7) = .ok (.athrow, 1)) (hout : ∀ x ∈ c.exceptionTable.toList, False) (hR : 5 < R.frames ∧ 81 ≤ R.locals ∧ 1 ≤ R.cells ∧ 6 ≤ R.slots) (hlocks : meth.locks = false) :
    W p l e R s m args below meth c H locs 0 0 (vx_MQ below Qc (th_XC D A ad cI cZ σ nIAE) args s 1 6 A) (F0 m pc ls []) := by
  have hw : ∀ w ∈ th_W, w.before args s = true := fun w hw => vx_ot_at (State.WarmedH.refl s) rfl (List.all_eq_true.mp (show th_W.all vx_ot = true by decide +kernel) w hw) (hX.1 w hw)
  exact vx_throw0 (names := nChain) (A := A) hexec hb hl hown (by decide +kernel) (by decide +kernel) (hw _ (List.mem_append_right _ (List.mem_append_right _ (List.mem_of_getElem? (i := 0) rfl)))) (hw _ (List.mem_append_right _ (List.mem_append_right _ (List.mem_of_getElem? (i := 1) rfl)))) (fun w h => hw w (List.mem_append_left _ h)) (List.all_eq_true.mp (by decide +kernel)) hX.2.1 hX.2.2.1 hS hsize d0 d3 d4 d7 (fun x hx => (hout x hx).elim) hR.1 (by show 0 + (13 * (2 + 1) + 42) ≤ R.locals; omega) (by omega) (by omega) hlocks (th_fx hP hS) hS.2.2 (Nat.le_refl _) (Nat.le_refl _)
theorem th_ise (hexec : p.tables.exec = Jvm.exec) (hb : c.code = cc) (hl : l.stackTraces = false) (hown : s.vm.findClass RX7 = some m.cls) (hX : th_X A s) (hP : va_P D x_cl (x_w ad cI cZ x_sh σ) H) (hS : va_S A s.heap H locs) (hsize : ls.size = c.maxLocals)
    (d0 : decode cc pc = .ok (.new 82, 3)) (d3 : decode cc (pc + 3) = .ok (.dup, 1)) (d4 : decode cc (pc + 4) = .ok (.invokespecial 84, 3)) (d7 : decode cc (pc + 7) = .ok (.athrow, 1)) (hout : ∀ x ∈ c.exceptionTable.toList, False) (hR : 5 < R.frames ∧ 81 ≤ R.locals ∧ 1 ≤ R.cells ∧ 6 ≤ R.slots) (hlocks : meth.locks = false) :
    W p l e R s m args below meth c H locs 0 0 (vx_MQ below Qc (th_XC D A ad cI cZ σ nISE) args s 1 6 A) (F0 m pc ls []) := by
  have hw : ∀ w ∈ th_W, w.before args s = true := fun w hw => vx_ot_at (State.WarmedH.refl s) rfl (List.all_eq_true.mp (show th_W.all vx_ot = true by decide +kernel) w hw) (hX.1 w hw)
  exact vx_throw0 (names := nChain) (A := A) hexec hb hl hown (by decide +kernel) (by decide +kernel) (hw _ (List.mem_append_right _ (List.mem_append_right _ (List.mem_of_getElem? (i := 2) rfl)))) (hw _ (List.mem_append_right _ (List.mem_append_right _ (List.mem_of_getElem? (i := 3) rfl)))) (fun w h => hw w (List.mem_append_right _ (List.mem_append_left _ h))) (List.all_eq_true.mp (by decide +kernel)) hX.2.1 hX.2.2.1 hS hsize d0 d3 d4 d7 (fun x hx => (hout x hx).elim) hR.1 (by show 0 + (13 * (2 + 1) + 42) ≤ R.locals; omega) (by omega) (by omega) hlocks (th_fx hP hS) hS.2.2 (Nat.le_refl _) (Nat.le_refl _)
end THR
