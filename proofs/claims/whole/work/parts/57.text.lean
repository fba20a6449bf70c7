/-! Texts: what the JDK says of their lengths and characters; firstWordIs -/
def yS_len : MethodName := ⟨"java/lang/String", "length", "()I"⟩
def yS_cod : MethodName := ⟨"java/lang/String", "coder", "()B"⟩
def yS_chr : MethodName := ⟨"java/lang/String", "charAt", "(I)C"⟩
def yS_lat : MethodName := ⟨"java/lang/String", "isLatin1", "()Z"⟩
def yL_chr : MethodName := ⟨"java/lang/StringLatin1", "charAt", "([BI)C"⟩
def yS_ck : MethodName := ⟨"java/lang/String", "checkIndex", "(II)V"⟩
def yP_ck : MethodName := ⟨"jdk/internal/util/Preconditions", "checkIndex", "(IILjava/util/function/BiFunction;)I"⟩
def tx_sw : List Cond := [.methodLink "DeskMachine$Desk" 81 yS_len, .instanceMethod yS_len, .selects "java/lang/String" yS_len yS_len, .code yS_len prog_16_method_54_code 1 (some .int), .methodLink "java/lang/String" 335 yS_cod, .instanceMethod yS_cod, .selects "java/lang/String" yS_cod yS_cod, .code yS_cod prog_16_method_152_code 1 (some .byte), .methodLink "DeskMachine$Desk" 85 yS_chr, .instanceMethod yS_chr, .selects "java/lang/String" yS_chr yS_chr, .code yS_chr prog_16_method_56_code 2 (some .char), .methodLink "java/lang/String" 492 yS_lat, .instanceMethod yS_lat, .selects "java/lang/String" yS_lat yS_lat, .code yS_lat prog_16_method_154_code 1 (some .boolean), .methodLink "java/lang/String" 495 yL_chr, .static yL_chr, .code yL_chr prog_17_method_2_code 2 (some .char), .methodLink "java/lang/StringLatin1" 9 yS_ck, .static yS_ck, .code yS_ck prog_16_method_155_code 2 none, .methodLink "java/lang/String" 1059 yP_ck, .static yP_ck, .code yP_ck prog_20_method_11_code 3 (some .int), .fieldLink "java/lang/String" 38 "java/lang/String" "COMPACT_STRINGS" "Z", .fieldLink "java/lang/String" 1053 "jdk/internal/util/Preconditions" "SIOOBE_FORMATTER" "Ljava/util/function/BiFunction;", .fieldLink "java/lang/String" 9 "java/lang/String" "value" "[B", .fieldLink "java/lang/String" 15 "java/lang/String" "coder" "B", .initialized "java/lang/String", .initialized "java/lang/StringLatin1", .initialized "jdk/internal/util/Preconditions"]
theorem tx_good : ∀ w ∈ tx_sw, goodWord w = true := List.all_eq_true.mp (by decide +kernel)
def tx_ws (y : MethodName) (b : ByteArray) (n : Nat) (r : Option FieldType) : List Cond := .code y b n r :: tx_sw
theorem tx_in {y : MethodName} {b : ByteArray} {n : Nat} {r : Option FieldType} {big : List Cond} (hb : ∀ w ∈ tx_sw, w ∈ big) (h : Cond.code y b n r ∈ tx_sw) : GoodIn big (tx_ws y b n r) := by
  intro w hw
  rcases List.mem_cons.mp hw with rfl | hw
  · exact ⟨hb _ h, good_of_word (tx_good _ h)⟩
  · exact ⟨hb _ hw, good_of_word (tx_good _ hw)⟩
def tx_b : List (List Int32) := [[76, 73, 83, 84], [83, 72, 79, 87], [68, 82, 79, 80], [67, 65, 76, 76], [83, 65, 86, 69]]
def tx_l : List Nat := [4, 4, 4, 4, 4]
def tx_X (A : Nat → Prop) (ad adV : Nat → Nat) (U : State) : Prop := (∀ w ∈ tx_sw, w.before #[] U = true) ∧ vk_S 5 tx_l tx_b (fun i => ad (1000 + i)) adV A U U.heap ∧ va_Z "java/lang/String" "COMPACT_STRINGS" "Z" (.int 1) A U U.heap ∧ va_Zq "jdk/internal/util/Preconditions" "SIOOBE_FORMATTER" "Ljava/util/function/BiFunction;" A U U.heap
theorem tx_mv {A : Nat → Prop} {ad adV : Nat → Nat} : x_Mv A (tx_X A ad adV) := by
  intro s U ⟨h1, h2, h3, h4⟩ hW hq
  exact ⟨fun w hw => pay_in (big := tx_sw) h1 (fun w hw => ⟨hw, good_of_word (tx_good w hw)⟩) w hw _ _ hW, (vk_S.moved hW.alike h2).kept hq, (va_Z.moved hW.alike h3).kept hq, (va_Zq.moved hW.alike h4).kept hq⟩
theorem tx_len {i : Nat} (hi : i < 5) : tx_l.getD i 0 = 4 := by
  have e : i = 0 ∨ i = 1 ∨ i = 2 ∨ i = 3 ∨ i = 4 := by omega
  rcases e with rfl | rfl | rfl | rfl | rfl <;> rfl
def tx_c (i k : Nat) : Int32 := (tx_b.getD i []).getD k 0
theorem tx_cc : ∀ i, i < 5 → ∀ k, k < 4 → ((tx_c i k &&& 255).toUInt32 % 65536).toInt32 = tx_c i k ∧ narrow .char (.int (tx_c i k)) = .int (tx_c i k) := by decide +kernel
def tx_Q (r : Option Value) : Array Value → State → Outcome → State → Prop := fun _ st o t => o = .returned r ∧ t.heap = st.heap
def tx_P (A : Nat → Prop) (ad adV : Nat → Nat) (av : List Value) : Array Value → State → Prop := va_Pc av (fun U => tx_X A ad adV U)
theorem tx_bl {A : Nat → Prop} {ad adV : Nat → Nat} {av : List Value} : FrameBlind (tx_P A ad adV av) := fun a U g mk h => ⟨h.1, tx_mv U (U.calling g mk a) h.2 (State.WarmedH.refl U) (fun _ _ _ => rfl)⟩
theorem tx_pre {A : Nat → Prop} {ad adV : Nat → Nat} {av : List Value} {s U : State} {H : Heap} {locs : List Loc} (hX : tx_X A ad adV s) (hS : va_S A s.heap H locs) (hU : U.heap = H) (hW : s.WarmedH U.vm) : tx_P A ad adV av av.toArray U := ⟨rfl, tx_mv s U hX hW (fun q h1 h2 => by rw [hU]; exact hS.2.1 q h1 h2)⟩
section TXC
variable {p : Program} {l : Launch} {e : Env} {R : Room} {s : State} {m : MethodId} {args : Array Value} {below : List Frame} {meth : Method} {c : Code} {Q : State → Prop} {H : Heap} {locs : List Loc}
theorem tx_call {pc : Nat} {ls : Array Slot} {st0 rest : List Value} {r : Option Value} {a : Array Value} (hr : va_Run p l e R s m args below meth c H locs 0 0 0 0 (F0 m pc ls st0) rest (tx_Q r a) (fun _ => False))
    (kk : W p l e R s m args below meth c H locs 0 0 Q (F0 m (pc + 3) ls (r.toList ++ rest))) : W p l e R s m args below meth c H locs 0 0 Q (F0 m pc ls st0) := by
  intro T hT X
  obtain ⟨v', st₀, t, T', L, h0, X', hL, e1, e2, ⟨hv, hP⟩, st⟩ := hr T hT X
  have eL : L = [] := List.eq_nil_iff_forall_not_mem.mpr (fun z hz => hL z hz)
  subst eL
  rw [List.append_nil] at X'
  cases hv
  obtain ⟨t2, a1, b1⟩ := kk T' (by rw [e1, hP, h0]) X'
  exact ⟨t2, st t2 a1, b1⟩
end TXC
set_option maxHeartbeats 4000000 in
set_option maxRecDepth 100000 in
theorem tP_0 (l : Launch) {A : Nat → Prop} {ad adV : Nat → Nat} {k : Nat} (hk : k < 4) : Met l yP_ck (tx_ws yP_ck prog_20_method_11_code 3 (some .int)) ({ frames := 0, cells := 0, slots := 0, locals := 0 }) (tx_P A ad adV [.int (nI k), .int 4, .null]) (tx_Q (some (.int (nI k)))) 0 0 (fun _ => False) := by
  refine Met.ofW (cc := prog_20_method_11_code) (maxL := 3) (ret := (some .int)) (by decide) rfl ?_
  intro p e s m args below meth c s₁ B hml hv
  obtain ⟨rfl, hX⟩ := hv
  have hx := B.exec
  have hb := B.bytes
  have hr := B.returns
  have hts := atoms_spec (ws := tx_ws yP_ck prog_20_method_11_code 3 (some .int)) B.pre
  have hown : s.vm.findClass "jdk/internal/util/Preconditions" = some m.cls := findClass_of_methodNamed B.named
  have hlocks := B.notSynchronized
  have hw : ∀ w ∈ tx_sw, w ∈ tx_ws yP_ck prog_20_method_11_code 3 (some .int) := fun w h => List.mem_cons_of_mem _ h
  have hS : va_S A s.heap s.heap [] := va_S.rf
  have hl := lv_entry ([.int (nI k), .int 4, .null]) (n := 3) (Nat.le_of_ble_eq_true rfl)
  rw [lg_entry_eq]
  generalize (lg_sl ([.int (nI k), .int 4, .null]) ++ List.replicate (3 - (lg_sl ([.int (nI k), .int 4, .null])).length) Slot.unset).toArray = ls at hl ⊢
  have hl : lv_has ls 3 [(0, .int (nI k)), (1, .int 4), (2, .null)] := hl
  refine lv_iload_n hx hb (show decode prog_20_method_11_code 0 = .ok (.iload_n 0, 1) by decide +kernel) rfl (lv_at hl 0 rfl) ?_
  refine lv_if_lt (tgt := 9) hx hb (show decode prog_20_method_11_code 1 = .ok (.ifCond .lt 8, 3) by decide +kernel) (by decide) (fun h => absurd h (nI_pos (by omega))) (fun _ => ?_)
  refine lv_iload_n hx hb (show decode prog_20_method_11_code 4 = .ok (.iload_n 0, 1) by decide +kernel) rfl (lv_at hl 0 rfl) ?_
  refine lv_iload_n hx hb (show decode prog_20_method_11_code 5 = .ok (.iload_n 1, 1) by decide +kernel) rfl (lv_at hl 1 rfl) ?_
  refine lv_icmp_lt (tgt := 16) hx hb (show decode prog_20_method_11_code 6 = .ok (.if_icmp .lt 10, 3) by decide +kernel) (by decide) (fun _ => ?_) (fun h => absurd (show nI k < nI 4 from nI_lt hk (by decide)) h)
  refine lv_iload_n hx hb (show decode prog_20_method_11_code 16 = .ok (.iload_n 0, 1) by decide +kernel) rfl (lv_at hl 0 rfl) ?_
  exact W.iret hx hb hr (fun t ht hW => ⟨rfl, ht⟩) (fun q hq => nomatch hq) (show decode prog_20_method_11_code 17 = .ok (.ireturn, 1) by decide +kernel)
set_option maxHeartbeats 4000000 in
set_option maxRecDepth 100000 in
theorem tP_1 (l : Launch) {A : Nat → Prop} {ad adV : Nat → Nat} (t9 : Nat) {k : Nat} (hk : k < 4) : Met l yP_ck (tx_ws yP_ck prog_20_method_11_code 3 (some .int)) ({ frames := 0, cells := 0, slots := 0, locals := 0 }) (tx_P A ad adV [.int (nI k), .int 4, .ref t9]) (tx_Q (some (.int (nI k)))) 0 0 (fun _ => False) := by
  refine Met.ofW (cc := prog_20_method_11_code) (maxL := 3) (ret := (some .int)) (by decide) rfl ?_
  intro p e s m args below meth c s₁ B hml hv
  obtain ⟨rfl, hX⟩ := hv
  have hx := B.exec
  have hb := B.bytes
  have hr := B.returns
  have hts := atoms_spec (ws := tx_ws yP_ck prog_20_method_11_code 3 (some .int)) B.pre
  have hown : s.vm.findClass "jdk/internal/util/Preconditions" = some m.cls := findClass_of_methodNamed B.named
  have hlocks := B.notSynchronized
  have hw : ∀ w ∈ tx_sw, w ∈ tx_ws yP_ck prog_20_method_11_code 3 (some .int) := fun w h => List.mem_cons_of_mem _ h
  have hS : va_S A s.heap s.heap [] := va_S.rf
  have hl := lv_entry ([.int (nI k), .int 4, .ref t9]) (n := 3) (Nat.le_of_ble_eq_true rfl)
  rw [lg_entry_eq]
  generalize (lg_sl ([.int (nI k), .int 4, .ref t9]) ++ List.replicate (3 - (lg_sl ([.int (nI k), .int 4, .ref t9])).length) Slot.unset).toArray = ls at hl ⊢
  have hl : lv_has ls 3 [(0, .int (nI k)), (1, .int 4), (2, .ref t9)] := hl
  refine lv_iload_n hx hb (show decode prog_20_method_11_code 0 = .ok (.iload_n 0, 1) by decide +kernel) rfl (lv_at hl 0 rfl) ?_
  refine lv_if_lt (tgt := 9) hx hb (show decode prog_20_method_11_code 1 = .ok (.ifCond .lt 8, 3) by decide +kernel) (by decide) (fun h => absurd h (nI_pos (by omega))) (fun _ => ?_)
  refine lv_iload_n hx hb (show decode prog_20_method_11_code 4 = .ok (.iload_n 0, 1) by decide +kernel) rfl (lv_at hl 0 rfl) ?_
  refine lv_iload_n hx hb (show decode prog_20_method_11_code 5 = .ok (.iload_n 1, 1) by decide +kernel) rfl (lv_at hl 1 rfl) ?_
  refine lv_icmp_lt (tgt := 16) hx hb (show decode prog_20_method_11_code 6 = .ok (.if_icmp .lt 10, 3) by decide +kernel) (by decide) (fun _ => ?_) (fun h => absurd (show nI k < nI 4 from nI_lt hk (by decide)) h)
  refine lv_iload_n hx hb (show decode prog_20_method_11_code 16 = .ok (.iload_n 0, 1) by decide +kernel) rfl (lv_at hl 0 rfl) ?_
  exact W.iret hx hb hr (fun t ht hW => ⟨rfl, ht⟩) (fun q hq => nomatch hq) (show decode prog_20_method_11_code 17 = .ok (.ireturn, 1) by decide +kernel)
set_option maxHeartbeats 4000000 in
set_option maxRecDepth 100000 in
theorem tS_ck (l : Launch) {A : Nat → Prop} {ad adV : Nat → Nat} {k : Nat} (hk : k < 4) : Met l yS_ck (tx_ws yS_ck prog_16_method_155_code 2 none) ({ frames := 1, cells := 0, slots := 0, locals := 22 }) (tx_P A ad adV [.int (nI k), .int 4]) (tx_Q none) 0 0 (fun _ => False) := by
  refine Met.ofW (cc := prog_16_method_155_code) (maxL := 2) (ret := none) (by decide) rfl ?_
  intro p e s m args below meth c s₁ B hml hv
  obtain ⟨rfl, hX⟩ := hv
  have hx := B.exec
  have hb := B.bytes
  have hr := B.returns
  have hts := atoms_spec (ws := tx_ws yS_ck prog_16_method_155_code 2 none) B.pre
  have hown : s.vm.findClass "java/lang/String" = some m.cls := findClass_of_methodNamed B.named
  have hlocks := B.notSynchronized
  have hw : ∀ w ∈ tx_sw, w ∈ tx_ws yS_ck prog_16_method_155_code 2 none := fun w h => List.mem_cons_of_mem _ h
  have hS : va_S A s.heap s.heap [] := va_S.rf
  have hl := lv_entry ([.int (nI k), .int 4]) (n := 2) (Nat.le_of_ble_eq_true rfl)
  rw [lg_entry_eq]
  generalize (lg_sl ([.int (nI k), .int 4]) ++ List.replicate (2 - (lg_sl ([.int (nI k), .int 4])).length) Slot.unset).toArray = ls at hl ⊢
  have hl : lv_has ls 2 [(0, .int (nI k)), (1, .int 4)] := hl
  refine lv_iload_n hx hb (show decode prog_16_method_155_code 0 = .ok (.iload_n 0, 1) by decide +kernel) rfl (lv_at hl 0 rfl) ?_
  refine lv_iload_n hx hb (show decode prog_16_method_155_code 1 = .ok (.iload_n 1, 1) by decide +kernel) rfl (lv_at hl 1 rfl) ?_
  rcases hX.2.2.2 with hZ | ⟨t9, hZ⟩
  · refine va_gets (v := .null) hx hb hZ hS hown (hts (.fieldLink "java/lang/String" 1053 "jdk/internal/util/Preconditions" "SIOOBE_FORMATTER" "Ljava/util/function/BiFunction;") (hw _ (by decide +kernel))) (fun _ h9 => h9) (show decode prog_16_method_155_code 2 = .ok (.getstatic 1053, 3) by decide +kernel) ?_
    refine tx_call (va_runS (As := [.int (nI k), .int 4, .null]) (rest := []) ⟨hx, hb, hml, hown, hts⟩ (tP_0 l hk) ⟨callB_of 3 hts (tx_in hw (by decide +kernel)) rfl rfl rfl (hts (.initialized "jdk/internal/util/Preconditions") (hw _ (by decide +kernel))) (hts (.methodLink "java/lang/String" 1059 yP_ck) (hw _ (by decide +kernel))) (by decide +kernel) ⟨Nat.le_of_ble_eq_true rfl, Nat.le_of_ble_eq_true rfl⟩, (hts (.static yP_ck) (hw _ (by decide +kernel)))⟩ ⟨tx_bl, fun U hU hW => tx_pre hX hS hU hW⟩ rfl rfl hl.1 rfl (Nat.le_of_ble_eq_true rfl) (show decode prog_16_method_155_code 5 = .ok (.invokestatic 1059, 3) by decide +kernel) ⟨Nat.le_of_ble_eq_true rfl, Nat.le_of_ble_eq_true rfl⟩) ?_
    refine lv_pop hx hb (show decode prog_16_method_155_code 8 = .ok (.pop, 1) by decide +kernel) rfl ?_
    exact W.vret hx hb hr (fun t ht hW => ⟨rfl, ht⟩) (fun q hq => nomatch hq) (show decode prog_16_method_155_code 9 = .ok (.return_, 1) by decide +kernel)
  · refine va_gets (v := .ref t9) hx hb hZ hS hown (hts (.fieldLink "java/lang/String" 1053 "jdk/internal/util/Preconditions" "SIOOBE_FORMATTER" "Ljava/util/function/BiFunction;") (hw _ (by decide +kernel))) (fun _ h9 => h9) (show decode prog_16_method_155_code 2 = .ok (.getstatic 1053, 3) by decide +kernel) ?_
    refine tx_call (va_runS (As := [.int (nI k), .int 4, .ref t9]) (rest := []) ⟨hx, hb, hml, hown, hts⟩ (tP_1 l t9 hk) ⟨callB_of 3 hts (tx_in hw (by decide +kernel)) rfl rfl rfl (hts (.initialized "jdk/internal/util/Preconditions") (hw _ (by decide +kernel))) (hts (.methodLink "java/lang/String" 1059 yP_ck) (hw _ (by decide +kernel))) (by decide +kernel) ⟨Nat.le_of_ble_eq_true rfl, Nat.le_of_ble_eq_true rfl⟩, (hts (.static yP_ck) (hw _ (by decide +kernel)))⟩ ⟨tx_bl, fun U hU hW => tx_pre hX hS hU hW⟩ rfl rfl hl.1 rfl (Nat.le_of_ble_eq_true rfl) (show decode prog_16_method_155_code 5 = .ok (.invokestatic 1059, 3) by decide +kernel) ⟨Nat.le_of_ble_eq_true rfl, Nat.le_of_ble_eq_true rfl⟩) ?_
    refine lv_pop hx hb (show decode prog_16_method_155_code 8 = .ok (.pop, 1) by decide +kernel) rfl ?_
    exact W.vret hx hb hr (fun t ht hW => ⟨rfl, ht⟩) (fun q hq => nomatch hq) (show decode prog_16_method_155_code 9 = .ok (.return_, 1) by decide +kernel)
set_option maxHeartbeats 4000000 in
set_option maxRecDepth 100000 in
theorem tL_chr (l : Launch) {A : Nat → Prop} {ad adV : Nat → Nat} {i k : Nat} (hi : i < 5) (hk : k < 4) : Met l yL_chr (tx_ws yL_chr prog_17_method_2_code 2 (some .char)) ({ frames := 2, cells := 0, slots := 0, locals := 43 }) (tx_P A ad adV [.ref (adV i), .int (nI k)]) (tx_Q (some (.int (tx_c i k)))) 0 0 (fun _ => False) := by
  refine Met.ofW (cc := prog_17_method_2_code) (maxL := 2) (ret := (some .char)) (by decide) rfl ?_
  intro p e s m args below meth c s₁ B hml hv
  obtain ⟨rfl, hX⟩ := hv
  have hx := B.exec
  have hb := B.bytes
  have hr := B.returns
  have hts := atoms_spec (ws := tx_ws yL_chr prog_17_method_2_code 2 (some .char)) B.pre
  have hown : s.vm.findClass "java/lang/StringLatin1" = some m.cls := findClass_of_methodNamed B.named
  have hlocks := B.notSynchronized
  have hw : ∀ w ∈ tx_sw, w ∈ tx_ws yL_chr prog_17_method_2_code 2 (some .char) := fun w h => List.mem_cons_of_mem _ h
  have hS : va_S A s.heap s.heap [] := va_S.rf
  have hl := lv_entry ([.ref (adV i), .int (nI k)]) (n := 2) (Nat.le_of_ble_eq_true rfl)
  rw [lg_entry_eq]
  generalize (lg_sl ([.ref (adV i), .int (nI k)]) ++ List.replicate (2 - (lg_sl ([.ref (adV i), .int (nI k)])).length) Slot.unset).toArray = ls at hl ⊢
  have hl : lv_has ls 2 [(0, .ref (adV i)), (1, .int (nI k))] := hl
  have hT := ((hX.2.1).1 i hi).2.2.2
  rw [tx_len hi] at hT
  refine lv_iload_n hx hb (show decode prog_17_method_2_code 0 = .ok (.iload_n 1, 1) by decide +kernel) rfl (lv_at hl 1 rfl) ?_
  refine lv_aload_n hx hb (show decode prog_17_method_2_code 1 = .ok (.aload_n 0, 1) by decide +kernel) rfl (lv_at hl 0 rfl) ?_
  refine va_tlen (v := 4) hx hb hT hS rfl (show decode prog_17_method_2_code 2 = .ok (.arraylength, 1) by decide +kernel) ?_
  refine tx_call (va_runS (As := [.int (nI k), .int 4]) (rest := []) ⟨hx, hb, hml, hown, hts⟩ (tS_ck l hk) ⟨callB_of 2 hts (tx_in hw (by decide +kernel)) rfl rfl rfl (hts (.initialized "java/lang/String") (hw _ (by decide +kernel))) (hts (.methodLink "java/lang/StringLatin1" 9 yS_ck) (hw _ (by decide +kernel))) (by decide +kernel) ⟨Nat.le_of_ble_eq_true rfl, Nat.le_of_ble_eq_true rfl⟩, (hts (.static yS_ck) (hw _ (by decide +kernel)))⟩ ⟨tx_bl, fun U hU hW => tx_pre hX hS hU hW⟩ rfl rfl hl.1 rfl (Nat.le_of_ble_eq_true rfl) (show decode prog_17_method_2_code 3 = .ok (.invokestatic 9, 3) by decide +kernel) ⟨Nat.le_of_ble_eq_true rfl, Nat.le_of_ble_eq_true rfl⟩) ?_
  refine lv_aload_n hx hb (show decode prog_17_method_2_code 6 = .ok (.aload_n 0, 1) by decide +kernel) rfl (lv_at hl 0 rfl) ?_
  refine lv_iload_n hx hb (show decode prog_17_method_2_code 7 = .ok (.iload_n 1, 1) by decide +kernel) rfl (lv_at hl 1 rfl) ?_
  refine va_tb (v := .int (tx_c i k)) hx hb hT hS (vp_in_nI hk (by decide)) (by rw [nI_clamp (by omega)]; rfl) (show decode prog_17_method_2_code 8 = .ok (.baload, 1) by decide +kernel) ?_
  refine lv_sipush (v := 255) hx hb (show decode prog_17_method_2_code 9 = .ok (.sipush 255, 3) by decide +kernel) (by decide) ?_
  refine lv_iand hx hb (show decode prog_17_method_2_code 12 = .ok (.iand, 1) by decide +kernel) ?_
  refine lv_i2c (v := tx_c i k) hx hb (show decode prog_17_method_2_code 13 = .ok (.i2c, 1) by decide +kernel) (tx_cc i hi k hk).1 ?_
  exact W.zret hx hb hr (tx_cc i hi k hk).2 (fun t ht hW => ⟨rfl, ht⟩) (fun q hq => nomatch hq) (show decode prog_17_method_2_code 14 = .ok (.ireturn, 1) by decide +kernel)
set_option maxHeartbeats 4000000 in
set_option maxRecDepth 100000 in
theorem tS_lat (l : Launch) {A : Nat → Prop} {ad adV : Nat → Nat} {i : Nat} (hi : i < 5) : Met l yS_lat (tx_ws yS_lat prog_16_method_154_code 1 (some .boolean)) ({ frames := 0, cells := 0, slots := 0, locals := 0 }) (tx_P A ad adV [.ref (ad (1000 + i))]) (tx_Q (some (.int 1))) 0 0 (fun _ => False) := by
  refine Met.ofW (cc := prog_16_method_154_code) (maxL := 1) (ret := (some .boolean)) (by decide) rfl ?_
  intro p e s m args below meth c s₁ B hml hv
  obtain ⟨rfl, hX⟩ := hv
  have hx := B.exec
  have hb := B.bytes
  have hr := B.returns
  have hts := atoms_spec (ws := tx_ws yS_lat prog_16_method_154_code 1 (some .boolean)) B.pre
  have hown : s.vm.findClass "java/lang/String" = some m.cls := findClass_of_methodNamed B.named
  have hlocks := B.notSynchronized
  have hw : ∀ w ∈ tx_sw, w ∈ tx_ws yS_lat prog_16_method_154_code 1 (some .boolean) := fun w h => List.mem_cons_of_mem _ h
  have hS : va_S A s.heap s.heap [] := va_S.rf
  have hl := lv_entry ([.ref (ad (1000 + i))]) (n := 1) (Nat.le_of_ble_eq_true rfl)
  rw [lg_entry_eq]
  generalize (lg_sl ([.ref (ad (1000 + i))]) ++ List.replicate (1 - (lg_sl ([.ref (ad (1000 + i))])).length) Slot.unset).toArray = ls at hl ⊢
  have hl : lv_has ls 1 [(0, .ref (ad (1000 + i)))] := hl
  refine va_gets (v := .int 1) hx hb hX.2.2.1 hS hown (hts (.fieldLink "java/lang/String" 38 "java/lang/String" "COMPACT_STRINGS" "Z") (hw _ (by decide +kernel))) (fun _ h9 => h9) (show decode prog_16_method_154_code 0 = .ok (.getstatic 38, 3) by decide +kernel) ?_
  refine lv_if_eq (tgt := 17) hx hb (show decode prog_16_method_154_code 3 = .ok (.ifCond .eq 14, 3) by decide +kernel) (by decide) (fun h => absurd h (by decide)) (fun _ => ?_)
  refine lv_aload_n hx hb (show decode prog_16_method_154_code 6 = .ok (.aload_n 0, 1) by decide +kernel) rfl (lv_at hl 0 rfl) ?_
  refine vk_getf (v := .int 0) hx hb ((hX.2.1).1 i hi).2.1 hS hown (hts (.fieldLink "java/lang/String" 15 "java/lang/String" "coder" "B") (hw _ (by decide +kernel))) (fun _ h9 => h9) (show decode prog_16_method_154_code 7 = .ok (.getfield 15, 3) by decide +kernel) ?_
  refine lv_if_ne (tgt := 17) hx hb (show decode prog_16_method_154_code 10 = .ok (.ifCond .ne 7, 3) by decide +kernel) (by decide) (fun h => absurd rfl h) (fun _ => ?_)
  refine lv_iconst (v := 1) hx hb (show decode prog_16_method_154_code 13 = .ok (.iconst 1, 1) by decide +kernel) (by decide) ?_
  refine lv_goto (tgt := 18) hx hb (show decode prog_16_method_154_code 14 = .ok (.goto 4, 3) by decide +kernel) (by decide) ?_
  exact W.zret hx hb hr (by decide +kernel) (fun t ht hW => ⟨rfl, ht⟩) (fun q hq => nomatch hq) (show decode prog_16_method_154_code 18 = .ok (.ireturn, 1) by decide +kernel)
set_option maxHeartbeats 4000000 in
set_option maxRecDepth 100000 in
theorem tS_cod (l : Launch) {A : Nat → Prop} {ad adV : Nat → Nat} {i : Nat} (hi : i < 5) : Met l yS_cod (tx_ws yS_cod prog_16_method_152_code 1 (some .byte)) ({ frames := 0, cells := 0, slots := 0, locals := 0 }) (tx_P A ad adV [.ref (ad (1000 + i))]) (tx_Q (some (.int 0))) 0 0 (fun _ => False) := by
  refine Met.ofW (cc := prog_16_method_152_code) (maxL := 1) (ret := (some .byte)) (by decide) rfl ?_
  intro p e s m args below meth c s₁ B hml hv
  obtain ⟨rfl, hX⟩ := hv
  have hx := B.exec
  have hb := B.bytes
  have hr := B.returns
  have hts := atoms_spec (ws := tx_ws yS_cod prog_16_method_152_code 1 (some .byte)) B.pre
  have hown : s.vm.findClass "java/lang/String" = some m.cls := findClass_of_methodNamed B.named
  have hlocks := B.notSynchronized
  have hw : ∀ w ∈ tx_sw, w ∈ tx_ws yS_cod prog_16_method_152_code 1 (some .byte) := fun w h => List.mem_cons_of_mem _ h
  have hS : va_S A s.heap s.heap [] := va_S.rf
  have hl := lv_entry ([.ref (ad (1000 + i))]) (n := 1) (Nat.le_of_ble_eq_true rfl)
  rw [lg_entry_eq]
  generalize (lg_sl ([.ref (ad (1000 + i))]) ++ List.replicate (1 - (lg_sl ([.ref (ad (1000 + i))])).length) Slot.unset).toArray = ls at hl ⊢
  have hl : lv_has ls 1 [(0, .ref (ad (1000 + i)))] := hl
  refine va_gets (v := .int 1) hx hb hX.2.2.1 hS hown (hts (.fieldLink "java/lang/String" 38 "java/lang/String" "COMPACT_STRINGS" "Z") (hw _ (by decide +kernel))) (fun _ h9 => h9) (show decode prog_16_method_152_code 0 = .ok (.getstatic 38, 3) by decide +kernel) ?_
  refine lv_if_eq (tgt := 13) hx hb (show decode prog_16_method_152_code 3 = .ok (.ifCond .eq 10, 3) by decide +kernel) (by decide) (fun h => absurd h (by decide)) (fun _ => ?_)
  refine lv_aload_n hx hb (show decode prog_16_method_152_code 6 = .ok (.aload_n 0, 1) by decide +kernel) rfl (lv_at hl 0 rfl) ?_
  refine vk_getf (v := .int 0) hx hb ((hX.2.1).1 i hi).2.1 hS hown (hts (.fieldLink "java/lang/String" 15 "java/lang/String" "coder" "B") (hw _ (by decide +kernel))) (fun _ h9 => h9) (show decode prog_16_method_152_code 7 = .ok (.getfield 15, 3) by decide +kernel) ?_
  refine lv_goto (tgt := 14) hx hb (show decode prog_16_method_152_code 10 = .ok (.goto 4, 3) by decide +kernel) (by decide) ?_
  exact W.zret hx hb hr (by decide +kernel) (fun t ht hW => ⟨rfl, ht⟩) (fun q hq => nomatch hq) (show decode prog_16_method_152_code 14 = .ok (.ireturn, 1) by decide +kernel)
set_option maxHeartbeats 4000000 in
set_option maxRecDepth 100000 in
theorem tS_len (l : Launch) {A : Nat → Prop} {ad adV : Nat → Nat} {i : Nat} (hi : i < 5) : Met l yS_len (tx_ws yS_len prog_16_method_54_code 1 (some .int)) ({ frames := 1, cells := 0, slots := 0, locals := 20 }) (tx_P A ad adV [.ref (ad (1000 + i))]) (tx_Q (some (.int 4))) 0 0 (fun _ => False) := by
  refine Met.ofW (cc := prog_16_method_54_code) (maxL := 1) (ret := (some .int)) (by decide) rfl ?_
  intro p e s m args below meth c s₁ B hml hv
  obtain ⟨rfl, hX⟩ := hv
  have hx := B.exec
  have hb := B.bytes
  have hr := B.returns
  have hts := atoms_spec (ws := tx_ws yS_len prog_16_method_54_code 1 (some .int)) B.pre
  have hown : s.vm.findClass "java/lang/String" = some m.cls := findClass_of_methodNamed B.named
  have hlocks := B.notSynchronized
  have hw : ∀ w ∈ tx_sw, w ∈ tx_ws yS_len prog_16_method_54_code 1 (some .int) := fun w h => List.mem_cons_of_mem _ h
  have hS : va_S A s.heap s.heap [] := va_S.rf
  have hl := lv_entry ([.ref (ad (1000 + i))]) (n := 1) (Nat.le_of_ble_eq_true rfl)
  rw [lg_entry_eq]
  generalize (lg_sl ([.ref (ad (1000 + i))]) ++ List.replicate (1 - (lg_sl ([.ref (ad (1000 + i))])).length) Slot.unset).toArray = ls at hl ⊢
  have hl : lv_has ls 1 [(0, .ref (ad (1000 + i)))] := hl
  have hT := ((hX.2.1).1 i hi).2.2.2
  rw [tx_len hi] at hT
  refine lv_aload_n hx hb (show decode prog_16_method_54_code 0 = .ok (.aload_n 0, 1) by decide +kernel) rfl (lv_at hl 0 rfl) ?_
  refine vk_getf (v := .ref (adV i)) hx hb ((hX.2.1).1 i hi).2.2.1 hS hown (hts (.fieldLink "java/lang/String" 9 "java/lang/String" "value" "[B") (hw _ (by decide +kernel))) (fun _ h9 => h9) (show decode prog_16_method_54_code 1 = .ok (.getfield 9, 3) by decide +kernel) ?_
  refine va_tlen (v := 4) hx hb hT hS rfl (show decode prog_16_method_54_code 4 = .ok (.arraylength, 1) by decide +kernel) ?_
  refine lv_aload_n hx hb (show decode prog_16_method_54_code 5 = .ok (.aload_n 0, 1) by decide +kernel) rfl (lv_at hl 0 rfl) ?_
  refine tx_call (va_runV (As := []) (rest := [.int 4]) (C := "java/lang/String") ⟨hx, hb, hml, hown, hts⟩ (tS_cod l hi) ⟨callB_of 0 hts (tx_in hw (by decide +kernel)) rfl rfl rfl (hts (.initialized "java/lang/String") (hw _ (by decide +kernel))) (hts (.methodLink "java/lang/String" 335 yS_cod) (hw _ (by decide +kernel))) (by decide +kernel) ⟨Nat.le_of_ble_eq_true rfl, Nat.le_of_ble_eq_true rfl⟩, (hts (.instanceMethod yS_cod) (hw _ (by decide +kernel))), (hts (.selects "java/lang/String" yS_cod yS_cod) (hw _ (by decide +kernel)))⟩ ⟨tx_bl, vk_recv hX.2.1 hi hS, fun U hU hW => tx_pre hX hS hU hW⟩ rfl rfl hl.1 rfl (Nat.le_of_ble_eq_true rfl) (show decode prog_16_method_54_code 6 = .ok (.invokevirtual 335, 3) by decide +kernel) ⟨Nat.le_of_ble_eq_true rfl, Nat.le_of_ble_eq_true rfl⟩) ?_
  refine lv_ishr hx hb (show decode prog_16_method_54_code 9 = .ok (.ishr, 1) by decide +kernel) ?_
  exact W.iret hx hb hr (fun t ht hW => ⟨rfl, ht⟩) (fun q hq => nomatch hq) (show decode prog_16_method_54_code 10 = .ok (.ireturn, 1) by decide +kernel)
set_option maxHeartbeats 4000000 in
set_option maxRecDepth 100000 in
theorem tS_chr (l : Launch) {A : Nat → Prop} {ad adV : Nat → Nat} {i k : Nat} (hi : i < 5) (hk : k < 4) : Met l yS_chr (tx_ws yS_chr prog_16_method_56_code 2 (some .char)) ({ frames := 3, cells := 0, slots := 0, locals := 64 }) (tx_P A ad adV [.ref (ad (1000 + i)), .int (nI k)]) (tx_Q (some (.int (tx_c i k)))) 0 0 (fun _ => False) := by
  refine Met.ofW (cc := prog_16_method_56_code) (maxL := 2) (ret := (some .char)) (by decide) rfl ?_
  intro p e s m args below meth c s₁ B hml hv
  obtain ⟨rfl, hX⟩ := hv
  have hx := B.exec
  have hb := B.bytes
  have hr := B.returns
  have hts := atoms_spec (ws := tx_ws yS_chr prog_16_method_56_code 2 (some .char)) B.pre
  have hown : s.vm.findClass "java/lang/String" = some m.cls := findClass_of_methodNamed B.named
  have hlocks := B.notSynchronized
  have hw : ∀ w ∈ tx_sw, w ∈ tx_ws yS_chr prog_16_method_56_code 2 (some .char) := fun w h => List.mem_cons_of_mem _ h
  have hS : va_S A s.heap s.heap [] := va_S.rf
  have hl := lv_entry ([.ref (ad (1000 + i)), .int (nI k)]) (n := 2) (Nat.le_of_ble_eq_true rfl)
  rw [lg_entry_eq]
  generalize (lg_sl ([.ref (ad (1000 + i)), .int (nI k)]) ++ List.replicate (2 - (lg_sl ([.ref (ad (1000 + i)), .int (nI k)])).length) Slot.unset).toArray = ls at hl ⊢
  have hl : lv_has ls 2 [(0, .ref (ad (1000 + i))), (1, .int (nI k))] := hl
  refine lv_aload_n hx hb (show decode prog_16_method_56_code 0 = .ok (.aload_n 0, 1) by decide +kernel) rfl (lv_at hl 0 rfl) ?_
  refine tx_call (va_runV (As := []) (rest := []) (C := "java/lang/String") ⟨hx, hb, hml, hown, hts⟩ (tS_lat l hi) ⟨callB_of 0 hts (tx_in hw (by decide +kernel)) rfl rfl rfl (hts (.initialized "java/lang/String") (hw _ (by decide +kernel))) (hts (.methodLink "java/lang/String" 492 yS_lat) (hw _ (by decide +kernel))) (by decide +kernel) ⟨Nat.le_of_ble_eq_true rfl, Nat.le_of_ble_eq_true rfl⟩, (hts (.instanceMethod yS_lat) (hw _ (by decide +kernel))), (hts (.selects "java/lang/String" yS_lat yS_lat) (hw _ (by decide +kernel)))⟩ ⟨tx_bl, vk_recv hX.2.1 hi hS, fun U hU hW => tx_pre hX hS hU hW⟩ rfl rfl hl.1 rfl (Nat.le_of_ble_eq_true rfl) (show decode prog_16_method_56_code 1 = .ok (.invokevirtual 492, 3) by decide +kernel) ⟨Nat.le_of_ble_eq_true rfl, Nat.le_of_ble_eq_true rfl⟩) ?_
  refine lv_if_eq (tgt := 16) hx hb (show decode prog_16_method_56_code 4 = .ok (.ifCond .eq 12, 3) by decide +kernel) (by decide) (fun h => absurd h (by decide)) (fun _ => ?_)
  refine lv_aload_n hx hb (show decode prog_16_method_56_code 7 = .ok (.aload_n 0, 1) by decide +kernel) rfl (lv_at hl 0 rfl) ?_
  refine vk_getf (v := .ref (adV i)) hx hb ((hX.2.1).1 i hi).2.2.1 hS hown (hts (.fieldLink "java/lang/String" 9 "java/lang/String" "value" "[B") (hw _ (by decide +kernel))) (fun _ h9 => h9) (show decode prog_16_method_56_code 8 = .ok (.getfield 9, 3) by decide +kernel) ?_
  refine lv_iload_n hx hb (show decode prog_16_method_56_code 11 = .ok (.iload_n 1, 1) by decide +kernel) rfl (lv_at hl 1 rfl) ?_
  refine tx_call (va_runS (As := [.ref (adV i), .int (nI k)]) (rest := []) ⟨hx, hb, hml, hown, hts⟩ (tL_chr l hi hk) ⟨callB_of 2 hts (tx_in hw (by decide +kernel)) rfl rfl rfl (hts (.initialized "java/lang/StringLatin1") (hw _ (by decide +kernel))) (hts (.methodLink "java/lang/String" 495 yL_chr) (hw _ (by decide +kernel))) (by decide +kernel) ⟨Nat.le_of_ble_eq_true rfl, Nat.le_of_ble_eq_true rfl⟩, (hts (.static yL_chr) (hw _ (by decide +kernel)))⟩ ⟨tx_bl, fun U hU hW => tx_pre hX hS hU hW⟩ rfl rfl hl.1 rfl (Nat.le_of_ble_eq_true rfl) (show decode prog_16_method_56_code 12 = .ok (.invokestatic 495, 3) by decide +kernel) ⟨Nat.le_of_ble_eq_true rfl, Nat.le_of_ble_eq_true rfl⟩) ?_
  exact W.zret hx hb hr (tx_cc i hi k hk).2 (fun t ht hW => ⟨rfl, ht⟩) (fun q hq => nomatch hq) (show decode prog_16_method_56_code 15 = .ok (.ireturn, 1) by decide +kernel)
