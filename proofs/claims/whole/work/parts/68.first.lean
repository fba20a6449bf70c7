/-! The first store; the constants at the start -/
def dsk0 : Nat → Int32 := (upd (upd (upd (upd (upd (upd (upd (upd (fun _ => 0) 0 229) 16 229) 32 229) 48 229) 64 229) 80 229) 96 229) 112 229)
def st0 : xS := fun o => match o with
  | 6 => dsk0
  | 21 => dsk0
  | 12 => fun k => (match k with
    | 3 => 128
    | _ => 0)
  | 19 => fun k => (match k with
    | 6 => 128
    | 20 => -1
    | _ => 0)
  | _ => fun _ => 0
def dskN (k : Nat) : Nat := if k % 16 = 0 ∧ k < 128 then 229 else 0
def A0 : aS := fun o k => match o with
  | 1 => dskN k
  | 4 => (match k with
    | 1 => 128
    | _ => 0)
  | 16 => (match k with
    | 1 => 4294967295
    | _ => 0)
  | _ => 0
theorem dsk_eq : ∀ k, k < 512 → dsk0 k = nI (dskN k) := by decide +kernel
theorem rcx0 : ∀ o k, k < cN o → st0 (cO o k) (cK o k) = nI (A0 o k)
  | 0, _, _ => rfl
  | 1, k, h => dsk_eq k h
  | 2, _, _ => rfl
  | 3, _, _ => rfl
  | 4, 0, _ => rfl
  | 4, 1, _ => rfl
  | 4, 2, _ => rfl
  | 4, k + 3, h => absurd (show k + 3 < 3 from h) (by omega)
  | 5, _, _ => rfl
  | 6, _, _ => rfl
  | 7, 0, _ => rfl
  | 7, 1, _ => rfl
  | 7, 2, _ => rfl
  | 7, 3, _ => rfl
  | 7, 4, _ => rfl
  | 7, 5, _ => rfl
  | 7, k + 6, h => absurd (show k + 6 < 6 from h) (by omega)
  | 8, _, _ => rfl
  | 9, _, _ => rfl
  | 10, k, h => absurd (show k < 0 from h) (by omega)
  | 11, _, _ => rfl
  | 12, k, h => absurd (show k < 0 from h) (by omega)
  | 13, k, h => absurd (show k < 0 from h) (by omega)
  | 14, _, _ => rfl
  | 15, _, _ => rfl
  | o + 16, k, h => absurd (show k < 0 from h) (by omega)
theorem rmx0 : ∀ o k, k < mN o → st0 (mO o) (mK o k) = nI (A0 o k)
  | 0, _, _ => rfl
  | 1, k, h => dsk_eq k h
  | 2, _, _ => rfl
  | 3, 0, _ => rfl
  | 3, 1, _ => rfl
  | 3, 2, _ => rfl
  | 3, 3, _ => rfl
  | 3, 4, _ => rfl
  | 3, 5, _ => rfl
  | 3, 6, _ => rfl
  | 3, k + 7, h => absurd (show k + 7 < 7 from h) (by omega)
  | 4, 0, _ => rfl
  | 4, 1, _ => rfl
  | 4, 2, _ => rfl
  | 4, k + 3, h => absurd (show k + 3 < 3 from h) (by omega)
  | 5, k, h => absurd (show k < 0 from h) (by omega)
  | 6, _, _ => rfl
  | 7, k, h => absurd (show k < 0 from h) (by omega)
  | 8, _, _ => rfl
  | 9, k, h => absurd (show k < 0 from h) (by omega)
  | 10, _, _ => rfl
  | 11, k, h => absurd (show k < 0 from h) (by omega)
  | 12, _, _ => rfl
  | 13, k, h => absurd (show k < 0 from h) (by omega)
  | 14, k, h => absurd (show k < 0 from h) (by omega)
  | 15, k, h => absurd (show k < 0 from h) (by omega)
  | 16, 0, _ => rfl
  | 16, 1, _ => by decide
  | 16, 2, _ => rfl
  | 16, 3, _ => rfl
  | 16, 4, _ => rfl
  | 16, k + 5, h => absurd (show k + 5 < 5 from h) (by omega)
  | o + 17, k, h => absurd (show k < 0 from h) (by omega)
theorem wx0 : ∀ o k, k < wN o → A0 o k < wB o k
  | 0, _, _ => show 0 < 256 by decide
  | 1, k, _ => show dskN k < 256 by
    unfold dskN
    split <;> decide
  | 2, _, _ => show 0 < 256 by decide
  | 3, 0, _ => show 0 < 65536 by decide
  | 3, 1, _ => show 0 < 70000 by decide
  | 3, _ + 2, _ => show 0 < 2 by decide
  | 4, 0, _ => show 0 < 2147483648 by decide
  | 4, 1, _ => show 128 < 65536 by decide
  | 4, _ + 2, _ => show 0 < 41 by decide
  | 5, _, _ => show 0 < 256 by decide
  | 6, _, _ => show 0 < 256 by decide
  | 7, 0, _ => show 0 < 40 by decide
  | 7, 1, _ => show 0 < 9 by decide
  | 7, 2, _ => show 0 < 4 by decide
  | 7, 3, _ => show 0 < 2147483648 by decide
  | 7, 4, _ => show 0 < 3 by decide
  | 7, _ + 5, _ => show 0 < 21 by decide
  | 8, _, _ => show 0 < 256 by decide
  | 9, _, _ => show 0 < 256 by decide
  | 10, _, _ => show 0 < 256 by decide
  | 11, _, _ => show 0 < 256 by decide
  | 12, _, _ => show 0 < 256 by decide
  | 13, _, _ => show 0 < 2 by decide
  | 14, _, _ => show 0 < 21 by decide
  | 15, _, _ => show 0 < 21 by decide
  | 16, 0, _ => show 0 < 3 by decide
  | 16, 1, _ => show 4294967295 < 4294967296 by decide
  | 16, 2, _ => show 0 < 2147483648 by decide
  | 16, 3, _ => show 0 < 3 by decide
  | 16, _ + 4, _ => show 0 < 21 by decide
  | o + 17, k, h => absurd (show k < 0 from h) (by omega)
theorem iv0 : Iv 0 A0 := ⟨⟨fun i hi => absurd (show i < 0 from hi) (by omega), Or.inl ⟨rfl, rfl⟩, rfl, show 0 < 65536 by decide, fun h => absurd (show 0 = 2 from h) (by decide)⟩, rfl, rfl, show 0 ≤ 171000 * 0 by decide, show 0 ≤ 1000 * 0 by decide⟩
theorem xc0 : XC A0 st0 := ⟨rcx0, wx0⟩
theorem xm0 : XM A0 st0 := ⟨rmx0, wx0⟩
def ad9 (adl : List Nat) (w9 : Nat) (K : Nat → Nat) (k : Nat) : Nat := match Nat.beq k 900 with
  | true => w9
  | false => (match Nat.ble 1000 k with
    | true => K (k - 1000)
    | false => adl.getD k 0)
theorem ad9_k (adl : List Nat) (w9 : Nat) (K : Nat → Nat) (i : Nat) : ad9 adl w9 K (1000 + i) = K i := by
  have h1 : Nat.beq (1000 + i) 900 = false := by
    cases h : Nat.beq (1000 + i) 900
    · rfl
    · exact absurd (Nat.eq_of_beq_eq_true h) (by omega)
  have h2 : Nat.ble 1000 (1000 + i) = true := Nat.ble_eq_true_of_le (by omega)
  unfold ad9
  rw [h1, h2]
  show K (1000 + i - 1000) = K i
  rw [Nat.add_sub_cancel_left]
theorem tx_sw_in : ∀ w ∈ tx_sw, w ∈ lw_tbl := fun w hw => of_decide_eq_true (List.all_eq_true.mp (show tx_sw.all (fun w => decide (w ∈ lw_tbl)) = true by decide +kernel) w hw)
theorem th_W_in : ∀ w ∈ th_W, w ∈ lw_tbl := fun w hw => of_decide_eq_true (List.all_eq_true.mp (show th_W.all (fun w => decide (w ∈ lw_tbl)) = true by decide +kernel) w hw)
set_option maxHeartbeats 8000000 in
set_option maxRecDepth 100000 in
theorem nw_start {s : State} {b : Nat} (hts : ∀ w ∈ lw_tbl, w.before #[Value.ref b] s = true) (hgv : (Jvm.Cond.and given_1 narrow_1).before #[Value.ref b] s = true) : ∃ (w9 : Nat) (K adV : Nat → Nat), ∀ adl : List Nat, NW9 (fun q => s.heap.size ≤ q) (ad9 adl w9 K) adV s := by
  have hs := flat_of_before _ hgv
  have hA : ∀ a : Nat, a < s.heap.size → ¬ (fun q => s.heap.size ≤ q) a := fun a h1 h2 => absurd (show s.heap.size ≤ a from h2) (by omega)
  obtain ⟨w9, hw9, hT9⟩ := va_Tof (tm := .static "DeskMachine$Desk" "WORDS_NEEDED" "[I") (ty := .int) (N := 7) (f := fun j => .int (([1, 2, 2, 3, 3, 1, 0] : List Int32).getD j 0)) (A := fun q => s.heap.size ≤ q) (by decide) (hs _ (by decide +kernel)) (va_eqt (hs _ (by decide +kernel))) (fun j hj => by
    have e : j = 0 ∨ j = 1 ∨ j = 2 ∨ j = 3 ∨ j = 4 ∨ j = 5 ∨ j = 6 := by omega
    rcases e with rfl | rfl | rfl | rfl | rfl | rfl | rfl <;> exact va_eqt (hs _ (by decide +kernel))) hA
  have f5 : ∀ i, i < 5 → i = 0 ∨ i = 1 ∨ i = 2 ∨ i = 3 ∨ i = 4 := fun i hi => by omega
  obtain ⟨K, adV, hSS, hev⟩ := vk_Sof (args := #[Value.ref b]) (s := s) (N := 5) (tm := fun i => .string "DeskMachine$Desk" (([67, 73, 75, 77, 79] : List Nat).getD i 0)) (len := tx_l) (byt := tx_b) (A := fun q => s.heap.size ≤ q) (fun i hi => by rw [tx_len hi]; decide)
    (fun i hi => by rcases f5 i hi with rfl | rfl | rfl | rfl | rfl <;> exact hs _ (by decide +kernel))
    (fun i hi => by rcases f5 i hi with rfl | rfl | rfl | rfl | rfl <;> exact hs _ (by decide +kernel))
    (fun i hi => by rcases f5 i hi with rfl | rfl | rfl | rfl | rfl <;> exact hs _ (by decide +kernel))
    (fun i hi => by rcases f5 i hi with rfl | rfl | rfl | rfl | rfl <;> exact hs _ (by decide +kernel))
    (fun i hi j hj => by
      rw [tx_len hi] at hj
      have ej : j = 0 ∨ j = 1 ∨ j = 2 ∨ j = 3 := by omega
      rcases f5 i hi with rfl | rfl | rfl | rfl | rfl <;> rcases ej with rfl | rfl | rfl | rfl <;> exact hs _ (by decide +kernel))
    (fun i j hi hj hij => by
      rcases f5 i hi with rfl | rfl | rfl | rfl | rfl <;> rcases f5 j hj with rfl | rfl | rfl | rfl | rfl <;> first
        | exact absurd rfl hij
        | exact Or.inl (hs _ (by decide +kernel))
        | exact Or.inr (hs _ (by decide +kernel))) hA
  refine ⟨w9, K, adV, fun adl => ?_⟩
  have eK : (fun i => ad9 adl w9 K (1000 + i)) = K := funext (ad9_k adl w9 K)
  have hZ : va_Z "DeskMachine$Desk" "WORDS_NEEDED" "[I" (.ref w9) (fun q => s.heap.size ≤ q) s s.heap := va_Zof (hts (.laysStatic "DeskMachine$Desk" "WORDS_NEEDED" "[I") (List.mem_of_getElem? (i := 535) (by decide +kernel))) (hts (.initialized "DeskMachine$Desk") (List.mem_of_getElem? (i := 119) (by decide +kernel))) hw9 hA
  have htx : ∀ z ∈ x_txs, ∃ tx : String, vk_R "DeskMachine$Desk" z.1 tx (ad9 adl w9 K z.2) s := List.forall_mem_cons.mpr ⟨⟨"LIST", vk_R.of (hts (.stringRef "DeskMachine$Desk" 67 "LIST") (List.mem_of_getElem? (i := 477) (by decide +kernel))) (hev 0 (by decide))⟩, List.forall_mem_cons.mpr ⟨⟨"SHOW", vk_R.of (hts (.stringRef "DeskMachine$Desk" 73 "SHOW") (List.mem_of_getElem? (i := 530) (by decide +kernel))) (hev 1 (by decide))⟩, List.forall_mem_cons.mpr ⟨⟨"DROP", vk_R.of (hts (.stringRef "DeskMachine$Desk" 75 "DROP") (List.mem_of_getElem? (i := 531) (by decide +kernel))) (hev 2 (by decide))⟩, List.forall_mem_cons.mpr ⟨⟨"CALL", vk_R.of (hts (.stringRef "DeskMachine$Desk" 77 "CALL") (List.mem_of_getElem? (i := 532) (by decide +kernel))) (hev 3 (by decide))⟩, List.forall_mem_cons.mpr ⟨⟨"SAVE", vk_R.of (hts (.stringRef "DeskMachine$Desk" 79 "SAVE") (List.mem_of_getElem? (i := 533) (by decide +kernel))) (hev 4 (by decide))⟩, fun _ h => absurd h List.not_mem_nil⟩⟩⟩⟩⟩
  refine ⟨hZ, hT9, htx, ⟨fun w hw => word_at (State.WarmedH.refl s) (good_of_word (tx_good w hw)) (hts w (tx_sw_in w hw)), by rw [eK]; exact hSS, va_Zof (hts (.laysStatic "java/lang/String" "COMPACT_STRINGS" "Z") (List.mem_of_getElem? (i := 491) (by decide +kernel))) (hts (.initialized "java/lang/String") (List.mem_of_getElem? (i := 126) (by decide +kernel))) (va_eqt (hs _ (by decide +kernel))) hA, va_Zqof (hts (.laysStatic "jdk/internal/util/Preconditions" "SIOOBE_FORMATTER" "Ljava/util/function/BiFunction;") (List.mem_of_getElem? (i := 507) (by decide +kernel))) (hts (.initialized "jdk/internal/util/Preconditions") (List.mem_of_getElem? (i := 128) (by decide +kernel))) (hs _ (by decide +kernel)) hA⟩, fun w hw => vx_ot_at (State.WarmedH.refl s) rfl (List.all_eq_true.mp (show th_W.all vx_ot = true by decide +kernel) w hw) (hts w (th_W_in w hw)), vx_Zqof (hts (.laysStatic Bundle.tN "UNASSIGNED_STACK" Bundle.steD) (List.mem_of_getElem? (i := 380) (by decide +kernel))) (hts (.initialized Bundle.tN) (List.mem_of_getElem? (i := 121) (by decide +kernel))) (hs _ (by decide +kernel)) hA, vx_Zqof (hts (.laysStatic Bundle.tN "SUPPRESSED_SENTINEL" Bundle.listD) (List.mem_of_getElem? (i := 382) (by decide +kernel))) (hts (.initialized Bundle.tN) (List.mem_of_getElem? (i := 121) (by decide +kernel))) (hs _ (by decide +kernel)) hA, va_Nc.of (hs _ (by decide +kernel))⟩
