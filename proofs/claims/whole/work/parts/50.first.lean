/-! The first word, and the line's command -/
theorem nI_sub {a b : Nat} (h : b ≤ a) : nI a - nI b = nI (a - b) := by
  have e : nI a = nI (a - b) + nI b := by rw [nI_add, Nat.sub_add_cancel h]
  rw [e, Int32.add_sub_cancel]
/-- the words' rows are those of line l with L characters -/
def Wd (B : aS) (l : Nat → Nat) (L : Nat) : Prop := B 6 = l ∧ B 16 4 = L ∧ L ≤ 20 ∧ B 7 2 = (if wS l L 0 < L then (if wS l L 1 < L then (if wS l L 2 < L then 3 else 2) else 1) else 0) ∧ ∀ w, w < 3 → wS l L w < L → B 14 w = wS l L w ∧ B 15 w = wE l L w
theorem wN4_eq {B : aS} {l : Nat → Nat} {L : Nat} (w : Wd B l L) {i : Nat} (hi : i < 3) (hp : wS l L i < L) : wN4 B i = fun k => chr l L i k := by
  obtain ⟨h6, -, -, -, h⟩ := w
  obtain ⟨a, b⟩ := h i hi hp
  funext k
  unfold wN4 chr
  rw [a, b, h6]
/-- is the first word these four letters? -/
def isW (l : Nat → Nat) (L a b c e : Nat) : Bool := decide (chr l L 0 0 = a ∧ chr l L 0 1 = b ∧ chr l L 0 2 = c ∧ chr l L 0 3 = e ∧ chr l L 0 4 = 32)
theorem x_M_10 (d : Nat) (as : List Value) (σ : xS) : x_M (d + 1) 10 as σ = x_fw as σ := rfl
theorem x_fw_at {o : Nat} {t : Int32 × Int32 × Int32 × Int32} (ht : x_tx o = some t) (σ : xS) : x_fw [.ref 14, .ref o] σ = (if σ 17 0 - σ 16 0 = 4 then (if σ 16 0 < 0 ∨ 16 < σ 16 0 then none else some (if σ 15 (σ 16 0).toNatClampNeg = t.1 ∧ σ 15 ((σ 16 0).toNatClampNeg + 1) = t.2.1 ∧ σ 15 ((σ 16 0).toNatClampNeg + 2) = t.2.2.1 ∧ σ 15 ((σ 16 0).toNatClampNeg + 3) = t.2.2.2 then 1 else 0, σ)) else some (0, σ)) := by
  simp only [x_fw, ht]
section FW
variable {B : aS} {σ τ : xS} (d : Nat)
theorem y_isW (h : XM B τ) {a b c e : Nat} (ha : a < 256) (hb : b < 256) (hc : c < 256) (he : e < 256) : x_M (d + 3) 111 [.ref 19, .int (nI a), .int (nI b), .int (nI c), .int (nI e)] τ = some (nI (bN (isW (B 6) (B 16 4) a b c e)), τ) := by
  have hL := x_lenM h.2
  have lt : ∀ k, chr (B 6) (B 16 4) 0 k < 256 := fun k => chr_lt h.2 (by omega)
  have q0 : x_M (d + 2) 110 [.ref 19, .int (0 : Int32), .int (0 : Int32)] τ = some (nI (chr (B 6) (B 16 4) 0 0), τ) := y_char d h (w := 0) (k := 0) (by decide) (by decide)
  have q1 : x_M (d + 2) 110 [.ref 19, .int (0 : Int32), .int (1 : Int32)] τ = some (nI (chr (B 6) (B 16 4) 0 1), τ) := y_char d h (w := 0) (k := 1) (by decide) (by decide)
  have q2 : x_M (d + 2) 110 [.ref 19, .int (0 : Int32), .int (2 : Int32)] τ = some (nI (chr (B 6) (B 16 4) 0 2), τ) := y_char d h (w := 0) (k := 2) (by decide) (by decide)
  have q3 : x_M (d + 2) 110 [.ref 19, .int (0 : Int32), .int (3 : Int32)] τ = some (nI (chr (B 6) (B 16 4) 0 3), τ) := y_char d h (w := 0) (k := 3) (by decide) (by decide)
  have q4 : x_M (d + 2) 110 [.ref 19, .int (0 : Int32), .int (4 : Int32)] τ = some (nI (chr (B 6) (B 16 4) 0 4), τ) := y_char d h (w := 0) (k := 4) (by decide) (by decide)
  have ne : ∀ {x k : Nat}, x < 256 → ¬ chr (B 6) (B 16 4) 0 k = x → ¬ nI (chr (B 6) (B 16 4) 0 k) = nI x := fun {x k} hx g z => g ((nI_eq (by have := lt k; omega) (by omega)).mp z)
  unfold isW
  rw [m111, q0, bnd0]
  dsimp only
  by_cases g0 : chr (B 6) (B 16 4) 0 0 = a
  · rw [if_pos (by rw [g0]), q1, bnd0]
    dsimp only
    by_cases g1 : chr (B 6) (B 16 4) 0 1 = b
    · rw [if_pos (by rw [g1]), q2, bnd0]
      dsimp only
      by_cases g2 : chr (B 6) (B 16 4) 0 2 = c
      · rw [if_pos (by rw [g2]), q3, bnd0]
        dsimp only
        by_cases g3 : chr (B 6) (B 16 4) 0 3 = e
        · rw [if_pos (by rw [g3]), q4, bnd0]
          dsimp only
          by_cases g4 : chr (B 6) (B 16 4) 0 4 = 32
          · rw [if_pos (by rw [g4]; rfl), decide_eq_true ⟨g0, g1, g2, g3, g4⟩]
            rfl
          · rw [if_neg (by exact ne (x := 32) (by decide) g4), decide_eq_false (fun z => g4 z.2.2.2.2)]
            rfl
        · rw [if_neg (by exact ne he g3), decide_eq_false (fun z => g3 z.2.2.2.1)]
          rfl
      · rw [if_neg (by exact ne hc g2), decide_eq_false (fun z => g2 z.2.2.1)]
        rfl
    · rw [if_neg (by exact ne hb g1), decide_eq_false (fun z => g1 z.2.1)]
      rfl
  · rw [if_neg (by exact ne ha g0), decide_eq_false (fun z => g0 z.1)]
    rfl
theorem c_fw {l : Nat → Nat} {L : Nat} (h : XC B σ) (w : Wd B l L) (h0 : wS l L 0 < L) {o a b c e : Nat} (ht : x_tx o = some (nI a, nI b, nI c, nI e)) (ha : a < 256) (hb : b < 256) (hc : c < 256) (he : e < 256) (hs : ¬ e = 32) : x_M (d + 1) 10 [.ref 14, .ref o] σ = some (nI (bN (isW l L a b c e)), σ) := by
  have hi := (p_iff l L 0 w.2.2.1).mpr h0
  have hE := wE_le l L 0
  have hL := w.2.2.1
  obtain ⟨wa, wb⟩ := w.2.2.2.2 0 (by decide) h0
  have v14 := xv_wst h (i := 0) (by decide)
  have v15 := xv_wen h (i := 0) (by decide)
  rw [wa] at v14
  rw [wb] at v15
  have v6 : ∀ {i : Nat}, i < 20 → σ 15 i = nI (l i) := fun {i} hi => by rw [← w.1]; exact xv_lin h hi
  have l6 : ∀ {i : Nat}, i < 20 → l i < 256 := fun {i} hi => by rw [← w.1]; exact x_lin_lt h.2 hi
  have ns : ∀ j, wS l L 0 ≤ j → j < wE l L 0 → ¬ l j = 32 := fun j h1 h2 z => by
    have q := (skp_in l L false 20 (wS l L 0) j h1 h2).2
    rw [decide_eq_true z] at q
    cases q
  rw [x_M_10, x_fw_at ht, v14, v15, nI_sub (by omega)]
  by_cases g : wE l L 0 - wS l L 0 = 4
  · have ch : ∀ k, k < 4 → chr l L 0 k = l (wS l L 0 + k) := fun k hk => by
      unfold chr
      rw [if_pos (by omega)]
    have ch4 : chr l L 0 4 = 32 := by
      unfold chr
      rw [if_neg (by omega)]
    rw [if_pos (by rw [g]; rfl), if_neg (by exact fun z => z.elim (fun y => nI_pos (n := wS l L 0) (by omega) y) (fun y => absurd ((nI_ltI (a := 16) (by omega) (by omega)).mp y) (by omega))), n_cl (by omega), v6 (i := wS l L 0) (by omega), v6 (i := wS l L 0 + 1) (by omega), v6 (i := wS l L 0 + 2) (by omega), v6 (i := wS l L 0 + 3) (by omega)]
    have b0 := l6 (i := wS l L 0) (by omega)
    have b1 := l6 (i := wS l L 0 + 1) (by omega)
    have b2 := l6 (i := wS l L 0 + 2) (by omega)
    have b3 := l6 (i := wS l L 0 + 3) (by omega)
    unfold isW
    rw [ch 0 (by decide), ch 1 (by decide), ch 2 (by decide), ch 3 (by decide), Nat.add_zero]
    dsimp only
    by_cases gg : l (wS l L 0) = a ∧ l (wS l L 0 + 1) = b ∧ l (wS l L 0 + 2) = c ∧ l (wS l L 0 + 3) = e
    · rw [if_pos ⟨by rw [gg.1], by rw [gg.2.1], by rw [gg.2.2.1], by rw [gg.2.2.2]⟩, decide_eq_true ⟨gg.1, gg.2.1, gg.2.2.1, gg.2.2.2, ch4⟩]
      rfl
    · rw [if_neg (fun z => gg ⟨(nI_eq (by omega) (by omega)).mp z.1, (nI_eq (by omega) (by omega)).mp z.2.1, (nI_eq (by omega) (by omega)).mp z.2.2.1, (nI_eq (by omega) (by omega)).mp z.2.2.2⟩), decide_eq_false (fun z => gg ⟨z.1, z.2.1, z.2.2.1, z.2.2.2.1⟩)]
      rfl
  · rw [if_neg (by exact fun z => g ((nI_eq (b := 4) (by omega) (by omega)).mp z))]
    have f : isW l L a b c e = false := by
      unfold isW
      refine decide_eq_false (fun z => ?_)
      have z3 := z.2.2.2.1
      have z4 := z.2.2.2.2
      unfold chr at z3 z4
      by_cases g3 : wS l L 0 + 3 < wE l L 0
      · rw [if_pos (show wS l L 0 + 4 < wE l L 0 by omega)] at z4
        exact ns _ (by omega) (by omega) z4
      · rw [if_neg g3] at z3
        omega
    rw [f]
    rfl
def cmdN (l : Nat → Nat) (L : Nat) : Nat := if isW l L 76 73 83 84 = true then 0 else if isW l L 83 72 79 87 = true then 1 else if isW l L 68 82 79 80 = true then 2 else if isW l L 67 65 76 76 = true then 3 else if isW l L 83 65 86 69 = true then 4 else 5
theorem c_cmd {l : Nat → Nat} {L : Nat} (h : XC B σ) (w : Wd B l L) (h0 : wS l L 0 < L) : x_M (d + 2) 11 [.ref 14] σ = some (nI (cmdN l L), σ) := by
  have w0 : ¬ B 7 2 = 0 := by
    rw [w.2.2.2.1, if_pos h0]
    split
    · split <;> decide
    · decide
  have wl : B 7 2 < 4 := h.2 7 2 (by decide)
  have z1 := c_fw d h w h0 (o := 1000) (a := 76) (b := 73) (c := 83) (e := 84) rfl (by decide) (by decide) (by decide) (by decide) (by decide)
  have z2 := c_fw d h w h0 (o := 1001) (a := 83) (b := 72) (c := 79) (e := 87) rfl (by decide) (by decide) (by decide) (by decide) (by decide)
  have z3 := c_fw d h w h0 (o := 1002) (a := 68) (b := 82) (c := 79) (e := 80) rfl (by decide) (by decide) (by decide) (by decide) (by decide)
  have z4 := c_fw d h w h0 (o := 1003) (a := 67) (b := 65) (c := 76) (e := 76) rfl (by decide) (by decide) (by decide) (by decide) (by decide)
  have z5 := c_fw d h w h0 (o := 1004) (a := 83) (b := 65) (c := 86) (e := 69) rfl (by decide) (by decide) (by decide) (by decide) (by decide)
  unfold cmdN
  rw [m11, if_neg (by rw [xv_wds h]; exact nI_ne0 (by omega) (by omega)), z1, bnd0]
  dsimp only
  cases isW l L 76 73 83 84
  · rw [if_pos (show nI (bN false) = (0 : Int32) from rfl), iF, z2, bnd0]
    dsimp only
    cases isW l L 83 72 79 87
    · rw [if_pos (show nI (bN false) = (0 : Int32) from rfl), iF, z3, bnd0]
      dsimp only
      cases isW l L 68 82 79 80
      · rw [if_pos (show nI (bN false) = (0 : Int32) from rfl), iF, z4, bnd0]
        dsimp only
        cases isW l L 67 65 76 76
        · rw [if_pos (show nI (bN false) = (0 : Int32) from rfl), iF, z5, bnd0]
          dsimp only
          cases isW l L 83 65 86 69
          · rw [if_pos (show nI (bN false) = (0 : Int32) from rfl), iF]
            rfl
          · rw [if_neg (show ¬ nI (bN true) = (0 : Int32) by decide), iT]
            rfl
        · rw [if_neg (show ¬ nI (bN true) = (0 : Int32) by decide), iT]
          rfl
      · rw [if_neg (show ¬ nI (bN true) = (0 : Int32) by decide), iT]
        rfl
    · rw [if_neg (show ¬ nI (bN true) = (0 : Int32) by decide), iT]
      rfl
  · rw [if_neg (show ¬ nI (bN true) = (0 : Int32) by decide), iT]
    rfl
theorem c_cmd6 {l : Nat → Nat} {L : Nat} (h : XC B σ) (w : Wd B l L) (h0 : ¬ wS l L 0 < L) : x_M (d + 1) 11 [.ref 14] σ = some (nI 6, σ) := by
  rw [m11, if_pos (by rw [xv_wds h, w.2.2.2.1, if_neg h0]; rfl)]
  rfl
theorem isW_ex {l : Nat → Nat} {L a b c e a' b' c' e' : Nat} (h : isW l L a b c e = true) (hn : ¬ (a = a' ∧ b = b' ∧ c = c' ∧ e = e')) : isW l L a' b' c' e' = false := by
  have z := of_decide_eq_true h
  refine decide_eq_false (fun y => hn ⟨?_, ?_, ?_, ?_⟩)
  · exact z.1.symm.trans y.1
  · exact z.2.1.symm.trans y.2.1
  · exact z.2.2.1.symm.trans y.2.2.1
  · exact z.2.2.2.1.symm.trans y.2.2.2.1
end FW
