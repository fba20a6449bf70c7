/-! The characters of a word -/
theorem skp_min (l : Nat → Nat) (L : Nat) (b : Bool) : ∀ m k s, k ≤ m → skp l L b k s = min (s + k) (skp l L b m s)
  | m, 0, s, _ => by
    have := (skp_le l L b m s).1
    rw [skp, Nat.min_eq_left (by omega), Nat.add_zero]
  | 0, k + 1, s, h => by omega
  | m + 1, k + 1, s, h => by
    rw [skp, skp]
    by_cases g : s < L ∧ decide (l s = 32) = b
    · rw [if_pos g, if_pos g, skp_min l L b m k (s + 1) (by omega), show s + 1 + k = s + (k + 1) from by omega]
    · rw [if_neg g, if_neg g, Nat.min_eq_right (by omega)]
theorem skp_end (l : Nat → Nat) (L : Nat) (b : Bool) : ∀ m s, L ≤ s + m → ¬ (skp l L b m s < L ∧ decide (l (skp l L b m s) = 32) = b)
  | 0, s, h => by
    rw [skp]
    omega
  | m + 1, s, h => by
    rw [skp]
    by_cases g : s < L ∧ decide (l s = 32) = b
    · rw [if_pos g]
      exact skp_end l L b m (s + 1) (by omega)
    · rw [if_neg g]
      exact g
theorem skp_in (l : Nat → Nat) (L : Nat) (b : Bool) : ∀ m s j, s ≤ j → j < skp l L b m s → j < L ∧ decide (l j = 32) = b
  | 0, s, j, h, h2 => by
    rw [skp] at h2
    omega
  | m + 1, s, j, h, h2 => by
    rw [skp] at h2
    by_cases g : s < L ∧ decide (l s = 32) = b
    · rw [if_pos g] at h2
      by_cases e : s = j
      · subst e; exact g
      · exact skp_in l L b m (s + 1) j (by omega) h2
    · rw [if_neg g] at h2
      omega
/-- character k of word w, or a space -/
def chr (l : Nat → Nat) (L w k : Nat) : Nat := if wS l L w + k < wE l L w then l (wS l L w + k) else 32
theorem chr_eq (l : Nat → Nat) (L w k : Nat) (hL : L ≤ 20) (hk : k ≤ 20) : (if skp l L false k (wS l L w) < L then l (skp l L false k (wS l L w)) else 32) = chr l L w k := by
  have e := skp_min l L false 20 k (wS l L w) hk
  have hend := skp_end l L false 20 (wS l L w) (by omega)
  have hle := (skp_le l L false 20 (wS l L w)).2 (wS_le l L w)
  rw [e]
  unfold chr wE
  by_cases g : wS l L w + k < skp l L false 20 (wS l L w)
  · rw [if_pos g, Nat.min_eq_left (by omega), if_pos (by omega)]
  · rw [if_neg g, Nat.min_eq_right (by omega)]
    by_cases g2 : skp l L false 20 (wS l L w) < L
    · rw [if_pos g2]
      by_cases g3 : l (skp l L false 20 (wS l L w)) = 32
      · exact g3
      · exact absurd ⟨g2, decide_eq_false g3⟩ hend
    · rw [if_neg g2]
theorem chr_lt {A : aS} (w : WX A) {L v k : Nat} (hL : L ≤ 20) : chr (A 6) L v k < 256 := by
  unfold chr
  split
  · have hle := (skp_le (A 6) L false 20 (wS (A 6) L v)).2 (wS_le (A 6) L v)
    rename_i g
    unfold wE at g
    exact x_lin_lt w (by omega)
  · decide
section W3
variable {A : aS} {σ : xS} (d : Nat)
theorem y_chx (h : XM A σ) {k : Nat} (hk : k < 20) : ∀ m, m ≤ k → ∀ i n, i ≤ 20 → m < n → xr x_i110 d n 9 [(0, .ref 19), (2, .int (nI k)), (3, .int (nI i)), (4, .int (nI (k - m)))] [] σ = some (nI (if skp (A 6) (A 16 4) false m i < A 16 4 then A 6 (skp (A 6) (A 16 4) false m i) else 32), σ) := by
  have hL := x_lenM h.2
  have fin : ∀ i, i ≤ 20 → (if (σ 19 15) ≤ nI i then some ((32 : Int32), σ) else (if nI i < 0 ∨ 20 ≤ (nI i).toNatClampNeg then none else some ((σ 24 (nI i).toNatClampNeg), σ))) = some (nI (if i < A 16 4 then A 6 i else 32), σ) := fun i hi => by
    by_cases g : i < A 16 4
    · rw [if_neg (by rw [yv_len h]; exact n_ge g (by omega)), if_neg (n_ok (by omega) (by decide)), n_cl (by omega), yv_lin h (by omega), if_pos g]
    · rw [if_pos (by rw [yv_len h]; exact (nI_leI (by omega) (by omega)).mpr (by omega)), if_neg g]
      rfl
  intro m
  induction m with
  | zero =>
    intro _ i n hi hn
    obtain ⟨n, rfl⟩ : ∃ q, n = q + 1 := ⟨n - 1, by omega⟩
    rw [c110_9, if_pos (by exact (nI_leI (by omega) (by omega)).mpr (by omega)), skp]
    exact fin i hi
  | succ m ih =>
    intro hm i n hi hn
    obtain ⟨n, rfl⟩ : ∃ q, n = q + 1 := ⟨n - 1, by omega⟩
    have e2 : k - (m + 1) + 1 = k - m := by omega
    have f := fin i hi
    rw [c110_9, if_neg (by exact n_ge (by omega) (by omega))]
    by_cases g : i < A 16 4
    · have hv := x_lin_lt h.2 (i := i) (by omega)
      have hs := yv_lin h (i := i) (by omega)
      by_cases g3 : A 6 i = 32
      · have sk : skp (A 6) (A 16 4) false (m + 1) i = i := by
          rw [skp, if_neg (fun z => by rw [decide_eq_true g3] at z; cases z.2)]
        rw [sk, if_neg (show ¬ (σ 19 15) ≤ nI i by rw [yv_len h]; exact n_ge g (by omega)), if_neg (n_ok (by omega) (by decide)), if_pos (by rw [n_cl (by omega), hs, g3]; rfl)]
        exact f
      · have sk : skp (A 6) (A 16 4) false (m + 1) i = skp (A 6) (A 16 4) false m (i + 1) := by
          rw [skp, if_pos ⟨g, decide_eq_false g3⟩]
        rw [sk, if_neg (show ¬ (σ 19 15) ≤ nI i by rw [yv_len h]; exact n_ge g (by omega)), if_neg (n_ok (by omega) (by decide)), if_neg (by rw [n_cl (by omega), hs]; intro z; exact g3 ((nI_eq (b := 32) (by omega) (by omega)).mp z)), show (1 : Int32) = nI 1 from rfl, nI_add, nI_add, e2]
        exact ih (by omega) (i + 1) n (by omega) (by omega)
    · have sk : skp (A 6) (A 16 4) false (m + 1) i = i := by
        rw [skp, if_neg (fun z => g z.1)]
      rw [sk, if_pos (show (σ 19 15) ≤ nI i by rw [yv_len h]; exact (nI_leI (by omega) (by omega)).mpr (by omega))]
      exact f
theorem y_char (h : XM A σ) {w k : Nat} (hw : w < 8) (hk : k < 20) : x_M (d + 2) 110 [.ref 19, .int (nI w), .int (nI k)] σ = some (nI (chr (A 6) (A 16 4) w k), σ) := by
  have hL := x_lenM h.2
  have hs := wS_le (A 6) (A 16 4) w
  have q := y_chx (d + 1) h hk k (Nat.le_refl _) (wS (A 6) (A 16 4) w) 4999 (by omega) (by omega)
  rw [Nat.sub_self, chr_eq _ _ _ _ (by omega) (by omega)] at q
  rw [m110, y_begins d h hw, bnd0]
  exact q
end W3
