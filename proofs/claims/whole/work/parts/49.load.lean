/-! Loading a file's records -/
def ldS (D : Nat → Nat) (e c : Nat) : Nat → aS → aS
  | 0, C => C
  | m + 1, C => if isD (D (16 * e + (6 + (c - (m + 1))))) = true then ldS D e c m (aRd C (D (16 * e + (6 + (c - (m + 1))))) (256 + 16 * (c - (m + 1))) 0) else ldS D e c m C
theorem ldS_row (D : Nat → Nat) (e c : Nat) {o : Nat} (h : ¬ o = 0) : ∀ m (C : aS), ldS D e c m C o = C o
  | 0, C => rfl
  | m + 1, C => by
    rw [ldS]
    split
    · rw [ldS_row D e c h m, aRd_row _ _ _ _ h]
    · exact ldS_row D e c h m C
section U1
variable (d : Nat)
theorem c_ld {D : Nat → Nat} {e c : Nat} (he : e < 8) (hc : c ≤ 10) : ∀ m, m ≤ c → ∀ (C : aS) (σ : xS) (n : Nat), XC C σ → C 1 = D → m < n → ∃ σ', xr x_i39 (d + 2) n 24 [(0, .ref 14), (1, .int (nI e)), (2, .int (nI c)), (3, .int (nI (c - m)))] [] σ = some (nI 1, σ') ∧ XC (ldS D e c m C) σ' := by
  intro m
  induction m with
  | zero =>
    intro _ C σ n h _ hn
    obtain ⟨n, rfl⟩ : ∃ q, n = q + 1 := ⟨n - 1, by omega⟩
    rw [c39_24, if_pos (by exact (nI_leI (by omega) (by omega)).mpr (by omega))]
    exact ⟨σ, rfl, h⟩
  | succ m ih =>
    intro hm C σ n h hD hn
    obtain ⟨n, rfl⟩ : ∃ q, n = q + 1 := ⟨n - 1, by omega⟩
    have e2 : c - (m + 1) + 1 = c - m := by omega
    have hv : D (16 * e + (6 + (c - (m + 1)))) < 256 := by rw [← hD]; exact x_dsk_lt h.2 (by omega)
    have q := c_dget (d + 1) h (b := e) (i := 6 + (c - (m + 1))) (by omega) (by omega)
    rw [hD] at q
    rw [c39_24, if_neg (by exact n_ge (by omega) (by omega)), show (6 : Int32) = nI 6 from rfl, nI_add, q, bnd0, ldS]
    dsimp only
    rw [c_isrec (d + 1) (by omega), bnd0]
    dsimp only
    rw [show (1 : Int32) = nI 1 from rfl, nI_add, e2]
    cases g : isD (D (16 * e + (6 + (c - (m + 1)))))
    · rw [if_pos (show nI (bN false) = (0 : Int32) from rfl), iF]
      exact ih (by omega) C σ n h hD (by omega)
    · obtain ⟨σ1, q1, h1⟩ := c_read d h (b := D (16 * e + (6 + (c - (m + 1))))) (a := 256 + 16 * (c - (m + 1))) (isD_lt g) (by omega)
      rw [if_neg (show ¬ nI (bN true) = (0 : Int32) by decide), iT, y_16, show (256 : Int32) = nI 256 from rfl, nI_add, q1, bnd0]
      dsimp only
      exact ih (by omega) _ σ1 n h1 (by rw [aRd_row _ _ _ _ (by decide)]; exact hD) (by omega)
end U1
