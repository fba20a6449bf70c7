/-! Loading a file's records -/
def ldS (D : Nat → Nat) (e c : Nat) : Nat → aS → aS
  | 0, C => C
  | m + 1, C => if isD (D (16 * e + (6 + (c - (m + 1))))) = true then ldS D e c m (aRd C (D (16 * e + (6 + (c - (m + 1))))) (256 + 16 * (c - (m + 1))) 0) else ldS D e c m C
theorem ldS_row (D : Nat → Nat) (e c : Nat) {o : Nat} (h : ¬ o = 0) : ∀ m (C : aS), ldS D e c m C o = C o
  | 0, C => rfl
  | m + 1, C => by
    rw [ldS]
    split
    · rw [ldS_row D e c h m, aRd_row _ _ _ _ h]
    · exact ldS_row D e c h m C
section U1
variable (d : Nat)
theorem c_ld {D : Nat → Nat} {e c : Nat} (he : e < 8) (hc : c ≤ 10) : ∀ m, m ≤ c → ∀ (C : aS) (σ : xS) (n : Nat), XC C σ → C 1 = D → m < n → ∃ σ', xr x_i39 (d + 2) n 24 [(0, .ref 14), (1, .int (nI e)), (2, .int (nI c)), (3, .int (nI (c - m)))] [] σ = some (nI 1, σ') ∧ XC (ldS D e c m C) σ' := by
  intro m
  induction m with
  | zero =>
    intro _ C σ n h _ hn
    obtain ⟨n, rfl⟩ : ∃ q, n = q + 1 := ⟨n - 1, by omega⟩
    rw [c39_24, if_pos (by exact (nI_leI (by omega) (by omega)).mpr (by omega))]
    exact ⟨σ, rfl, h⟩
  | succ m ih =>
    intro hm C σ n h hD hn
    obtain ⟨n, rfl⟩ : ∃ q, n = q + 1 := ⟨n - 1, by omega⟩
    have e2 : c - (m + 1) + 1 = c - m := by omega
    have hv : D (16 * e + (6 + (c - (m + 1)))) < 256 := by rw [← hD]; exact x_dsk_lt h.2 (by omega)
    have q := c_dget (d + 1) h (b := e) (i := 6 + (c - (m + 1))) (by omega) (by omega)
    rw [hD] at q
    rw [c39_24, if_neg (by exact n_ge (by omega) (by omega)), show (6 : Int32) = nI 6 from rfl, nI_add, q, bnd0, ldS]
    dsimp only
    rw [c_isrec (d + 1) (by omega), bnd0]
    dsimp only
    rw [show (1 : Int32) = nI 1 from rfl, nI_add, e2]
    cases g : isD (D (16 * e + (6 + (c - (m + 1)))))
    · rw [if_pos (show nI (bN false) = (0 : Int32) from rfl), iF]
      exact ih (by omega) C σ n h hD (by omega)
    · obtain ⟨σ1, q1, h1⟩ := c_read d h (b := D (16 * e + (6 + (c - (m + 1))))) (a := 256 + 16 * (c - (m + 1))) (isD_lt g) (by omega)
      rw [if_neg (show ¬ nI (bN true) = (0 : Int32) by decide), iT, y_16, show (256 : Int32) = nI 256 from rfl, nI_add, q1, bnd0]
      dsimp only
      exact ih (by omega) _ σ1 n h1 (by rw [aRd_row _ _ _ _ (by decide)]; exact hD) (by omega)
theorem y_l40 {C : aS} {σ : xS} (h : XM C σ) {e r b : Nat} (hr : r < 10) (hb : isD b = true) (n : Nat) : ∃ σ', xr x_i131 (d + 3) (n + 17) 40 [(0, .ref 19), (1, .int (nI e)), (2, .int (nI r)), (3, .int (nI b)), (4, .int (nI 0))] [] σ = xr x_i131 (d + 3) n 2 [(0, .ref 19), (1, .int (nI e)), (2, .int (nI (r + 1)))] [] σ' ∧ XM (aRd C b (256 + 16 * r) 0) σ' := by
  have hb32 := isD_lt hb
  obtain ⟨σ1, q1, h1⟩ := loopX (X := XM) (F := fun n i σ => xr x_i131 (d + 3) n 40 [(0, .ref 19), (1, .int (nI e)), (2, .int (nI r)), (3, .int (nI b)), (4, .int (nI i))] [] σ) (S := fun i => aLq C 0 (fun i => (256 + 16 * r + i) % 512) (fun i => C 1 (16 * b + i)) 0 i) 0 16 (by
    intro n i σ hl hi h
    obtain ⟨q1, σ', q2, h2⟩ := y_d2m (d + 2) hb32 (by omega) hl hi h
    refine ⟨σ', ?_, h2⟩
    rw [c131_40, if_neg (by exact n_ge hi (by decide)), y_isrec (d + 2) (by omega), bnd0, hb]
    dsimp only
    rw [if_neg (show ¬ nI (bN true) = (0 : Int32) by decide), y_16i, if_neg (n_ok (by omega) (by decide)), n_cl (by omega), q1, y_16, show (256 : Int32) = nI 256 from rfl, nI_add, nI_add, q2, bnd0]
    dsimp only
    rw [show (1 : Int32) = nI 1 from rfl, nI_add]) 16 0 (n + 1) σ (by omega) (by omega) (by rw [aLq_s]; exact h)
  refine ⟨σ1, q1.trans ((c131_40 (d + 3) n _ _ _ _ _).trans ?_), h1⟩
  rw [if_pos (by decide), show (1 : Int32) = nI 1 from rfl, nI_add]
theorem y_ld {D : Nat → Nat} {e c : Nat} (he : e < 8) (hc : c = min (D (16 * e + 5)) 10) : ∀ m, m ≤ c → ∀ (C : aS) (σ : xS) (n : Nat), XM C σ → C 1 = D → 18 * m + 20 < n → ∃ σ' n', 20 ≤ n' + 2 ∧ xr x_i131 (d + 3) n 2 [(0, .ref 19), (1, .int (nI e)), (2, .int (nI (c - m)))] [] σ = xr x_i131 (d + 3) n' 95 [(0, .ref 19), (2, .int (nI 0))] [] σ' ∧ XM (ldS D e c m C) σ' := by
  intro m
  induction m with
  | zero =>
    intro _ C σ n h hD hn
    have h5 : D (16 * e + 5) < 256 := by rw [← hD]; exact x_dsk_lt h.2 (by omega)
    have d5 : σ 21 (16 * e + 5) = nI (D (16 * e + 5)) := by rw [← hD]; exact yv_dsk h (by omega)
    obtain ⟨n, rfl⟩ : ∃ q, n = q + 1 := ⟨n - 1, by omega⟩
    refine ⟨σ, n, by omega, ?_, h⟩
    rw [c131_2, show (5 : Int32) = nI 5 from rfl, y_16i, if_neg (n_ok (by omega) (by decide)), n_cl (by omega), d5, y_least (d + 2) (by omega), bnd0, ← hc]
    dsimp only
    rw [if_pos (by exact (nI_leI (by omega) (by omega)).mpr (by omega))]
    rfl
  | succ m ih =>
    intro hm C σ n h hD hn
    have h5 : D (16 * e + 5) < 256 := by rw [← hD]; exact x_dsk_lt h.2 (by omega)
    have d5 : σ 21 (16 * e + 5) = nI (D (16 * e + 5)) := by rw [← hD]; exact yv_dsk h (by omega)
    have e2 : c - (m + 1) + 1 = c - m := by omega
    have hv : D (16 * e + (6 + (c - (m + 1)))) < 256 := by rw [← hD]; exact x_dsk_lt h.2 (by omega)
    have hd : σ 21 (16 * e + (6 + (c - (m + 1)))) = nI (D (16 * e + (6 + (c - (m + 1))))) := by rw [← hD]; exact yv_dsk h (by omega)
    obtain ⟨n, rfl⟩ : ∃ q, n = (q + 17) + 1 := ⟨n - 18, by omega⟩
    rw [c131_2, show (5 : Int32) = nI 5 from rfl, y_16i, if_neg (n_ok (by omega) (by decide)), n_cl (by omega), d5, y_least (d + 2) (by omega), bnd0, ← hc, ldS]
    dsimp only
    rw [if_neg (by exact n_ge (by omega) (by omega)), show (6 : Int32) = nI 6 from rfl, y_16i, nI_add, Nat.add_assoc (16 * e), if_neg (n_ok (by omega) (by decide)), n_cl (by omega), hd, show (0 : Int32) = nI 0 from rfl]
    cases g : isD (D (16 * e + (6 + (c - (m + 1)))))
    · obtain ⟨σ1, n', hn', q1, h1⟩ := ih (by omega) C σ (n + 16) h hD (by omega)
      refine ⟨σ1, n', hn', (c131_40 (d + 3) (n + 16) _ _ _ _ _).trans ?_, by rw [iF]; exact h1⟩
      rw [if_neg (by decide), y_isrec (d + 2) (by omega), bnd0, g]
      dsimp only
      rw [if_pos (show nI (bN false) = (0 : Int32) from rfl), show (1 : Int32) = nI 1 from rfl, nI_add, e2]
      exact q1
    · obtain ⟨σ1, q1, h1⟩ := y_l40 d h (e := e) (r := c - (m + 1)) (by omega) g n
      rw [e2] at q1
      obtain ⟨σ2, n', hn', q2, h2⟩ := ih (by omega) _ σ1 n h1 (by rw [aRd_row _ _ _ _ (by decide)]; exact hD) (by omega)
      exact ⟨σ2, n', hn', q1.trans q2, by rw [iT]; exact h2⟩
end U1
