/-! A file's text on the screen -/
def bkS (D : Nat → Nat) (b : Nat) : Nat → aS → aS
  | 0, C => C
  | m + 1, C => if D (16 * b + (15 - m)) = 26 then C else bkS D b m (aSh C (D (16 * b + (15 - m))))
def bkM (D : Nat → Nat) (b : Nat) : Nat → Bool
  | 0 => true
  | m + 1 => if D (16 * b + (15 - m)) = 26 then false else bkM D b m
theorem sh_bk (D : Nat → Nat) (b : Nat) : ∀ m (C : aS), Sh m C (bkS D b m C)
  | 0, C => sh_refl C 0
  | m + 1, C => by
    rw [bkS]
    split
    · exact sh_refl C _
    · exact sh_le (sh_trans (sh_one C _) (sh_bk D b m _)) (by omega)
def tyS (D : Nat → Nat) (e c : Nat) : Nat → aS → aS
  | 0, C => C
  | m + 1, C => if isD (D (16 * e + (6 + (c - (m + 1))))) = true then (if bkM D (D (16 * e + (6 + (c - (m + 1))))) 16 = true then tyS D e c m (bkS D (D (16 * e + (6 + (c - (m + 1))))) 16 C) else bkS D (D (16 * e + (6 + (c - (m + 1))))) 16 C) else tyS D e c m C
theorem sh_ty (D : Nat → Nat) (e c : Nat) : ∀ m (C : aS), Sh (16 * m) C (tyS D e c m C)
  | 0, C => sh_refl C 0
  | m + 1, C => by
    rw [tyS]
    split
    · split
      · exact sh_le (sh_trans (sh_bk D _ 16 C) (sh_ty D e c m _)) (by omega)
      · exact sh_le (sh_bk D _ 16 C) (by omega)
    · exact sh_le (sh_ty D e c m C) (by omega)
theorem isD_lt {b : Nat} (h : isD b = true) : b < 32 := (of_decide_eq_true h).2
section T1
variable (d : Nat)
theorem c_bk {D : Nat → Nat} {b : Nat} (hb : b < 32) : ∀ m, m ≤ 16 → ∀ (C : aS) (σ : xS) (n : Nat), XC C σ → C 1 = D → C 4 0 + m < 2147483648 → m < n → ∃ σ', xr x_i22 (d + 1) n 2 [(0, .ref 14), (1, .int (nI b)), (2, .int (nI (16 - m)))] [] σ = some (nI (bN (bkM D b m)), σ') ∧ XC (bkS D b m C) σ' := by
  intro m
  induction m with
  | zero =>
    intro _ C σ n h _ _ hn
    obtain ⟨n, rfl⟩ : ∃ q, n = q + 1 := ⟨n - 1, by omega⟩
    rw [c22_2, if_pos (by decide)]
    exact ⟨σ, rfl, h⟩
  | succ m ih =>
    intro hm C σ n h hD ht hn
    obtain ⟨n, rfl⟩ : ∃ q, n = q + 1 := ⟨n - 1, by omega⟩
    have e1 : 16 - (m + 1) = 15 - m := by omega
    have e2 : 15 - m + 1 = 16 - m := by omega
    have hv : D (16 * b + (15 - m)) < 256 := by rw [← hD]; exact x_dsk_lt h.2 (by omega)
    have q := c_dget d h hb (i := 15 - m) (by omega)
    rw [hD] at q
    rw [e1, c22_2, if_neg (by exact n_ge (c := 16) (by omega) (by decide)), q, bnd0, bkS, bkM]
    dsimp only
    by_cases g : D (16 * b + (15 - m)) = 26
    · rw [if_pos (by rw [g]; rfl), if_pos g, if_pos g]
      exact ⟨σ, rfl, h⟩
    · obtain ⟨σ1, q1, h1⟩ := c_show d h hv (by omega)
      rw [if_neg (by intro z; exact g ((nI_eq (b := 26) (by omega) (by omega)).mp z)), if_neg g, if_neg g, q1, bnd0]
      dsimp only
      rw [show (1 : Int32) = nI 1 from rfl, nI_add, e2]
      exact ih (by omega) _ σ1 n h1 (by rw [aSh_row _ _ (by decide) (by decide)]; exact hD) (by rw [aSh_t]; omega) (by omega)
theorem c_ty {D : Nat → Nat} {e c : Nat} (he : e < 8) (hc : c ≤ 10) : ∀ m, m ≤ c → ∀ (C : aS) (σ : xS) (n : Nat), XC C σ → C 1 = D → C 4 0 + 16 * m < 2147483648 → m < n → ∃ σ', xr x_i23 (d + 2) n 24 [(0, .ref 14), (1, .int (nI e)), (2, .int (nI c)), (3, .int (nI (c - m)))] [] σ = some (nI 1, σ') ∧ XC (tyS D e c m C) σ' := by
  intro m
  induction m with
  | zero =>
    intro _ C σ n h _ _ hn
    obtain ⟨n, rfl⟩ : ∃ q, n = q + 1 := ⟨n - 1, by omega⟩
    rw [c23_24, if_pos (by exact (nI_leI (by omega) (by omega)).mpr (by omega))]
    exact ⟨σ, rfl, h⟩
  | succ m ih =>
    intro hm C σ n h hD ht hn
    obtain ⟨n, rfl⟩ : ∃ q, n = q + 1 := ⟨n - 1, by omega⟩
    have e2 : c - (m + 1) + 1 = c - m := by omega
    have hv : D (16 * e + (6 + (c - (m + 1)))) < 256 := by rw [← hD]; exact x_dsk_lt h.2 (by omega)
    have q := c_dget (d + 1) h (b := e) (i := 6 + (c - (m + 1))) (by omega) (by omega)
    rw [hD] at q
    rw [c23_24, if_neg (by exact n_ge (by omega) (by omega)), show (6 : Int32) = nI 6 from rfl, nI_add, q, bnd0, tyS]
    dsimp only
    rw [c_isrec (d + 1) (by omega), bnd0]
    dsimp only
    rw [show (1 : Int32) = nI 1 from rfl, nI_add, e2]
    cases g : isD (D (16 * e + (6 + (c - (m + 1)))))
    · rw [if_pos (show nI (bN false) = (0 : Int32) from rfl), iF]
      exact ih (by omega) C σ n h hD (by omega) (by omega)
    · rw [if_neg (show ¬ nI (bN true) = (0 : Int32) by decide), iT]
      have hb := isD_lt g
      obtain ⟨σ1, q1, h1⟩ := c_bk d (D := D) hb 16 (by omega) C σ 4999 h hD (by omega) (by omega)
      have q2 : x_M (d + 2) 22 [.ref 14, .int (nI (D (16 * e + (6 + (c - (m + 1))))))] σ = some (nI (bN (bkM D (D (16 * e + (6 + (c - (m + 1))))) 16)), σ1) := (m22 (d + 1) _ _).trans q1
      rw [q2, bnd0]
      dsimp only
      cases bkM D (D (16 * e + (6 + (c - (m + 1))))) 16
      · rw [if_pos (show nI (bN false) = (0 : Int32) from rfl), iF]
        exact ⟨σ1, rfl, h1⟩
      · rw [if_neg (show ¬ nI (bN true) = (0 : Int32) by decide), iT]
        have sh := sh_bk D (D (16 * e + (6 + (c - (m + 1))))) 16 C
        exact ih (by omega) _ σ1 n h1 (by rw [sh.1 1 (by decide)]; exact hD) (by have := sh.2.2; omega) (by omega)
/-- the model's inner loop: with more, over a data block -/
theorem y_bk {D : Nat → Nat} {b e r : Nat} (hb : isD b = true) : ∀ m, m ≤ 16 → ∀ (C : aS) (σ : xS) (n : Nat), XM C σ → C 1 = D → C 4 0 + m < 2147483648 → m + 1 < n → ∃ σ' n', n ≤ n' + m + 2 ∧ xr x_i126 (d + 1) n 43 [(0, .ref 19), (1, .int (nI e)), (2, .int (nI 1)), (3, .int (nI r)), (4, .int (nI b)), (5, .int (nI (16 - m)))] [] σ = xr x_i126 (d + 1) n' 4 [(0, .ref 19), (1, .int (nI e)), (2, .int (nI (bN (bkM D b m)))), (3, .int (nI (r + 1)))] [] σ' ∧ XM (bkS D b m C) σ' := by
  have hb32 := isD_lt hb
  intro m
  induction m with
  | zero =>
    intro _ C σ n h _ _ hn
    obtain ⟨n, rfl⟩ : ∃ q, n = q + 1 := ⟨n - 1, by omega⟩
    refine ⟨σ, n, by omega, ?_, h⟩
    rw [c126_43, if_pos (by decide), show (1 : Int32) = nI 1 from rfl, nI_add]
    rfl
  | succ m ih =>
    intro hm C σ n h hD ht hn
    obtain ⟨n, rfl⟩ : ∃ q, n = q + 1 := ⟨n - 1, by omega⟩
    have e1 : 16 - (m + 1) = 15 - m := by omega
    have e2 : 15 - m + 1 = 16 - m := by omega
    have hv : D (16 * b + (15 - m)) < 256 := by rw [← hD]; exact x_dsk_lt h.2 (by omega)
    have hd : σ 21 (16 * b + (15 - m)) = nI (D (16 * b + (15 - m))) := by rw [← hD]; exact yv_dsk h (by omega)
    rw [e1, c126_43, if_neg (by exact n_ge (c := 16) (by omega) (by decide)), if_neg (show ¬ nI 1 = (0 : Int32) by decide), y_isrec d (by omega), bnd0, bkS, bkM, hb]
    dsimp only
    rw [if_neg (show ¬ nI (bN true) = (0 : Int32) by decide), y_16i, if_neg (n_ok (by omega) (by decide)), n_cl (by omega), if_pos (show (0 : Int32) = 0 from rfl), if_neg (show ¬ (1 : Int32) = 0 by decide)]
    by_cases g : D (16 * b + (15 - m)) = 26
    · obtain ⟨n, rfl⟩ : ∃ q, n = q + 1 := ⟨n - 1, by omega⟩
      refine ⟨σ, n, by omega, ?_, by rw [if_pos g]; exact h⟩
      rw [if_pos (by rw [hd, g]; rfl), if_pos g, show (1 : Int32) = nI 1 from rfl, nI_add, e2]
      refine (c126_43 (d + 1) n _ _ _ _ _ _).trans ?_
      rw [if_pos (show (0 : Int32) = 0 from rfl), show (1 : Int32) = nI 1 from rfl, nI_add]
      by_cases g16 : 16 ≤ 16 - m
      · rw [if_pos (by exact (nI_leI (a := 16) (by decide) (by omega)).mpr g16)]
        rfl
      · rw [if_neg (by exact n_ge (c := 16) (by omega) (by decide))]
        rfl
    · obtain ⟨σ1, q1, h1⟩ := y_show d h hv (by omega)
      obtain ⟨σ2, n', hn', q2, h2⟩ := ih (by omega) _ σ1 n h1 (by rw [aSh_row _ _ (by decide) (by decide)]; exact hD) (by rw [aSh_t]; omega) (by omega)
      refine ⟨σ2, n', by omega, ?_, by rw [if_neg g]; exact h2⟩
      rw [if_neg (by rw [hd]; intro z; exact g ((nI_eq (b := 26) (by omega) (by omega)).mp z)), if_neg g, if_neg (n_okc (by omega) (by omega)), hd, q1, bnd0]
      dsimp only
      rw [show (1 : Int32) = nI 1 from rfl, nI_add, e2]
      exact q2
theorem y_ty0 {C : aS} {σ : xS} (h : XM C σ) {e : Nat} (he : e < 8) : ∀ m, m ≤ min (C 1 (16 * e + 5)) 10 → ∀ n, 2 * m < n → xr x_i126 (d + 1) n 4 [(0, .ref 19), (1, .int (nI e)), (2, .int (nI 0)), (3, .int (nI (min (C 1 (16 * e + 5)) 10 - m)))] [] σ = some (0, σ) := by
  have hc : C 1 (16 * e + 5) < 256 := x_dsk_lt h.2 (by omega)
  intro m
  induction m with
  | zero =>
    intro _ n hn
    obtain ⟨n, rfl⟩ : ∃ q, n = q + 1 := ⟨n - 1, by omega⟩
    rw [c126_4, show (5 : Int32) = nI 5 from rfl, y_16i, if_neg (n_ok (by omega) (by decide)), n_cl (by omega), yv_dsk h (by omega), y_least d (by omega), bnd0]
    dsimp only
    rw [if_pos (by exact (nI_leI (by omega) (by omega)).mpr (by omega))]
  | succ m ih =>
    intro hm n hn
    obtain ⟨n, rfl⟩ : ∃ q, n = q + 1 + 1 := ⟨n - 2, by omega⟩
    have e2 : min (C 1 (16 * e + 5)) 10 - (m + 1) + 1 = min (C 1 (16 * e + 5)) 10 - m := by omega
    have ih := ih (by omega) n (by omega)
    rw [c126_4, show (5 : Int32) = nI 5 from rfl, y_16i, if_neg (n_ok (by omega) (by decide)), n_cl (by omega), yv_dsk h (by omega), y_least d (by omega), bnd0]
    dsimp only
    rw [if_neg (by exact n_ge (by omega) (by omega)), show (6 : Int32) = nI 6 from rfl, y_16i, nI_add, if_neg (n_ok (by omega) (by decide))]
    refine (c126_43 (d + 1) n _ _ _ _ _ _).trans ?_
    rw [if_neg (by decide), if_pos (show nI 0 = (0 : Int32) from rfl), show (1 : Int32) = nI 1 from rfl, nI_add, e2]
    exact ih
theorem y_ty {D : Nat → Nat} {e c : Nat} (he : e < 8) (hc : c = min (D (16 * e + 5)) 10) : ∀ m, m ≤ c → ∀ (C : aS) (σ : xS) (n : Nat), XM C σ → C 1 = D → C 4 0 + 16 * m < 2147483648 → 20 * m < n → ∃ σ', xr x_i126 (d + 1) n 4 [(0, .ref 19), (1, .int (nI e)), (2, .int (nI 1)), (3, .int (nI (c - m)))] [] σ = some (0, σ') ∧ XM (tyS D e c m C) σ' := by
  intro m
  induction m with
  | zero =>
    intro _ C σ n h hD _ hn
    have h5 : D (16 * e + 5) < 256 := by rw [← hD]; exact x_dsk_lt h.2 (by omega)
    have d5 : σ 21 (16 * e + 5) = nI (D (16 * e + 5)) := by rw [← hD]; exact yv_dsk h (by omega)
    obtain ⟨n, rfl⟩ : ∃ q, n = q + 1 := ⟨n - 1, by omega⟩
    rw [c126_4, show (5 : Int32) = nI 5 from rfl, y_16i, if_neg (n_ok (by omega) (by decide)), n_cl (by omega), d5, y_least d (by omega), bnd0, ← hc]
    dsimp only
    rw [if_pos (by exact (nI_leI (by omega) (by omega)).mpr (by omega))]
    exact ⟨σ, rfl, h⟩
  | succ m ih =>
    intro hm C σ n h hD ht hn
    have h5 : D (16 * e + 5) < 256 := by rw [← hD]; exact x_dsk_lt h.2 (by omega)
    have d5 : σ 21 (16 * e + 5) = nI (D (16 * e + 5)) := by rw [← hD]; exact yv_dsk h (by omega)
    obtain ⟨n, rfl⟩ : ∃ q, n = q + 1 := ⟨n - 1, by omega⟩
    have e2 : c - (m + 1) + 1 = c - m := by omega
    have hv : D (16 * e + (6 + (c - (m + 1)))) < 256 := by rw [← hD]; exact x_dsk_lt h.2 (by omega)
    have hd : σ 21 (16 * e + (6 + (c - (m + 1)))) = nI (D (16 * e + (6 + (c - (m + 1))))) := by rw [← hD]; exact yv_dsk h (by omega)
    rw [c126_4, show (5 : Int32) = nI 5 from rfl, y_16i, if_neg (n_ok (by omega) (by decide)), n_cl (by omega), d5, y_least d (by omega), bnd0, ← hc, tyS]
    dsimp only
    rw [if_neg (by exact n_ge (by omega) (by omega)), show (6 : Int32) = nI 6 from rfl, y_16i, nI_add, Nat.add_assoc (16 * e), if_neg (n_ok (by omega) (by decide)), n_cl (by omega), hd, show (0 : Int32) = nI 0 from rfl]
    cases g : isD (D (16 * e + (6 + (c - (m + 1)))))
    · obtain ⟨n, rfl⟩ : ∃ q, n = q + 1 := ⟨n - 1, by omega⟩
      obtain ⟨σ1, q1, h1⟩ := ih (by omega) C σ n h hD (by omega) (by omega)
      refine ⟨σ1, (c126_43 (d + 1) n _ _ _ _ _ _).trans ?_, by rw [iF]; exact h1⟩
      rw [if_neg (by decide), if_neg (show ¬ nI 1 = (0 : Int32) by decide), y_isrec d (by omega), bnd0, g]
      dsimp only
      rw [if_pos (show nI (bN false) = (0 : Int32) from rfl), show (1 : Int32) = nI 1 from rfl, nI_add, e2]
      exact q1
    · have sh := sh_bk D (D (16 * e + (6 + (c - (m + 1))))) 16 C
      have hD2 : bkS D (D (16 * e + (6 + (c - (m + 1))))) 16 C 1 = D := by rw [sh.1 1 (by decide)]; exact hD
      obtain ⟨σ1, n', hn', q1, h1⟩ := y_bk d (D := D) (e := e) (r := c - (m + 1)) g 16 (by omega) C σ n h hD (by omega) (by omega)
      rw [e2] at q1
      cases gm : bkM D (D (16 * e + (6 + (c - (m + 1))))) 16
      · rw [gm] at q1
        refine ⟨σ1, q1.trans ?_, by rw [iT, iF]; exact h1⟩
        have z := y_ty0 d h1 he m (by rw [hD2, ← hc]; omega) n' (by omega)
        rw [hD2, ← hc] at z
        exact z
      · rw [gm] at q1
        obtain ⟨σ2, q2, h2⟩ := ih (by omega) _ σ1 n' h1 hD2 (by have := sh.2.2; omega) (by omega)
        exact ⟨σ2, q1.trans q2, by rw [iT, iT]; exact h2⟩
end T1
