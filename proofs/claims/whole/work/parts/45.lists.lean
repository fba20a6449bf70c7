/-! The list of files -/
def aSe (A : aS) (e : Nat) : Nat → aS
  | 0 => A
  | k + 1 => aSh (aSe A e k) (if k < 4 then A 1 (16 * e + (1 + k)) else 32)
theorem sh_se (A : aS) (e : Nat) : ∀ k, Sh k A (aSe A e k)
  | 0 => sh_refl A 0
  | k + 1 => sh_trans (sh_se A e k) (sh_one _ _)
/-- entries from 8 - m on -/
def aLs : Nat → aS → aS
  | 0, A => A
  | m + 1, A => if A 1 (16 * (7 - m)) = 229 then aLs m A else aLs m (aSe A (7 - m) 5)
theorem sh_ls : ∀ m (A : aS), Sh (5 * m) A (aLs m A)
  | 0, A => sh_refl A 0
  | m + 1, A => by
    rw [aLs]
    split
    · exact sh_le (sh_ls m A) (by omega)
    · exact sh_le (sh_trans (sh_se A (7 - m) 5) (sh_ls m _)) (by omega)
section Y1
variable (d : Nat)
theorem c_se {A : aS} {e : Nat} (he : e < 8) (ht : A 4 0 + 10 < 2147483648) (n : Nat) {σ : xS} (h : XC A σ) : ∃ σ', xr x_i15 (d + 1) (n + 5) 21 [(0, .ref 14), (1, .int (nI e)), (2, .int (nI 0))] [] σ = xr x_i15 (d + 1) n 2 [(0, .ref 14), (1, .int (nI (e + 1)))] [] σ' ∧ XC (aSe A e 5) σ' := by
  obtain ⟨σ1, q1, h1⟩ := loopX (X := XC) (F := fun n i σ => xr x_i15 (d + 1) n 21 [(0, .ref 14), (1, .int (nI e)), (2, .int (nI i))] [] σ) (S := fun i => aSe A e i) 0 4 (by
    intro n i σ hl hi h
    have sh := sh_se A e i
    have r1 : aSe A e i 1 = A 1 := sh.1 1 (by decide)
    have hv : A 1 (16 * e + (1 + i)) < 256 := by rw [← r1]; exact x_dsk_lt h.2 (by omega)
    have q := c_dget d h (b := e) (i := 1 + i) (by omega) (by omega)
    rw [r1] at q
    obtain ⟨σ', q2, h2⟩ := c_show d h hv (by have := sh.2.2; omega)
    refine ⟨σ', ?_, by rw [aSe, if_pos hi]; exact h2⟩
    rw [c15_21, if_neg (by exact n_ge hi (by decide)), show (1 : Int32) = nI 1 from rfl, nI_add, q, bnd0]
    dsimp only
    rw [q2, bnd0]
    dsimp only
    rw [nI_add]) 4 0 (n + 1) σ (by omega) (by omega) h
  obtain ⟨σ', q2, h2⟩ := c_show d h1 (v := 32) (by decide) (by have := (sh_se A e 4).2.2; omega)
  refine ⟨σ', q1.trans ((c15_21 (d + 1) n _ _ _).trans ?_), h2⟩
  rw [if_pos (by decide), show (32 : Int32) = nI 32 from rfl, q2, bnd0]
  dsimp only
  rw [show (1 : Int32) = nI 1 from rfl, nI_add]
theorem c_lsx : ∀ m, m ≤ 8 → ∀ (A : aS) (σ : xS) (n : Nat), XC A σ → A 4 0 + 5 * m + 10 < 2147483648 → 6 * m < n → ∃ σ', xr x_i15 (d + 1) n 2 [(0, .ref 14), (1, .int (nI (8 - m)))] [] σ = some (0, σ') ∧ XC (aLs m A) σ' := by
  intro m
  induction m with
  | zero =>
    intro _ A σ n h _ hn
    obtain ⟨n, rfl⟩ : ∃ q, n = q + 1 := ⟨n - 1, by omega⟩
    rw [c15_2, if_pos (by decide)]
    exact ⟨σ, rfl, h⟩
  | succ m ih =>
    intro hm A σ n h ht hn
    obtain ⟨n, rfl⟩ : ∃ q, n = (q + 5) + 1 := ⟨n - 6, by omega⟩
    have e1 : 8 - (m + 1) = 7 - m := by omega
    have e2 : 7 - m + 1 = 8 - m := by omega
    rw [e1, c15_2, if_neg (by exact n_ge (c := 8) (by omega) (by decide)), c_free d h (by omega), bnd0, aLs]
    dsimp only
    by_cases g : A 1 (16 * (7 - m)) = 229
    · rw [decide_eq_true g, if_neg (by decide), if_pos g, show (1 : Int32) = nI 1 from rfl, nI_add, e2]
      exact ih (by omega) A σ (n + 5) h (by omega) (by omega)
    · rw [decide_eq_false g, if_pos (by decide), if_neg g]
      obtain ⟨σ1, q1, h1⟩ := c_se d (e := 7 - m) (by omega) (by omega) n h
      rw [e2] at q1
      obtain ⟨σ2, q2, h2⟩ := ih (by omega) _ σ1 n h1 (by have := (sh_se A (7 - m) 5).2.2; omega) (by omega)
      exact ⟨σ2, q1.trans q2, h2⟩
theorem c_lists {A : aS} {σ : xS} (h : XC A σ) (ht : A 4 0 + 100 < 2147483648) : ∃ σ', x_M (d + 2) 15 [.ref 14] σ = some (0, σ') ∧ XC (aLs 8 A) σ' := by
  rw [m15]
  exact c_lsx d 8 (by omega) A σ 4999 h (by omega) (by omega)
theorem y_se {A : aS} {e : Nat} (he : e < 8) (hf : ¬ A 1 (16 * e) = 229) (ht : A 4 0 + 10 < 2147483648) (n : Nat) {σ : xS} (h : XM A σ) : ∃ σ', xr x_i114 (d + 1) (n + 6) 10 [(0, .ref 19), (1, .int (nI e)), (2, .int (nI 1))] [] σ = xr x_i114 (d + 1) n 2 [(0, .ref 19), (1, .int (nI (e + 1)))] [] σ' ∧ XM (aSe A e 5) σ' := by
  obtain ⟨σ1, q1, h1⟩ := loopX (X := XM) (F := fun n i σ => xr x_i114 (d + 1) n 10 [(0, .ref 19), (1, .int (nI e)), (2, .int (nI (1 + i)))] [] σ) (S := fun i => aSe A e i) 0 5 (by
    intro n i σ hl hi h
    have sh := sh_se A e i
    have r1 : aSe A e i 1 = A 1 := sh.1 1 (by decide)
    have qf := y_free d h he
    rw [r1, decide_eq_false hf] at qf
    have hd : σ 21 (16 * e + (1 + i)) = nI (A 1 (16 * e + (1 + i))) := by
      rw [← r1]; exact yv_dsk h (by omega)
    have hv : A 1 (16 * e + (1 + i)) < 256 := by rw [← r1]; exact x_dsk_lt h.2 (by omega)
    rw [c114_10, if_neg (by exact n_ge (c := 6) (by omega) (by decide)), qf, bnd0, aSe]
    dsimp only
    rw [if_pos (show nI (bN false) = (0 : Int32) from rfl), show (1 : Int32) = nI 1 from rfl, nI_add, show 1 + i + 1 = 1 + (i + 1) from by omega]
    by_cases g : i < 4
    · obtain ⟨σ', q2, h2⟩ := y_show d h hv (by have := sh.2.2; omega)
      refine ⟨σ', ?_, by rw [if_pos g]; exact h2⟩
      rw [if_neg (by exact n_ge (c := 5) (by omega) (by decide)), y_16i, if_neg (n_ok (by omega) (by decide)), n_cl (by omega), hd, q2, bnd0]
    · obtain ⟨σ', q2, h2⟩ := y_show d h (v := 32) (by decide) (by have := sh.2.2; omega)
      refine ⟨σ', ?_, by rw [if_neg g]; exact h2⟩
      rw [if_pos (by exact (nI_leI (a := 5) (by decide) (by omega)).mpr (by omega)), show (32 : Int32) = nI 32 from rfl, q2, bnd0]) 5 0 (n + 1) σ (by omega) (by omega) h
  refine ⟨σ1, q1.trans ((c114_10 (d + 1) n _ _ _).trans ?_), h1⟩
  rw [if_pos (by decide), show (1 : Int32) = nI 1 from rfl, nI_add]
theorem y_lsx : ∀ m, m ≤ 8 → ∀ (A : aS) (σ : xS) (n : Nat), XM A σ → A 4 0 + 5 * m + 10 < 2147483648 → 7 * m < n → ∃ σ', xr x_i114 (d + 1) n 2 [(0, .ref 19), (1, .int (nI (8 - m)))] [] σ = some (0, σ') ∧ XM (aLs m A) σ' := by
  intro m
  induction m with
  | zero =>
    intro _ A σ n h _ hn
    obtain ⟨n, rfl⟩ : ∃ q, n = q + 1 := ⟨n - 1, by omega⟩
    rw [c114_2, if_pos (by decide)]
    exact ⟨σ, rfl, h⟩
  | succ m ih =>
    intro hm A σ n h ht hn
    obtain ⟨n, rfl⟩ : ∃ q, n = (q + 6) + 1 := ⟨n - 7, by omega⟩
    have e1 : 8 - (m + 1) = 7 - m := by omega
    have e2 : 7 - m + 1 = 8 - m := by omega
    rw [e1, c114_2, if_neg (by exact n_ge (c := 8) (by omega) (by decide)), aLs]
    by_cases g : A 1 (16 * (7 - m)) = 229
    · rw [if_pos g]
      obtain ⟨σ1, q1, h1⟩ := ih (by omega) A σ (n + 5) h (by omega) (by omega)
      refine ⟨σ1, (c114_10 (d + 1) (n + 5) _ _ _).trans ?_, h1⟩
      rw [if_neg (by decide), y_free d h (by omega), bnd0]
      dsimp only
      rw [decide_eq_true g, if_neg (by decide), show (1 : Int32) = nI 1 from rfl, nI_add, e2]
      exact q1
    · rw [if_neg g]
      obtain ⟨σ1, q1, h1⟩ := y_se d (e := 7 - m) (by omega) g (by omega) n h
      rw [e2] at q1
      obtain ⟨σ2, q2, h2⟩ := ih (by omega) _ σ1 n h1 (by have := (sh_se A (7 - m) 5).2.2; omega) (by omega)
      exact ⟨σ2, q1.trans q2, h2⟩
theorem y_lists {A : aS} {σ : xS} (h : XM A σ) (ht : A 4 0 + 100 < 2147483648) : ∃ σ', x_M (d + 2) 114 [.ref 19] σ = some (0, σ') ∧ XM (aLs 8 A) σ' := by
  rw [m114]
  exact y_lsx d 8 (by omega) A σ 4999 h (by omega) (by omega)
end Y1
