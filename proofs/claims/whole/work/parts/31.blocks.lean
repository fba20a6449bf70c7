/-! Which blocks are taken: the class's marks and the model's search -/
def usE (A : aS) (b e : Nat) : Nat → Bool
  | 0 => false
  | i + 1 => usE A b e i || decide (A 1 (16 * e + (6 + i)) = b)
def usR (A : aS) (b e : Nat) : Bool := !decide (A 1 (16 * e) = 229) && usE A b e (min (A 1 (16 * e + 5)) 10)
def usd (A : aS) (b : Nat) : Nat → Bool
  | 0 => false
  | e + 1 => usd A b e || usR A b e
def usM (A : aS) (a b : Nat) : Nat → Bool
  | 0 => false
  | k + 1 => usM A a b k || decide (A 0 ((a + 6 + k) % 512) = b)
/-- the least number among the last n up to 31 that is not taken, or -1 -/
def aLu (P : Nat → Bool) : Nat → Nat
  | 0 => 4294967295
  | n + 1 => if P (31 - n) = true then aLu P n else 31 - n
theorem aLu_lt (P : Nat → Bool) : ∀ n, n ≤ 24 → aLu P n = 4294967295 ∨ (8 ≤ aLu P n ∧ aLu P n < 32)
  | 0, _ => Or.inl rfl
  | n + 1, h => by
    rw [aLu]
    split
    · exact aLu_lt P n (by omega)
    · exact Or.inr ⟨by omega, by omega⟩
def TK (σ : xS) (P : Nat → Bool) : Prop := ∀ b, 8 ≤ b → b < 32 → σ 7 b = nI (bN (P b))
theorem tk_cong {σ : xS} {P Q : Nat → Bool} (h : TK σ P) (e : ∀ b, P b = Q b) : TK σ Q := fun b h8 h32 => by rw [h b h8 h32, e b]
theorem tk_mark {σ : xS} {P : Nat → Bool} (h : TK σ P) (v : Nat) : TK (x_up σ 7 v (nI 1)) (fun b => P b || decide (v = b)) := by
  intro b h8 h32
  show x_up σ 7 v (nI 1) 7 b = nI (bN (P b || decide (v = b)))
  by_cases e : v = b
  · subst e
    rw [x_up_at, decide_eq_true rfl, Bool.or_true]
    rfl
  · rw [x_up_off (fun q => e q.symm), h b h8 h32, decide_eq_false e, Bool.or_false]
section B1
variable {A : aS} {σ : xS} (d : Nat)
theorem c_mark (h : XC A σ) {P : Nat → Bool} (t : TK σ P) {v : Nat} (hv : v < 256) : ∃ σ', x_M (d + 1) 30 [.ref 5, .int (nI v)] σ = some (0, σ') ∧ XC A σ' ∧ TK σ' (fun b => P b || decide (v = b)) := by
  rw [m30, n_and255 (by omega), Nat.mod_eq_of_lt hv, if_neg (n_ok hv (by decide)), n_cl (by omega)]
  exact ⟨_, rfl, xc_tak h _ _, tk_mark t v⟩
theorem c_mk3 (h0 : XC A σ) (n : Nat) : ∀ m, m ≤ 24 → ∀ σ, XC A σ → (∀ b, 8 ≤ b → b < 32 - m → σ 7 b = nI 0) → ∃ σ', xr x_i31 d (n + m + 1) 3 [(0, .ref 5), (1, .int (nI (32 - m)))] [] σ = xr x_i31 d n 24 [(0, .ref 5), (1, .int (nI 0))] [] σ' ∧ XC A σ' ∧ TK σ' (fun _ => false) := by
  intro m
  induction m with
  | zero =>
    intro _ σ h t
    rw [c31_3, if_pos (by decide)]
    exact ⟨σ, rfl, h, fun b h8 h32 => t b h8 h32⟩
  | succ m ih =>
    intro hm σ h t
    have e1 : 32 - (m + 1) = 31 - m := by omega
    have e2 : 31 - m + 1 = 32 - m := by omega
    rw [show n + (m + 1) + 1 = (n + m + 1) + 1 from by omega, e1, c31_3, if_neg (by intro z; have := (nI_leI (a := 32) (by decide) (by omega)).mp z; omega), if_neg (n_ok (by omega) (by decide)), n_cl (by omega), show (1 : Int32) = nI 1 from rfl, nI_add, e2]
    refine ih (by omega) _ (xc_tak h _ _) ?_
    intro b h8 hb
    by_cases e : b = 31 - m
    · subst e
      rw [x_up_at]
      decide
    · rw [x_up_off e]
      exact t b h8 (by omega)
theorem c_mk50 {e : Nat} (he : e < 8) {c : Nat} (hc : c ≤ 10) (P : Nat → Bool) (n : Nat) : ∀ m, m ≤ c → ∀ σ, XC A σ → TK σ (fun b => P b || usE A b e (c - m)) → ∃ σ', xr x_i31 (d + 1) (n + m + 1) 50 [(0, .ref 5), (1, .int (nI e)), (2, .int (nI c)), (3, .int (nI (c - m)))] [] σ = xr x_i31 (d + 1) n 24 [(0, .ref 5), (1, .int (nI (e + 1)))] [] σ' ∧ XC A σ' ∧ TK σ' (fun b => P b || usE A b e c) := by
  intro m
  induction m with
  | zero =>
    intro _ σ h t
    rw [c31_50, if_pos (by exact (nI_leI (by omega) (by omega)).mpr (by omega)), show (1 : Int32) = nI 1 from rfl, nI_add]
    exact ⟨σ, rfl, h, t⟩
  | succ m ih =>
    intro hm σ h t
    have e2 : c - (m + 1) + 1 = c - m := by omega
    have hv : A 1 (16 * e + (6 + (c - (m + 1)))) < 256 := h.2 1 _ (show 16 * e + (6 + (c - (m + 1))) < 512 by omega)
    obtain ⟨σ1, q1, h1, t1⟩ := c_mark d h t hv
    rw [show n + (m + 1) + 1 = (n + m + 1) + 1 from by omega, c31_50, if_neg (by intro z; have := (nI_leI (by omega) (by omega)).mp z; omega), show (6 : Int32) = nI 6 from rfl, nI_add, c_dget d h (by omega) (by omega), bnd0]
    dsimp only
    rw [q1, bnd0]
    dsimp only
    rw [show (1 : Int32) = nI 1 from rfl, nI_add, e2]
    exact ih (by omega) σ1 h1 (tk_cong t1 (fun b => by rw [← e2, usE, Bool.or_assoc]))
theorem c_mk24 : ∀ m, m ≤ 8 → ∀ (σ : xS) (n : Nat), XC A σ → TK σ (fun b => usd A b (8 - m)) → 12 * m < n → ∃ σ', xr x_i31 (d + 1) n 24 [(0, .ref 5), (1, .int (nI (8 - m)))] [] σ = some (0, σ') ∧ XC A σ' ∧ TK σ' (fun b => usd A b 8) := by
  intro m
  induction m with
  | zero =>
    intro _ σ n h t hn
    obtain ⟨n, rfl⟩ : ∃ q, n = q + 1 := ⟨n - 1, by omega⟩
    rw [c31_24, if_pos (by decide)]
    exact ⟨σ, rfl, h, t⟩
  | succ m ih =>
    intro hm σ n h t hn
    have e1 : 8 - (m + 1) = 7 - m := by omega
    have e2 : 7 - m + 1 = 8 - m := by omega
    rw [e1] at t
    have hmin : min (A 1 (16 * (7 - m) + 5)) 10 ≤ 10 := Nat.min_le_right _ _
    have hu : ∀ b, usd A b (8 - m) = (usd A b (7 - m) || usR A b (7 - m)) := fun b => by rw [← e2, usd]
    by_cases g : A 1 (16 * (7 - m)) = 229
    · obtain ⟨n, rfl⟩ : ∃ q, n = (q + 0 + 1) + 1 := ⟨n - 2, by omega⟩
      obtain ⟨σ1, q1, h1, t1⟩ := c_mk50 (A := A) d (e := 7 - m) (by omega) (c := 0) (by omega) (fun b => usd A b (7 - m)) n 0 (by omega) σ h (tk_cong t (fun b => by simp [usE]))
      rw [e1, c31_24, if_neg (by intro z; have := (nI_leI (a := 8) (by decide) (by omega)).mp z; omega), c_free d h (by omega), bnd0]
      dsimp only
      rw [decide_eq_true g, if_neg (by decide), show (0 : Int32) = nI 0 from rfl]
      rw [e2] at q1
      obtain ⟨σ2, q2, h2, t2⟩ := ih (by omega) σ1 n h1 (tk_cong t1 (fun b => by rw [hu, usR, decide_eq_true g]; simp [usE])) (by omega)
      exact ⟨σ2, q1.trans q2, h2, t2⟩
    · have hc : ∃ q, n = (q + min (A 1 (16 * (7 - m) + 5)) 10 + 1) + 1 := ⟨n - 2 - min (A 1 (16 * (7 - m) + 5)) 10, by omega⟩
      obtain ⟨n, rfl⟩ := hc
      obtain ⟨σ1, q1, h1, t1⟩ := c_mk50 (A := A) d (e := 7 - m) (by omega) (c := min (A 1 (16 * (7 - m) + 5)) 10) hmin (fun b => usd A b (7 - m)) n (min (A 1 (16 * (7 - m) + 5)) 10) (Nat.le_refl _) σ h (tk_cong t (fun b => by rw [Nat.sub_self]; simp [usE]))
      rw [Nat.sub_self, e2] at q1
      rw [e1, c31_24, if_neg (by intro z; have := (nI_leI (a := 8) (by decide) (by omega)).mp z; omega), c_free d h (by omega), bnd0]
      dsimp only
      rw [decide_eq_false g, if_pos (by decide), c_recs d h (by omega), bnd0]
      dsimp only
      rw [show (0 : Int32) = nI 0 from rfl]
      obtain ⟨σ2, q2, h2, t2⟩ := ih (by omega) σ1 n h1 (tk_cong t1 (fun b => by rw [hu, usR, decide_eq_false g]; simp)) (by omega)
      exact ⟨σ2, q1.trans q2, h2, t2⟩
theorem c_marks (h : XC A σ) : ∃ σ', x_M (d + 2) 31 [.ref 5] σ = some (0, σ') ∧ XC A σ' ∧ TK σ' (fun b => usd A b 8) := by
  rw [m31]
  obtain ⟨σ1, q1, h1, t1⟩ := c_mk3 (d + 1) h 4974 24 (by omega) σ h (fun b h8 hb => by omega)
  obtain ⟨σ2, q2, h2, t2⟩ := c_mk24 d 8 (by omega) σ1 4974 h1 t1 (by omega)
  exact ⟨σ2, q1.trans q2, h2, t2⟩
theorem c_lux {P : Nat → Bool} (t : TK σ P) : ∀ m, m ≤ 24 → ∀ n, m < n → xr x_i32 d n 3 [(0, .ref 5), (1, .int (nI (32 - m)))] [] σ = some (nI (aLu P m), σ) := by
  intro m
  induction m with
  | zero =>
    intro _ n hn
    obtain ⟨n, rfl⟩ : ∃ q, n = q + 1 := ⟨n - 1, by omega⟩
    rw [c32_3, if_pos (by decide)]
    rfl
  | succ m ih =>
    intro hm n hn
    obtain ⟨n, rfl⟩ : ∃ q, n = q + 1 := ⟨n - 1, by omega⟩
    have e1 : 32 - (m + 1) = 31 - m := by omega
    have e2 : 31 - m + 1 = 32 - m := by omega
    rw [e1, c32_3, if_neg (by intro z; have := (nI_leI (a := 32) (by decide) (by omega)).mp z; omega), if_neg (n_ok (by omega) (by decide)), n_cl (by omega), t _ (by omega) (by omega), aLu]
    cases g : P (31 - m)
    · rw [if_pos (by decide), if_neg (by decide)]
    · rw [if_neg (by decide), if_pos rfl, show (1 : Int32) = nI 1 from rfl, nI_add, e2]
      exact ih (by omega) n (by omega)
theorem c_least {P : Nat → Bool} (t : TK σ P) : x_M (d + 1) 32 [.ref 5] σ = some (nI (aLu P 24), σ) := by
  rw [m32]
  exact c_lux d t 24 (by omega) 4999 (by omega)
/-- the least block that neither an entry nor the file block at a takes -/
def aFB (A : aS) (a : Nat) : Nat := aLu (fun b => usd A b 8 || usM A a b (min (A 0 ((a + 5) % 512)) 10)) 24
theorem c_un20 {a c : Nat} (ha : a < 65536) (hc : c < 256) : ∀ m, m ≤ min c 10 → ∀ (σ : xS) (n : Nat), XC A σ → TK σ (fun b => usd A b 8 || usM A a b (min c 10 - m)) → m < n → ∃ σ', xr x_i86 (d + 1) n 20 [(0, .ref 12), (1, .int (nI a)), (2, .int (nI c)), (3, .int (nI (min c 10 - m)))] [] σ = some (nI (aLu (fun b => usd A b 8 || usM A a b (min c 10)) 24), σ') ∧ XC A σ' := by
  intro m
  induction m with
  | zero =>
    intro _ σ n h t hn
    obtain ⟨n, rfl⟩ : ∃ q, n = q + 1 := ⟨n - 1, by omega⟩
    have q := c_least d t
    rw [Nat.sub_zero] at q
    rw [c86_20, Nat.sub_zero]
    by_cases g : c ≤ 10
    · rw [if_pos (by exact (nI_leI (by omega) (by omega)).mpr (by omega)), q, bnd0]
      exact ⟨σ, rfl, h⟩
    · rw [if_neg (by intro z; have := (nI_leI (by omega) (by omega)).mp z; omega), if_pos (by exact (nI_leI (a := 10) (by omega) (by omega)).mpr (by omega)), q, bnd0]
      exact ⟨σ, rfl, h⟩
  | succ m ih =>
    intro hm σ n h t hn
    obtain ⟨n, rfl⟩ : ∃ q, n = q + 1 := ⟨n - 1, by omega⟩
    have e2 : min c 10 - (m + 1) + 1 = min c 10 - m := by omega
    have hv : A 0 ((a + 6 + (min c 10 - (m + 1))) % 512) < 256 := h.2 0 _ (show (a + 6 + (min c 10 - (m + 1))) % 512 < 512 by omega)
    obtain ⟨σ1, q1, h1, t1⟩ := c_mark d h t hv
    rw [c86_20, if_neg (by intro z; have := (nI_leI (by omega) (by omega)).mp z; omega), if_neg (by intro z; have := (nI_leI (a := 10) (by omega) (by omega)).mp z; omega), show (6 : Int32) = nI 6 from rfl, nI_add, nI_add, c_mget d h (by omega), bnd0]
    dsimp only
    rw [q1, bnd0]
    dsimp only
    rw [show (1 : Int32) = nI 1 from rfl, nI_add, e2]
    exact ih (by omega) σ1 n h1 (tk_cong t1 (fun b => by rw [← e2, usM, Bool.or_assoc])) (by omega)
theorem c_unused (h : XC A σ) {a : Nat} (ha : a < 65536) : ∃ σ', x_M (d + 3) 86 [.ref 12, .int (nI a)] σ = some (nI (aFB A a), σ') ∧ XC A σ' := by
  obtain ⟨σ1, q1, h1, t1⟩ := c_marks d h
  have hc : A 0 ((a + 5) % 512) < 256 := h.2 0 _ (show (a + 5) % 512 < 512 by omega)
  obtain ⟨σ2, q2, h2⟩ := c_un20 (d + 1) (a := a) ha hc (min (A 0 ((a + 5) % 512)) 10) (Nat.le_refl _) σ1 4999 h1 (tk_cong t1 (fun b => by rw [Nat.sub_self]; simp [usM])) (by omega)
  rw [Nat.sub_self] at q2
  rw [m86, q1, bnd0]
  dsimp only
  rw [show (5 : Int32) = nI 5 from rfl, nI_add, c_mget (d + 1) h1 (by omega), bnd0]
  exact ⟨σ2, q2, h2⟩
end B1
section B2
variable {A : aS} {σ : xS} (d : Nat)
theorem y_us13 (h : XM A σ) {b e : Nat} (hb : b < 32) (he : e < 8) (y : Bool) (n : Nat) : ∀ m, m ≤ min (A 1 (16 * e + 5)) 10 → xr x_i121 (d + 1) (n + m + 1) 13 [(0, .ref 19), (1, .int (nI b)), (2, .int (nI (bN (y || (!decide (A 1 (16 * e) = 229) && usE A b e (min (A 1 (16 * e + 5)) 10 - m)))))), (3, .int (nI e)), (4, .int (nI (min (A 1 (16 * e + 5)) 10 - m)))] [] σ = xr x_i121 (d + 1) n 4 [(0, .ref 19), (1, .int (nI b)), (2, .int (nI (bN (y || usR A b e)))), (3, .int (nI (e + 1)))] [] σ := by
  have hc : A 1 (16 * e + 5) < 256 := h.2 1 _ (show 16 * e + 5 < 512 by omega)
  intro m
  induction m with
  | zero =>
    intro _
    rw [c121_13, show (5 : Int32) = nI 5 from rfl, y_16i, if_neg (n_ok (by omega) (by decide)), n_cl (by omega), yv_dsk h (by omega), y_least d (by omega), bnd0]
    dsimp only
    rw [Nat.sub_zero, if_pos (by exact (nI_leI (by omega) (by omega)).mpr (Nat.le_refl _)), show (1 : Int32) = nI 1 from rfl, nI_add]
    rfl
  | succ m ih =>
    intro hm
    have ih := ih (by omega)
    have e2 : min (A 1 (16 * e + 5)) 10 - (m + 1) + 1 = min (A 1 (16 * e + 5)) 10 - m := by omega
    generalize hi : min (A 1 (16 * e + 5)) 10 - (m + 1) = i at e2
    have hv : A 1 (16 * e + (6 + i)) < 256 := h.2 1 _ (show 16 * e + (6 + i) < 512 by omega)
    rw [← e2, usE] at ih
    rw [show n + (m + 1) + 1 = (n + m + 1) + 1 from by omega, c121_13, show (5 : Int32) = nI 5 from rfl, y_16i, if_neg (n_ok (by omega) (by decide)), n_cl (by omega), yv_dsk h (by omega), y_least d (by omega), bnd0]
    dsimp only
    rw [if_neg (by intro z; have := (nI_leI (by omega) (by omega)).mp z; omega), show (6 : Int32) = nI 6 from rfl, y_16i, nI_add, show (1 : Int32) = nI 1 from rfl, nI_add, Nat.add_assoc (16 * e)]
    cases g : (y || (!decide (A 1 (16 * e) = 229) && usE A b e i))
    · rw [if_pos (by decide), y_free d h he, bnd0]
      dsimp only
      have g1 : y = false := by cases y <;> simp_all
      subst g1
      by_cases gf : A 1 (16 * e) = 229
      · rw [decide_eq_true gf] at ih ⊢
        rw [if_neg (by decide)]
        exact ih
      · rw [decide_eq_false gf] at ih g ⊢
        have g2 : usE A b e i = false := by simpa using g
        rw [g2] at ih
        have hs : σ 21 (16 * e + (6 + i)) = nI (A 1 (16 * e + (6 + i))) := yv_dsk h (by omega)
        rw [if_pos (by decide), if_neg (n_ok (by omega) (by decide)), n_cl (by omega)]
        by_cases gv : A 1 (16 * e + (6 + i)) = b
        · rw [decide_eq_true gv] at ih
          rw [if_pos (by rw [hs, gv])]
          exact ih
        · rw [decide_eq_false gv] at ih
          rw [if_neg (by intro z; rw [hs] at z; exact gv ((nI_eq (by omega) (by omega)).mp z))]
          exact ih
    · rw [if_neg (by decide)]
      have g2 : (y || (!decide (A 1 (16 * e) = 229) && (usE A b e i || decide (A 1 (16 * e + (6 + i)) = b)))) = true := by
        revert g
        cases y <;> cases decide (A 1 (16 * e) = 229) <;> cases usE A b e i <;> simp
      rw [g2] at ih
      exact ih
theorem y_us4 (h : XM A σ) {b : Nat} (hb : b < 32) : ∀ m, m ≤ 8 → ∀ n, 12 * m < n → xr x_i121 (d + 1) n 4 [(0, .ref 19), (1, .int (nI b)), (2, .int (nI (bN (usd A b (8 - m))))), (3, .int (nI (8 - m)))] [] σ = some (nI (bN (usd A b 8)), σ) := by
  intro m
  induction m with
  | zero =>
    intro _ n hn
    obtain ⟨n, rfl⟩ : ∃ q, n = q + 1 := ⟨n - 1, by omega⟩
    rw [c121_4, if_pos (by decide), Nat.sub_zero]
    cases usd A b 8
    · rw [if_pos (by decide)]
    · rw [if_pos (by decide)]
  | succ m ih =>
    intro hm n hn
    have e1 : 8 - (m + 1) = 7 - m := by omega
    have e2 : 7 - m + 1 = 8 - m := by omega
    have hc : ∃ q, n = (q + min (A 1 (16 * (7 - m) + 5)) 10 + 1) + 1 := ⟨n - 2 - min (A 1 (16 * (7 - m) + 5)) 10, by omega⟩
    obtain ⟨n, rfl⟩ := hc
    have q := y_us13 d h hb (e := 7 - m) (by omega) (usd A b (7 - m)) n (min (A 1 (16 * (7 - m) + 5)) 10) (Nat.le_refl _)
    rw [Nat.sub_self, usE, Bool.and_false, Bool.or_false, e2] at q
    rw [e1, c121_4, if_neg (by intro z; have := (nI_leI (a := 8) (by decide) (by omega)).mp z; omega), show (0 : Int32) = nI 0 from rfl, q]
    have ih := ih (by omega) n (by omega)
    rw [← e2, usd, e2] at ih
    exact ih
theorem y_used (h : XM A σ) {b : Nat} (hb : b < 32) : x_M (d + 2) 121 [.ref 19, .int (nI b)] σ = some (nI (bN (usd A b 8)), σ) := by
  rw [m121]
  exact y_us4 d h hb 8 (by omega) 4999 (by omega)
theorem y_fb18 (h : XM A σ) {a b : Nat} (ha : a < 65536) (hb : b < 32) (y : Bool) (n : Nat) : ∀ m, m ≤ min (A 0 ((a + 5) % 512)) 10 → xr x_i123 (d + 1) (n + m + 1) 18 [(0, .ref 19), (1, .int (nI a)), (2, .int (nI b)), (3, .int (nI (bN (y || usM A a b (min (A 0 ((a + 5) % 512)) 10 - m))))), (4, .int (nI (min (A 0 ((a + 5) % 512)) 10 - m)))] [] σ = if (y || usM A a b (min (A 0 ((a + 5) % 512)) 10)) = true then xr x_i123 (d + 1) n 3 [(0, .ref 19), (1, .int (nI a)), (2, .int (nI (b + 1)))] [] σ else some (nI b, σ) := by
  have hc : A 0 ((a + 5) % 512) < 256 := h.2 0 _ (show (a + 5) % 512 < 512 by omega)
  intro m
  induction m with
  | zero =>
    intro _
    rw [c123_18, if_neg (by exact n_m1 (by omega)), show (5 : Int32) = nI 5 from rfl, nI_add, y_mget d h (by omega), bnd0]
    dsimp only
    rw [y_least d (by omega), bnd0]
    dsimp only
    rw [Nat.sub_zero, if_pos (by exact (nI_leI (by omega) (by omega)).mpr (Nat.le_refl _)), show (1 : Int32) = nI 1 from rfl, nI_add]
    cases (y || usM A a b (min (A 0 ((a + 5) % 512)) 10))
    · rw [if_pos (by decide), if_neg (by decide)]
    · rw [if_neg (by decide), if_pos rfl]
  | succ m ih =>
    intro hm
    have ih := ih (by omega)
    have e2 : min (A 0 ((a + 5) % 512)) 10 - (m + 1) + 1 = min (A 0 ((a + 5) % 512)) 10 - m := by omega
    generalize hi : min (A 0 ((a + 5) % 512)) 10 - (m + 1) = i at e2
    have hv : A 0 ((a + 6 + i) % 512) < 256 := h.2 0 _ (show (a + 6 + i) % 512 < 512 by omega)
    rw [← e2, usM] at ih
    rw [show n + (m + 1) + 1 = (n + m + 1) + 1 from by omega, c123_18, if_neg (by exact n_m1 (by omega)), show (5 : Int32) = nI 5 from rfl, nI_add, y_mget d h (by omega), bnd0]
    dsimp only
    rw [y_least d (by omega), bnd0]
    dsimp only
    rw [if_neg (by intro z; have := (nI_leI (by omega) (by omega)).mp z; omega), show (6 : Int32) = nI 6 from rfl, nI_add, nI_add, show (1 : Int32) = nI 1 from rfl, nI_add]
    cases g : (y || usM A a b i)
    · have g1 : y = false := by cases y <;> simp_all
      have g2 : usM A a b i = false := by cases y <;> simp_all
      rw [if_pos (by decide), y_mget d h (by omega), bnd0]
      dsimp only
      rw [g1, g2] at ih
      rw [g1]
      by_cases gv : A 0 ((a + 6 + i) % 512) = b
      · rw [decide_eq_true gv] at ih
        rw [if_pos (by rw [gv])]
        exact ih
      · rw [decide_eq_false gv] at ih
        rw [if_neg (by intro z; exact gv ((nI_eq (by omega) (by omega)).mp z))]
        exact ih
    · rw [if_neg (by decide)]
      rw [← Bool.or_assoc, g] at ih
      exact ih
theorem y_fb3 (h : XM A σ) {a : Nat} (ha : a < 65536) : ∀ m, m ≤ 24 → ∀ n, 12 * m < n → xr x_i123 (d + 2) n 3 [(0, .ref 19), (1, .int (nI a)), (2, .int (nI (32 - m)))] [] σ = some (nI (aLu (fun b => usd A b 8 || usM A a b (min (A 0 ((a + 5) % 512)) 10)) m), σ) := by
  intro m
  induction m with
  | zero =>
    intro _ n hn
    obtain ⟨n, rfl⟩ : ∃ q, n = q + 1 := ⟨n - 1, by omega⟩
    rw [c123_3, if_pos (by decide)]
    rfl
  | succ m ih =>
    intro hm n hn
    have e1 : 32 - (m + 1) = 31 - m := by omega
    have e2 : 31 - m + 1 = 32 - m := by omega
    have hc : ∃ q, n = (q + min (A 0 ((a + 5) % 512)) 10 + 1) + 1 := ⟨n - 2 - min (A 0 ((a + 5) % 512)) 10, by omega⟩
    obtain ⟨n, rfl⟩ := hc
    have q := y_fb18 (d + 1) h ha (b := 31 - m) (by omega) (usd A (31 - m) 8) n (min (A 0 ((a + 5) % 512)) 10) (Nat.le_refl _)
    rw [Nat.sub_self, usM, Bool.or_false, e2, ih (by omega) n (by omega)] at q
    rw [e1, c123_3, if_neg (by intro z; have := (nI_leI (a := 32) (by decide) (by omega)).mp z; omega), y_used d h (by omega), bnd0]
    dsimp only
    rw [show (0 : Int32) = nI 0 from rfl, q, aLu]
    cases (usd A (31 - m) 8 || usM A a (31 - m) (min (A 0 ((a + 5) % 512)) 10))
    · rw [if_neg (by decide), if_neg (by decide)]
    · rw [if_pos rfl, if_pos rfl]
theorem y_freeB (h : XM A σ) {a : Nat} (ha : a < 65536) : x_M (d + 3) 123 [.ref 19, .int (nI a)] σ = some (nI (aFB A a), σ) := by
  rw [m123]
  exact y_fb3 d h ha 24 (by omega) 4999 (by omega)
/-- the same for no file block -/
def aFB0 (A : aS) : Nat := aLu (fun b => usd A b 8) 24
theorem y_fb3n (h : XM A σ) : ∀ m, m ≤ 24 → ∀ n, 2 * m < n → xr x_i123 (d + 2) n 3 [(0, .ref 19), (1, .int (-1)), (2, .int (nI (32 - m)))] [] σ = some (nI (aLu (fun b => usd A b 8) m), σ) := by
  intro m
  induction m with
  | zero =>
    intro _ n hn
    obtain ⟨n, rfl⟩ : ∃ q, n = q + 1 := ⟨n - 1, by omega⟩
    rw [c123_3, if_pos (by decide)]
    rfl
  | succ m ih =>
    intro hm n hn
    have e1 : 32 - (m + 1) = 31 - m := by omega
    have e2 : 31 - m + 1 = 32 - m := by omega
    obtain ⟨n, rfl⟩ : ∃ q, n = q + 1 + 1 := ⟨n - 2, by omega⟩
    rw [e1, c123_3, if_neg (by intro z; have := (nI_leI (a := 32) (by decide) (by omega)).mp z; omega), y_used d h (by omega), bnd0]
    dsimp only
    rw [c123_18, if_pos rfl, show (1 : Int32) = nI 1 from rfl, nI_add, e2, aLu]
    cases usd A (31 - m) 8
    · rw [if_pos (by decide), if_neg (by decide)]
    · rw [if_neg (by decide), if_pos rfl]
      exact ih (by omega) n (by omega)
theorem y_freeN (h : XM A σ) : x_M (d + 3) 123 [.ref 19, .int (-1)] σ = some (nI (aFB0 A), σ) := by
  rw [m123]
  exact y_fb3n d h 24 (by omega) 4999 (by omega)
theorem c_free0 (h : XC A σ) : ∃ σ', x_M (d + 2) 31 [.ref 5] σ = some (0, σ') ∧ XC A σ' ∧ x_M (d + 1) 32 [.ref 5] σ' = some (nI (aFB0 A), σ') := by
  obtain ⟨σ1, q1, h1, t1⟩ := c_marks d h
  exact ⟨σ1, q1, h1, c_least d t1⟩
end B2
