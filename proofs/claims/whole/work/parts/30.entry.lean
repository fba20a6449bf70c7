/-! Erasing, making and renaming entries -/
theorem n_m1 {x : Nat} (hx : x < 2147483648) : ¬ nI x = (-1 : Int32) := by
  intro z
  have h1 : nI x < 0 := by rw [z]; decide
  exact absurd ((nI_ltI (b := 0) hx (by decide)).mp h1) (by omega)
theorem a_row {A : aS} {o k v a : Nat} (h : ¬ a = o) : a_up A o k v a = A a := by
  funext j
  exact a_ne (fun e => h e.1)
theorem Mt_free {N : Nat → Nat} {A : aS} {e a : Nat} (h : A 1 (16 * e) = 229) : Mt N A e a = false := by
  unfold Mt
  rw [decide_eq_true h]
  rfl
theorem aFd_lt (N : Nat → Nat) (A : aS) (a : Nat) : ∀ m, m ≤ 8 → aFd N A a m = 4294967295 ∨ aFd N A a m < 8
  | 0, _ => Or.inl rfl
  | m + 1, h => by
    rw [aFd]
    split
    · exact Or.inr (by omega)
    · exact aFd_lt N A a m (by omega)
def aEr (N : Nat → Nat) : Nat → aS → aS
  | 0, A => A
  | n + 1, A => if Mt N A (7 - n) 1 = true then aEr N n (a_up A 1 (16 * (7 - n)) 229) else aEr N n A
def aEc (N : Nat → Nat) : Nat → aS → Nat
  | 0, _ => 0
  | n + 1, A => if Mt N A (7 - n) 1 = true then aEc N n (a_up A 1 (16 * (7 - n)) 229) + 1 else aEc N n A
/-- updates of one table, one after another -/
def aLp (A : aS) (o : Nat) (g f : Nat → Nat) : Nat → aS
  | 0 => A
  | n + 1 => a_up (aLp A o g f n) o (g n) (f n)
theorem aLp_row (A : aS) (o : Nat) (g f : Nat → Nat) {a : Nat} (h : ¬ a = o) : ∀ n, aLp A o g f n a = A a
  | 0 => rfl
  | n + 1 => by rw [aLp, a_row h, aLp_row A o g f h n]
theorem aLp_v (A : aS) (o b : Nat) (f : Nat → Nat) : ∀ (n a j : Nat), aLp A o (fun k => b + k) f n a j = if a = o ∧ b ≤ j ∧ j < b + n then f (j - b) else A a j
  | 0, a, j => by rw [aLp, if_neg (by omega)]
  | n + 1, a, j => by
    rw [aLp]
    by_cases e : a = o ∧ j = b + n
    · rw [e.1, e.2, a_at, if_pos ⟨rfl, by omega, by omega⟩, Nat.add_sub_cancel_left]
    · rw [a_ne e, aLp_v A o b f n]
      by_cases e2 : a = o ∧ b ≤ j ∧ j < b + n
      · rw [if_pos e2, if_pos ⟨e2.1, e2.2.1, by omega⟩]
      · rw [if_neg e2, if_neg (fun z => e2 ⟨z.1, z.2.1, by
          have := z.2.2
          have h2 : ¬ j = b + n := fun q => e ⟨z.1, q⟩
          omega⟩)]
def aFF (A : aS) : Nat → Nat
  | 0 => 4294967295
  | n + 1 => if A 1 (16 * (7 - n)) = 229 then 7 - n else aFF A n
theorem aFF_lt (A : aS) : ∀ m, m ≤ 8 → aFF A m = 4294967295 ∨ aFF A m < 8
  | 0, _ => Or.inl rfl
  | m + 1, h => by
    rw [aFF]
    split
    · exact Or.inr (by omega)
    · exact aFF_lt A m (by omega)
def aMk (N : Nat → Nat) (A : aS) (e : Nat) : aS := aLp A 1 (fun k => 16 * e + k) (fun k => if 0 < k ∧ k < 5 then N (k - 1) else 0) 16
/-- made anew: no entry is free, or entry aFF with the name -/
def aMake (N : Nat → Nat) (A : aS) : aS := if aFF A 8 < 8 then aMk N A (aFF A 8) else A
def aRn (N : Nat → Nat) (A : aS) (e : Nat) : aS := aLp A 1 (fun k => (16 * e + 1) + k) N 4
theorem aMk_eq (N : Nat → Nat) (A : aS) (e : Nat) : aRn N (aLp A 1 (fun k => 16 * e + k) (fun _ => 0) 16) e = aMk N A e := by
  funext a j
  unfold aRn aMk
  rw [aLp_v, aLp_v, aLp_v]
  by_cases e1 : a = 1 ∧ 16 * e + 1 ≤ j ∧ j < 16 * e + 1 + 4
  · rw [if_pos e1, if_pos ⟨e1.1, by omega, by omega⟩, if_pos ⟨by omega, by omega⟩, Nat.sub_sub]
  · rw [if_neg e1]
    by_cases e2 : a = 1 ∧ 16 * e ≤ j ∧ j < 16 * e + 16
    · rw [if_pos e2, if_pos e2, if_neg (fun z => e1 ⟨e2.1, by omega, by omega⟩)]
    · rw [if_neg e2, if_neg e2]
section G13
variable (d : Nat)
theorem c_ers13 : ∀ m, m ≤ 8 → ∀ (A : aS) (σ : xS) (b : Bool) (n : Nat), XC A σ → m < n → ∃ σ', xr x_i26 (d + 2) n 4 [(0, .ref 5), (1, .ref 13), (2, .int (nI (bN b))), (3, .int (nI (8 - m)))] [] σ = some (nI (bN (b || decide (0 < aEc (A 5) m A))), σ') ∧ XC (aEr (A 5) m A) σ' := by
  intro m
  induction m with
  | zero =>
    intro _ A σ b n h hn
    obtain ⟨n, rfl⟩ : ∃ q, n = q + 1 := ⟨n - 1, by omega⟩
    rw [c26_13_4, if_pos (by decide)]
    cases b
    · rw [if_pos (by decide)]; exact ⟨σ, rfl, h⟩
    · rw [if_pos (by decide)]; exact ⟨σ, rfl, h⟩
  | succ m ih =>
    intro hm A σ b n h hn
    obtain ⟨n, rfl⟩ : ∃ q, n = q + 1 := ⟨n - 1, by omega⟩
    have e1 : 8 - (m + 1) = 7 - m := by omega
    have e2 : 7 - m + 1 = 8 - m := by omega
    rw [e1, c26_13_4, if_neg (by intro z; have := (nI_leI (a := 8) (by decide) (by omega)).mp z; omega), show (1 : Int32) = nI 1 from rfl, c_match13 (d + 1) h (by omega) (by omega), bnd0]
    dsimp only
    rw [nI_add, e2, aEc, aEr]
    cases g : Mt (A 5) A (7 - m) 1
    · rw [if_pos (by decide), if_neg (by decide), if_neg (by decide)]
      exact ih (by omega) A σ b n h (by omega)
    · obtain ⟨σ1, q1, h1⟩ := c_dput d h (b := 7 - m) (i := 0) (v := 229) (by omega) (by omega) (by omega)
      rw [if_neg (by decide), if_pos rfl, if_pos rfl, m25, show (0 : Int32) = nI 0 from rfl, show (229 : Int32) = nI 229 from rfl, q1, bnd0, bnd0]
      dsimp only
      obtain ⟨σ2, q2, h2⟩ := ih (by omega) _ σ1 true n h1 (by omega)
      rw [show nI 1 = nI (bN true) from rfl, q2, decide_eq_true (Nat.succ_pos _), Bool.or_true, Bool.true_or]
      rw [Nat.add_zero, a_row (by decide)] at h2
      exact ⟨σ2, rfl, h2⟩
theorem c_erase13 {A : aS} {σ : xS} (h : XC A σ) : ∃ σ', x_M (d + 3) 26 [.ref 5, .ref 13] σ = some (nI (bN (decide (0 < aEc (A 5) 8 A))), σ') ∧ XC (aEr (A 5) 8 A) σ' := by
  obtain ⟨σ', q, h'⟩ := c_ers13 d 8 (by omega) A σ false 4999 h (by omega)
  rw [Bool.false_or] at q
  rw [m26_13]
  exact ⟨σ', q, h'⟩
theorem c_rn13 {A : aS} {e : Nat} (he : e < 8) : ∀ m, m ≤ 4 → ∀ (σ : xS) (n : Nat), XC (aLp A 1 (fun k => (16 * e + 1) + k) (A 5) (4 - m)) σ → m < n → ∃ σ', xr x_i27 (d + 1) n 2 [(0, .ref 5), (1, .int (nI e)), (2, .ref 13), (3, .int (nI (4 - m)))] [] σ = some (0, σ') ∧ XC (aRn (A 5) A e) σ' := by
  intro m
  induction m with
  | zero =>
    intro _ σ n h hn
    obtain ⟨n, rfl⟩ : ∃ q, n = q + 1 := ⟨n - 1, by omega⟩
    rw [c27_13_2, if_pos (by decide)]
    exact ⟨σ, rfl, h⟩
  | succ m ih =>
    intro hm σ n h hn
    obtain ⟨n, rfl⟩ : ∃ q, n = q + 1 := ⟨n - 1, by omega⟩
    have e1 : 4 - (m + 1) = 3 - m := by omega
    have e2 : 3 - m + 1 = 4 - m := by omega
    rw [e1] at h
    have hr : aLp A 1 (fun k => (16 * e + 1) + k) (A 5) (3 - m) 5 = A 5 := aLp_row _ _ _ _ (by decide) _
    have hv : A 5 (3 - m) < 256 := by
      rw [← hr]
      exact h.2 5 (3 - m) (show 3 - m < 4 by omega)
    obtain ⟨σ1, q1, h1⟩ := c_dput d h (b := e) (i := 1 + (3 - m)) (v := A 5 (3 - m)) (by omega) (by omega) hv
    rw [e1, c27_13_2, if_neg (by intro z; have := (nI_leI (a := 4) (by decide) (by omega)).mp z; omega), if_neg (n_ok (by omega) (by decide)), n_cl (by omega), xv_n13 h (by omega), hr, show (1 : Int32) = nI 1 from rfl, nI_add, q1, bnd0]
    dsimp only
    rw [nI_add, e2]
    refine ih (by omega) σ1 n ?_ (by omega)
    rw [← e2, aLp]
    rw [← Nat.add_assoc] at h1
    exact h1
theorem c_rename13 {A : aS} {σ : xS} (h : XC A σ) {e : Nat} (he : e < 8) : ∃ σ', x_M (d + 2) 27 [.ref 5, .int (nI e), .ref 13] σ = some (0, σ') ∧ XC (aRn (A 5) A e) σ' := by
  rw [m27_13]
  exact c_rn13 d he 4 (by omega) σ 4999 h (by omega)
theorem c_mk013 {A : aS} {e : Nat} (he : e < 8) : ∀ m, m ≤ 16 → ∀ (σ : xS) (n : Nat), XC (aLp A 1 (fun k => 16 * e + k) (fun _ => 0) (16 - m)) σ → m < n → ∃ σ', xr x_i29 (d + 2) n 18 [(0, .ref 5), (1, .ref 13), (2, .int (nI e)), (3, .int (nI (16 - m)))] [] σ = some (nI e, σ') ∧ XC (aMk (A 5) A e) σ' := by
  intro m
  induction m with
  | zero =>
    intro _ σ n h hn
    obtain ⟨n, rfl⟩ : ∃ q, n = q + 1 := ⟨n - 1, by omega⟩
    obtain ⟨σ1, q1, h1⟩ := c_rename13 d h he
    rw [aLp_row _ _ _ _ (by decide), aMk_eq] at h1
    rw [c29_13_18, if_pos (by decide), q1, bnd0]
    exact ⟨σ1, rfl, h1⟩
  | succ m ih =>
    intro hm σ n h hn
    obtain ⟨n, rfl⟩ : ∃ q, n = q + 1 := ⟨n - 1, by omega⟩
    have e1 : 16 - (m + 1) = 15 - m := by omega
    have e2 : 15 - m + 1 = 16 - m := by omega
    rw [e1] at h
    obtain ⟨σ1, q1, h1⟩ := c_dput (d + 1) h (b := e) (i := 15 - m) (v := 0) (by omega) (by omega) (by omega)
    rw [e1, c29_13_18, if_neg (by intro z; have := (nI_leI (a := 16) (by decide) (by omega)).mp z; omega), show (0 : Int32) = nI 0 from rfl, q1, bnd0]
    dsimp only
    rw [show (1 : Int32) = nI 1 from rfl, nI_add, e2]
    refine ih (by omega) σ1 n ?_ (by omega)
    rw [← e2, aLp]
    exact h1
theorem c_mkx13 {A : aS} {σ : xS} (h : XC A σ) : ∀ m, m ≤ 8 → ∀ n, m + 17 < n → ∃ σ', xr x_i29 (d + 2) n 2 [(0, .ref 5), (1, .ref 13), (2, .int (nI (8 - m)))] [] σ = some (nI (aFF A m), σ') ∧ XC (if aFF A m < 8 then aMk (A 5) A (aFF A m) else A) σ' := by
  intro m
  induction m with
  | zero =>
    intro _ n hn
    obtain ⟨n, rfl⟩ : ∃ q, n = q + 1 := ⟨n - 1, by omega⟩
    rw [c29_13_2, if_pos (by decide), aFF, if_neg (by decide)]
    exact ⟨σ, rfl, h⟩
  | succ m ih =>
    intro hm n hn
    obtain ⟨n, rfl⟩ : ∃ q, n = q + 1 := ⟨n - 1, by omega⟩
    have e1 : 8 - (m + 1) = 7 - m := by omega
    have e2 : 7 - m + 1 = 8 - m := by omega
    rw [e1, c29_13_2, if_neg (by intro z; have := (nI_leI (a := 8) (by decide) (by omega)).mp z; omega), c_free (d + 1) h (by omega), bnd0]
    dsimp only
    rw [aFF]
    by_cases g : A 1 (16 * (7 - m)) = 229
    · rw [decide_eq_true g, if_neg (by decide), if_pos g, if_pos (by omega)]
      exact c_mk013 d (e := 7 - m) (by omega) 16 (by omega) σ n h (by omega)
    · rw [decide_eq_false g, if_pos (by decide), if_neg g, show (1 : Int32) = nI 1 from rfl, nI_add, e2]
      exact ih (by omega) n (by omega)
theorem c_make13 {A : aS} {σ : xS} (h : XC A σ) : ∃ σ', x_M (d + 3) 29 [.ref 5, .ref 13] σ = some (nI (aFF A 8), σ') ∧ XC (aMake (A 5) A) σ' := by
  rw [m29_13]
  exact c_mkx13 d h 8 (by omega) 4999 (by omega)
end G13
section G18
variable (d : Nat)
theorem c_ers18 : ∀ m, m ≤ 8 → ∀ (A : aS) (σ : xS) (b : Bool) (n : Nat), XC A σ → m < n → ∃ σ', xr x_i26 (d + 2) n 4 [(0, .ref 5), (1, .ref 18), (2, .int (nI (bN b))), (3, .int (nI (8 - m)))] [] σ = some (nI (bN (b || decide (0 < aEc (A 11) m A))), σ') ∧ XC (aEr (A 11) m A) σ' := by
  intro m
  induction m with
  | zero =>
    intro _ A σ b n h hn
    obtain ⟨n, rfl⟩ : ∃ q, n = q + 1 := ⟨n - 1, by omega⟩
    rw [c26_18_4, if_pos (by decide)]
    cases b
    · rw [if_pos (by decide)]; exact ⟨σ, rfl, h⟩
    · rw [if_pos (by decide)]; exact ⟨σ, rfl, h⟩
  | succ m ih =>
    intro hm A σ b n h hn
    obtain ⟨n, rfl⟩ : ∃ q, n = q + 1 := ⟨n - 1, by omega⟩
    have e1 : 8 - (m + 1) = 7 - m := by omega
    have e2 : 7 - m + 1 = 8 - m := by omega
    rw [e1, c26_18_4, if_neg (by intro z; have := (nI_leI (a := 8) (by decide) (by omega)).mp z; omega), show (1 : Int32) = nI 1 from rfl, c_match18 (d + 1) h (by omega) (by omega), bnd0]
    dsimp only
    rw [nI_add, e2, aEc, aEr]
    cases g : Mt (A 11) A (7 - m) 1
    · rw [if_pos (by decide), if_neg (by decide), if_neg (by decide)]
      exact ih (by omega) A σ b n h (by omega)
    · obtain ⟨σ1, q1, h1⟩ := c_dput d h (b := 7 - m) (i := 0) (v := 229) (by omega) (by omega) (by omega)
      rw [if_neg (by decide), if_pos rfl, if_pos rfl, m25, show (0 : Int32) = nI 0 from rfl, show (229 : Int32) = nI 229 from rfl, q1, bnd0, bnd0]
      dsimp only
      obtain ⟨σ2, q2, h2⟩ := ih (by omega) _ σ1 true n h1 (by omega)
      rw [show nI 1 = nI (bN true) from rfl, q2, decide_eq_true (Nat.succ_pos _), Bool.or_true, Bool.true_or]
      rw [Nat.add_zero, a_row (by decide)] at h2
      exact ⟨σ2, rfl, h2⟩
theorem c_erase18 {A : aS} {σ : xS} (h : XC A σ) : ∃ σ', x_M (d + 3) 26 [.ref 5, .ref 18] σ = some (nI (bN (decide (0 < aEc (A 11) 8 A))), σ') ∧ XC (aEr (A 11) 8 A) σ' := by
  obtain ⟨σ', q, h'⟩ := c_ers18 d 8 (by omega) A σ false 4999 h (by omega)
  rw [Bool.false_or] at q
  rw [m26_18]
  exact ⟨σ', q, h'⟩
theorem c_rn18 {A : aS} {e : Nat} (he : e < 8) : ∀ m, m ≤ 4 → ∀ (σ : xS) (n : Nat), XC (aLp A 1 (fun k => (16 * e + 1) + k) (A 11) (4 - m)) σ → m < n → ∃ σ', xr x_i27 (d + 1) n 2 [(0, .ref 5), (1, .int (nI e)), (2, .ref 18), (3, .int (nI (4 - m)))] [] σ = some (0, σ') ∧ XC (aRn (A 11) A e) σ' := by
  intro m
  induction m with
  | zero =>
    intro _ σ n h hn
    obtain ⟨n, rfl⟩ : ∃ q, n = q + 1 := ⟨n - 1, by omega⟩
    rw [c27_18_2, if_pos (by decide)]
    exact ⟨σ, rfl, h⟩
  | succ m ih =>
    intro hm σ n h hn
    obtain ⟨n, rfl⟩ : ∃ q, n = q + 1 := ⟨n - 1, by omega⟩
    have e1 : 4 - (m + 1) = 3 - m := by omega
    have e2 : 3 - m + 1 = 4 - m := by omega
    rw [e1] at h
    have hr : aLp A 1 (fun k => (16 * e + 1) + k) (A 11) (3 - m) 11 = A 11 := aLp_row _ _ _ _ (by decide) _
    have hv : A 11 (3 - m) < 256 := by
      rw [← hr]
      exact h.2 11 (3 - m) (show 3 - m < 4 by omega)
    obtain ⟨σ1, q1, h1⟩ := c_dput d h (b := e) (i := 1 + (3 - m)) (v := A 11 (3 - m)) (by omega) (by omega) hv
    rw [e1, c27_18_2, if_neg (by intro z; have := (nI_leI (a := 4) (by decide) (by omega)).mp z; omega), if_neg (n_ok (by omega) (by decide)), n_cl (by omega), xv_n18 h (by omega), hr, show (1 : Int32) = nI 1 from rfl, nI_add, q1, bnd0]
    dsimp only
    rw [nI_add, e2]
    refine ih (by omega) σ1 n ?_ (by omega)
    rw [← e2, aLp]
    rw [← Nat.add_assoc] at h1
    exact h1
theorem c_rename18 {A : aS} {σ : xS} (h : XC A σ) {e : Nat} (he : e < 8) : ∃ σ', x_M (d + 2) 27 [.ref 5, .int (nI e), .ref 18] σ = some (0, σ') ∧ XC (aRn (A 11) A e) σ' := by
  rw [m27_18]
  exact c_rn18 d he 4 (by omega) σ 4999 h (by omega)
theorem c_mk018 {A : aS} {e : Nat} (he : e < 8) : ∀ m, m ≤ 16 → ∀ (σ : xS) (n : Nat), XC (aLp A 1 (fun k => 16 * e + k) (fun _ => 0) (16 - m)) σ → m < n → ∃ σ', xr x_i29 (d + 2) n 18 [(0, .ref 5), (1, .ref 18), (2, .int (nI e)), (3, .int (nI (16 - m)))] [] σ = some (nI e, σ') ∧ XC (aMk (A 11) A e) σ' := by
  intro m
  induction m with
  | zero =>
    intro _ σ n h hn
    obtain ⟨n, rfl⟩ : ∃ q, n = q + 1 := ⟨n - 1, by omega⟩
    obtain ⟨σ1, q1, h1⟩ := c_rename18 d h he
    rw [aLp_row _ _ _ _ (by decide), aMk_eq] at h1
    rw [c29_18_18, if_pos (by decide), q1, bnd0]
    exact ⟨σ1, rfl, h1⟩
  | succ m ih =>
    intro hm σ n h hn
    obtain ⟨n, rfl⟩ : ∃ q, n = q + 1 := ⟨n - 1, by omega⟩
    have e1 : 16 - (m + 1) = 15 - m := by omega
    have e2 : 15 - m + 1 = 16 - m := by omega
    rw [e1] at h
    obtain ⟨σ1, q1, h1⟩ := c_dput (d + 1) h (b := e) (i := 15 - m) (v := 0) (by omega) (by omega) (by omega)
    rw [e1, c29_18_18, if_neg (by intro z; have := (nI_leI (a := 16) (by decide) (by omega)).mp z; omega), show (0 : Int32) = nI 0 from rfl, q1, bnd0]
    dsimp only
    rw [show (1 : Int32) = nI 1 from rfl, nI_add, e2]
    refine ih (by omega) σ1 n ?_ (by omega)
    rw [← e2, aLp]
    exact h1
theorem c_mkx18 {A : aS} {σ : xS} (h : XC A σ) : ∀ m, m ≤ 8 → ∀ n, m + 17 < n → ∃ σ', xr x_i29 (d + 2) n 2 [(0, .ref 5), (1, .ref 18), (2, .int (nI (8 - m)))] [] σ = some (nI (aFF A m), σ') ∧ XC (if aFF A m < 8 then aMk (A 11) A (aFF A m) else A) σ' := by
  intro m
  induction m with
  | zero =>
    intro _ n hn
    obtain ⟨n, rfl⟩ : ∃ q, n = q + 1 := ⟨n - 1, by omega⟩
    rw [c29_18_2, if_pos (by decide), aFF, if_neg (by decide)]
    exact ⟨σ, rfl, h⟩
  | succ m ih =>
    intro hm n hn
    obtain ⟨n, rfl⟩ : ∃ q, n = q + 1 := ⟨n - 1, by omega⟩
    have e1 : 8 - (m + 1) = 7 - m := by omega
    have e2 : 7 - m + 1 = 8 - m := by omega
    rw [e1, c29_18_2, if_neg (by intro z; have := (nI_leI (a := 8) (by decide) (by omega)).mp z; omega), c_free (d + 1) h (by omega), bnd0]
    dsimp only
    rw [aFF]
    by_cases g : A 1 (16 * (7 - m)) = 229
    · rw [decide_eq_true g, if_neg (by decide), if_pos g, if_pos (by omega)]
      exact c_mk018 d (e := 7 - m) (by omega) 16 (by omega) σ n h (by omega)
    · rw [decide_eq_false g, if_pos (by decide), if_neg g, show (1 : Int32) = nI 1 from rfl, nI_add, e2]
      exact ih (by omega) n (by omega)
theorem c_make18 {A : aS} {σ : xS} (h : XC A σ) : ∃ σ', x_M (d + 3) 29 [.ref 5, .ref 18] σ = some (nI (aFF A 8), σ') ∧ XC (aMake (A 11) A) σ' := by
  rw [m29_18]
  exact c_mkx18 d h 8 (by omega) 4999 (by omega)
end G18
section G
variable (d : Nat)
theorem y_ers : ∀ m, m ≤ 8 → ∀ (A : aS) (σ : xS) (c n : Nat), XM A σ → c + m < 100 → m < n → ∃ σ', xr x_i117 (d + 2) n 9 [(0, .ref 19), (1, .int (nI c)), (2, .int (nI (aFd (A 12) A 1 m)))] [] σ = some (nI (c + aEc (A 12) m A), σ') ∧ XM (aEr (A 12) m A) σ' := by
  intro m
  induction m with
  | zero =>
    intro _ A σ c n h _ hn
    obtain ⟨n, rfl⟩ : ∃ q, n = q + 1 := ⟨n - 1, by omega⟩
    rw [c117_9, if_pos (by rfl)]
    exact ⟨σ, rfl, h⟩
  | succ m ih =>
    intro hm A σ c n h hc hn
    rw [aFd, aEc, aEr]
    cases g : Mt (A 12) A (7 - m) 1
    · rw [if_neg (by decide), if_neg (by decide), if_neg (by decide)]
      exact ih (by omega) A σ c n h (by omega) (by omega)
    · obtain ⟨n, rfl⟩ : ∃ q, n = q + 1 := ⟨n - 1, by omega⟩
      have h1 : XM (a_up A 1 (16 * (7 - m)) 229) (x_up σ 21 (16 * (7 - m)) (nI 229)) := xm_up h 1 (16 * (7 - m)) (v := 229) (show 16 * (7 - m) < 512 by omega) (show 229 < 256 by decide)
      have q1 := y_find d h1 (f := 7 - m) (a := 1) (by omega) (by omega)
      rw [show 8 - (7 - m) = m + 1 from by omega, aFd, Mt_free (a_at _ _ _ _), if_neg (by decide)] at q1
      obtain ⟨σ2, q2, h2⟩ := ih (by omega) _ _ (c + 1) n h1 (by omega) (by omega)
      rw [if_pos rfl, if_pos rfl, if_pos rfl, c117_9, if_neg (by exact n_m1 (by omega)), y_16, if_neg (n_ok (by omega) (by decide)), n_cl (by omega), show (229 : Int32) = nI 229 from rfl, show (1 : Int32) = nI 1 from rfl]
      refine ⟨σ2, ?_, ?_⟩
      · rw [q1, bnd0]
        dsimp only
        rw [nI_add, q2, a_row (by decide), show c + 1 + aEc (A 12) m (a_up A 1 (16 * (7 - m)) 229) = c + (aEc (A 12) m (a_up A 1 (16 * (7 - m)) 229) + 1) from by omega]
      · rw [a_row (by decide)] at h2
        exact h2
theorem y_erase {A : aS} {σ : xS} (h : XM A σ) : ∃ σ', x_M (d + 3) 117 [.ref 19] σ = some (nI (aEc (A 12) 8 A), σ') ∧ XM (aEr (A 12) 8 A) σ' := by
  obtain ⟨σ', q, h'⟩ := y_ers d 8 (by omega) A σ 0 4999 h (by omega) (by omega)
  rw [Nat.zero_add] at q
  rw [m117, show (0 : Int32) = nI 0 from rfl, show (1 : Int32) = nI 1 from rfl, y_find d h (by omega) (by omega), bnd0]
  exact ⟨σ', q, h'⟩
theorem y_ffx {A : aS} {σ : xS} (h : XM A σ) : ∀ m, m ≤ 8 → ∀ n, m < n → xr x_i118 (d + 1) n 2 [(0, .ref 19), (1, .int (nI (8 - m)))] [] σ = some (nI (aFF A m), σ) := by
  intro m
  induction m with
  | zero =>
    intro _ n hn
    obtain ⟨n, rfl⟩ : ∃ q, n = q + 1 := ⟨n - 1, by omega⟩
    rw [c118_2, if_pos (by decide)]
    rfl
  | succ m ih =>
    intro hm n hn
    obtain ⟨n, rfl⟩ : ∃ q, n = q + 1 := ⟨n - 1, by omega⟩
    have e1 : 8 - (m + 1) = 7 - m := by omega
    have e2 : 7 - m + 1 = 8 - m := by omega
    rw [e1, c118_2, if_neg (by intro z; have := (nI_leI (a := 8) (by decide) (by omega)).mp z; omega), y_free d h (by omega), bnd0]
    dsimp only
    rw [aFF]
    by_cases g : A 1 (16 * (7 - m)) = 229
    · rw [decide_eq_true g, if_neg (by decide), if_pos g]
    · rw [decide_eq_false g, if_pos (by decide), if_neg g, show (1 : Int32) = nI 1 from rfl, nI_add, e2]
      exact ih (by omega) n (by omega)
theorem y_mk0 {A : aS} {e : Nat} (he : e < 8) : ∀ m, m ≤ 16 → ∀ (σ : xS) (n : Nat), XM (aLp A 1 (fun k => 16 * e + k) (fun k => if 0 < k ∧ k < 5 then A 12 (k - 1) else 0) (16 - m)) σ → m < n → ∃ σ', xr x_i119 (d + 2) n 7 [(0, .ref 19), (1, .int (nI e)), (2, .int (nI (16 - m)))] [] σ = some (nI e, σ') ∧ XM (aMk (A 12) A e) σ' := by
  intro m
  induction m with
  | zero =>
    intro _ σ n h hn
    obtain ⟨n, rfl⟩ : ∃ q, n = q + 1 := ⟨n - 1, by omega⟩
    rw [c119_7, if_pos (by decide)]
    exact ⟨σ, rfl, h⟩
  | succ m ih =>
    intro hm σ n h hn
    obtain ⟨n, rfl⟩ : ∃ q, n = q + 1 := ⟨n - 1, by omega⟩
    have e1 : 16 - (m + 1) = 15 - m := by omega
    have e2 : 15 - m + 1 = 16 - m := by omega
    rw [e1] at h
    have hr : aLp A 1 (fun k => 16 * e + k) (fun k => if 0 < k ∧ k < 5 then A 12 (k - 1) else 0) (15 - m) 12 = A 12 := aLp_row _ _ _ _ (by decide) _
    have key : ∀ v, v = (if 0 < 15 - m ∧ 15 - m < 5 then A 12 (15 - m - 1) else 0) → v < 256 → ∃ σ', xr x_i119 (d + 2) n 7 [(0, .ref 19), (1, .int (nI e)), (2, .int (nI (16 - m)))] [] (x_up σ 21 (16 * e + (15 - m)) (nI v)) = some (nI e, σ') ∧ XM (aMk (A 12) A e) σ' := fun v hv hv2 => by
      refine ih (by omega) _ n ?_ (by omega)
      rw [← e2, aLp, ← hv]
      exact xm_up h 1 (16 * e + (15 - m)) (show 16 * e + (15 - m) < 512 by omega) hv2
    rw [e1, c119_7, if_neg (by intro z; have := (nI_leI (a := 16) (by decide) (by omega)).mp z; omega), if_neg (by exact n_m1 (by omega)), y_16i, show (1 : Int32) = nI 1 from rfl, nI_add, e2, if_neg (n_ok (n := 512) (by omega) (by decide)), n_cl (a := 16 * e + (15 - m)) (by omega)]
    by_cases g0 : 15 - m = 0
    · rw [if_pos (by rw [g0]; decide)]
      exact key 0 (by rw [if_neg (by omega)]) (by decide)
    · rw [if_neg (by intro z; have := (nI_leI (b := 0) (by omega) (by decide)).mp z; omega)]
      by_cases g5 : 5 ≤ 15 - m
      · rw [if_pos (by exact (nI_leI (a := 5) (by decide) (by omega)).mpr g5)]
        exact key 0 (by rw [if_neg (by omega)]) (by decide)
      · have hv : A 12 (15 - m - 1) < 256 := by
          rw [← hr]
          exact h.2 12 (15 - m - 1) (show 15 - m - 1 < 4 by omega)
        rw [if_neg (by intro z; exact g5 ((nI_leI (a := 5) (by decide) (by omega)).mp z)), n_sub (by omega), if_neg (n_ok (n := 4) (by omega) (by decide)), n_cl (a := 15 - m - 1) (by omega), yv_nam h (by omega), hr, if_neg (n_okc (by omega) (by omega))]
        exact key _ (by rw [if_pos ⟨by omega, by omega⟩]) hv
theorem y_makes {A : aS} {σ : xS} (h : XM A σ) : ∃ σ', x_M (d + 3) 119 [.ref 19] σ = some (nI (aFF A 8), σ') ∧ XM (aMake (A 12) A) σ' := by
  have q := y_ffx d h 8 (by omega) 4999 (by omega)
  have q2 : x_M (d + 2) 118 [.ref 19] σ = some (nI (aFF A 8), σ) := (m118 (d + 1) σ).trans q
  rw [m119, q2, bnd0]
  unfold aMake
  rcases aFF_lt A 8 (by omega) with g | g
  · rw [if_neg (by rw [g]; decide), g]
    refine ⟨σ, (c119_7 (d + 2) 4998 _ _ _).trans ?_, h⟩
    rw [if_neg (by decide), if_pos (by rfl)]
  · rw [if_pos g]
    exact y_mk0 d g 16 (by omega) σ 4999 h (by omega)
end G
