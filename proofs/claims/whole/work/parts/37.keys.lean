/-! Keys and text, class beside model -/
def KR (A : aS) : Prop := ∀ i, i < A 4 2 → A 10 i = A 9 ((A 7 0 + i) % 40)
def aTk (A : aS) : aS := aLq (a_up (a_up A 7 0 ((A 7 0 + 1) % 40)) 4 2 (A 4 2 - 1)) 10 (fun i => 0 + i) (fun i => A 10 (i + 1)) 0 (A 4 2 - 1)
section K1
variable {A : aS} {σ τ : xS} (d : Nat)
theorem x_cnt_lt {A : aS} (w : WX A) : A 4 2 < 41 := w 4 2 (by decide)
theorem x_fst_lt {A : aS} (w : WX A) : A 7 0 < 40 := w 7 0 (by decide)
theorem c_take (h : XC A σ) (hc : 0 < A 4 2) : ∃ σ', x_M (d + 1) 6 [.ref 8] σ = some (nI (A 9 (A 7 0)), σ') ∧ XC (a_up (a_up A 7 0 ((A 7 0 + 1) % 40)) 4 2 (A 4 2 - 1)) σ' := by
  have h1 := x_cnt_lt h.2
  have h2 := x_fst_lt h.2
  have k1 : XC (a_up A 7 0 ((A 7 0 + 1) % 40)) (x_up σ 8 1 (nI ((A 7 0 + 1) % 40))) := xc_up h 7 0 (by decide) (show (A 7 0 + 1) % 40 < 40 by omega)
  have k2 : XC (a_up (a_up A 7 0 ((A 7 0 + 1) % 40)) 4 2 (A 4 2 - 1)) (x_up (x_up σ 8 1 (nI ((A 7 0 + 1) % 40))) 8 2 (nI (A 4 2 - 1))) := xc_up k1 4 2 (by decide) (show A 4 2 - 1 < 41 by omega)
  rw [m6, xv_fst h, if_neg (n_ok h2 (by decide)), n_cl (by omega), xv_key h h2, show (1 : Int32) = nI 1 from rfl, show (40 : Int32) = nI 40 from rfl, nI_add, n_rem (by omega) (by decide) (by decide), x_up_off (by decide), xv_cnt h, n_sub (by omega)]
  exact ⟨_, rfl, k2⟩
theorem y_take (h : XM A σ) (hc : 0 < A 4 2) : ∃ σ', x_M (d + 1) 107 [.ref 19] σ = some (nI (A 10 0), σ') ∧ XM (aLq (a_up A 4 2 (A 4 2 - 1)) 10 (fun i => 0 + i) (fun i => A 10 (i + 1)) 0 (A 4 2 - 1)) σ' := by
  have h1 := x_cnt_lt h.2
  have k1 : XM (a_up A 4 2 (A 4 2 - 1)) (x_up σ 19 13 (nI (A 4 2 - 1))) := xm_up h 4 2 (by decide) (show A 4 2 - 1 < 41 by omega)
  have hcnt : ∀ i, aLq (a_up A 4 2 (A 4 2 - 1)) 10 (fun i => 0 + i) (fun i => A 10 (i + 1)) 0 i 4 2 = A 4 2 - 1 := fun i => by rw [aLq_row _ _ _ _ _ _ (by decide), a_at]
  obtain ⟨σ1, q1, h2⟩ := loopX (X := XM) (F := fun n i σ => xr x_i107 d n 19 [(0, .ref 19), (1, .int (nI (A 10 0))), (2, .int (nI i))] [] σ) (S := fun i => aLq (a_up A 4 2 (A 4 2 - 1)) 10 (fun i => 0 + i) (fun i => A 10 (i + 1)) 0 i) 0 (A 4 2 - 1) (by
    intro n i σ hl hi h
    have hk := yv_key h (i := i + 1) (by omega)
    rw [aLq_v _ _ _ _ (by omega), if_neg (by omega), a_ne (by omega)] at hk
    have hv : A 10 (i + 1) < 256 := by
      have := h.2 10 (i + 1) (show i + 1 < 40 by omega)
      rw [aLq_v _ _ _ _ (by omega), if_neg (by omega), a_ne (by omega)] at this
      exact this
    refine ⟨x_up σ 23 i (nI (A 10 (i + 1))), ?_, ?_⟩
    · rw [c107_19, yv_cnt h, hcnt, if_neg (by exact n_ge hi (by omega)), show (1 : Int32) = nI 1 from rfl, nI_add, if_neg (n_ok (by omega) (by decide)), if_neg (n_ok (by omega) (by decide)), n_cl (by omega), n_cl (by omega), hk]
    · rw [aLq_n _ _ _ _ hl, Nat.zero_add]
      exact xm_up h 10 i (show i < 40 by omega) hv) (A 4 2 - 1) 0 (4999 - (A 4 2 - 1)) _ (by omega) (by omega) (by rw [aLq_s]; exact k1)
  refine ⟨σ1, ?_, h2⟩
  rw [m107, yv_key h (by omega), yv_cnt h, show (1 : Int32) = nI 1 from rfl, n_sub (by omega)]
  have e : 4999 - (A 4 2 - 1) + (A 4 2 - 1) = 4999 := by omega
  rw [e] at q1
  refine q1.trans ?_
  obtain ⟨n, hn⟩ : ∃ n, 4999 - (A 4 2 - 1) = n + 1 := ⟨4998 - (A 4 2 - 1), by omega⟩
  rw [hn]
  refine (c107_19 d n _ _ _).trans ?_
  rw [yv_cnt h2, hcnt, if_pos (by exact (nI_leI (by omega) (by omega)).mpr (Nat.le_refl _))]
theorem aTk_v (A : aS) (o k : Nat) : aTk A o k = if o = 10 ∧ k < A 4 2 - 1 then A 10 (k + 1) else if o = 4 ∧ k = 2 then A 4 2 - 1 else if o = 7 ∧ k = 0 then (A 7 0 + 1) % 40 else A o k := by
  unfold aTk
  rw [aLq_v _ _ _ _ (by omega)]
  by_cases e : o = 10 ∧ k < A 4 2 - 1
  · rw [if_pos e, if_pos ⟨e.1, by omega, by omega⟩, Nat.sub_zero]
  · rw [if_neg e, if_neg (fun z => e ⟨z.1, by omega⟩)]
    by_cases e4 : o = 4 ∧ k = 2
    · rw [if_pos e4, e4.1, e4.2, a_at]
    · rw [if_neg e4, a_ne e4]
      by_cases e7 : o = 7 ∧ k = 0
      · rw [if_pos e7, e7.1, e7.2, a_at]
      · rw [if_neg e7, a_ne e7]
theorem take_ok (d2 : Nat) (h : XC A σ) (k : XM A τ) (hk : KR A) (hc : 0 < A 4 2) : ∃ v σ' τ', v < 256 ∧ x_M (d + 1) 6 [.ref 8] σ = some (nI v, σ') ∧ x_M (d2 + 1) 107 [.ref 19] τ = some (nI v, τ') ∧ XC (aTk A) σ' ∧ XM (aTk A) τ' ∧ KR (aTk A) := by
  have h1 := x_cnt_lt h.2
  have h2 := x_fst_lt h.2
  obtain ⟨σ1, q1, s1⟩ := c_take d h hc
  obtain ⟨τ1, p1, t1⟩ := y_take d2 k hc
  have e0 := hk 0 hc
  rw [Nat.add_zero, Nat.mod_eq_of_lt h2] at e0
  rw [e0] at p1
  have w : WX (aTk A) := by
    intro o j hj
    rw [aTk_v]
    by_cases e : o = 10 ∧ j < A 4 2 - 1
    · rw [if_pos e, e.1]
      exact h.2 10 (j + 1) (show j + 1 < 40 by omega)
    · rw [if_neg e]
      by_cases e4 : o = 4 ∧ j = 2
      · rw [if_pos e4, e4.1, e4.2]
        show A 4 2 - 1 < 41
        omega
      · rw [if_neg e4]
        by_cases e7 : o = 7 ∧ j = 0
        · rw [if_pos e7, e7.1, e7.2]
          show (A 7 0 + 1) % 40 < 40
          omega
        · rw [if_neg e7]
          exact h.2 o j hj
  refine ⟨A 9 (A 7 0), σ1, τ1, h.2 9 _ h2, q1, p1, xc_congr s1 (fun o j hj => ?_) w, xm_congr t1 (fun o j hj => ?_) w, ?_⟩
  · have e10 : ¬ o = 10 := fun z => by subst z; exact absurd (show j < 0 from hj) (by omega)
    unfold aTk
    rw [aLq_row _ _ _ _ _ _ e10]
  · have e7 : ¬ o = 7 := fun z => by subst z; exact absurd (show j < 0 from hj) (by omega)
    rw [aTk_v, aLq_v _ _ _ _ (by omega)]
    by_cases e : o = 10 ∧ j < A 4 2 - 1
    · rw [if_pos e, if_pos ⟨e.1, by omega, by omega⟩, Nat.sub_zero]
    · rw [if_neg e, if_neg (fun z => e ⟨z.1, by omega⟩)]
      by_cases e4 : o = 4 ∧ j = 2
      · rw [if_pos e4, e4.1, e4.2, a_at]
      · rw [if_neg e4, a_ne e4, if_neg (fun z => e7 z.1)]
  · intro i hi
    have f4 : aTk A 4 2 = A 4 2 - 1 := by rw [aTk_v, if_neg (by omega), if_pos ⟨rfl, rfl⟩]
    have f7 : aTk A 7 0 = (A 7 0 + 1) % 40 := by rw [aTk_v, if_neg (by omega), if_neg (by omega), if_pos ⟨rfl, rfl⟩]
    rw [f4] at hi
    rw [f7, aTk_v, if_pos ⟨rfl, hi⟩, aTk_v, if_neg (by omega), if_neg (by omega), if_neg (by omega), hk (i + 1) (by omega)]
    congr 1
    omega
/-- the text at a, up to a dollar sign, at most n more characters -/
def aTx (a : Nat) : Nat → aS → aS
  | 0, A => A
  | n + 1, A => if A 0 ((a + (63 - n)) % 512) = 36 then A else aTx a n (aSh A (A 0 ((a + (63 - n)) % 512)))
theorem aSh_row (A : aS) (v : Nat) {o : Nat} (h4 : ¬ o = 4) (h8 : ¬ o = 8) : aSh A v o = A o := by
  unfold aSh
  rw [a_row h4, a_row h8]
theorem aSh_4 (A : aS) (v k : Nat) (hk : ¬ k = 0) : aSh A v 4 k = A 4 k := by
  unfold aSh
  rw [a_ne (by omega), a_ne (by omega)]
theorem aSh_t (A : aS) (v : Nat) : aSh A v 4 0 = A 4 0 + 1 := a_at _ _ _ _
/-- what showing leaves: only the ring and the number of shown characters change, that by at most n -/
def Sh (n : Nat) (A R : aS) : Prop := (∀ o, ¬ (o = 4 ∨ o = 8) → R o = A o) ∧ (∀ k, ¬ k = 0 → R 4 k = A 4 k) ∧ R 4 0 ≤ A 4 0 + n
theorem sh_refl (A : aS) (n : Nat) : Sh n A A := ⟨fun _ _ => rfl, fun _ _ => rfl, by omega⟩
theorem sh_one (A : aS) (v : Nat) : Sh 1 A (aSh A v) := ⟨fun o ho => aSh_row A v (by omega) (by omega), fun k hk => aSh_4 A v k hk, by rw [aSh_t]; omega⟩
theorem sh_trans {A B C : aS} {n m : Nat} (h : Sh n A B) (k : Sh m B C) : Sh (n + m) A C := ⟨fun o ho => by rw [k.1 o ho, h.1 o ho], fun j hj => by rw [k.2.1 j hj, h.2.1 j hj], by have := h.2.2; have := k.2.2; omega⟩
theorem sh_le {A B : aS} {n m : Nat} (h : Sh n A B) (e : n ≤ m) : Sh m A B := ⟨h.1, h.2.1, by have := h.2.2; omega⟩
theorem sh_tx (a : Nat) : ∀ n (A : aS), Sh n A (aTx a n A)
  | 0, A => sh_refl A 0
  | n + 1, A => by
    rw [aTx]
    split
    · exact sh_refl A _
    · exact sh_le (sh_trans (sh_one A _) (sh_tx a n _)) (by omega)
theorem c_tx {a : Nat} (ha : a < 65536) : ∀ m, m ≤ 64 → ∀ (A : aS) (σ : xS) (n : Nat), XC A σ → A 4 0 + m < 2147483648 → m < n → ∃ σ', xr x_i91 (d + 1) n 2 [(0, .ref 0), (1, .int (nI a)), (2, .int (nI (64 - m)))] [] σ = some (0, σ') ∧ XC (aTx a m A) σ' := by
  intro m
  induction m with
  | zero =>
    intro _ A σ n h _ hn
    obtain ⟨n, rfl⟩ : ∃ q, n = q + 1 := ⟨n - 1, by omega⟩
    rw [c91_2, if_pos (by decide)]
    exact ⟨σ, rfl, h⟩
  | succ m ih =>
    intro hm A σ n h ht hn
    obtain ⟨n, rfl⟩ : ∃ q, n = q + 1 := ⟨n - 1, by omega⟩
    have e1 : 64 - (m + 1) = 63 - m := by omega
    have e2 : 63 - m + 1 = 64 - m := by omega
    have hv := x_mem_lt h.2 (a + (63 - m))
    rw [e1, c91_2, if_neg (by exact n_ge (c := 64) (by omega) (by decide)), nI_add, c_mget d h (by omega), bnd0, aTx]
    dsimp only
    by_cases g : A 0 ((a + (63 - m)) % 512) = 36
    · rw [if_pos (by rw [g]; rfl), if_pos g]
      exact ⟨σ, rfl, h⟩
    · obtain ⟨σ1, q1, h1⟩ := c_show d h hv (by omega)
      rw [if_neg (by intro z; exact g ((nI_eq (b := 36) (by omega) (by omega)).mp z)), if_neg g, q1, bnd0]
      dsimp only
      rw [show (1 : Int32) = nI 1 from rfl, nI_add, e2]
      exact ih (by omega) _ σ1 n h1 (by rw [aSh_t]; omega) (by omega)
theorem y_tx {a : Nat} (ha : a < 65536) : ∀ m, m ≤ 64 → ∀ (A : aS) (σ : xS) (n : Nat), XM A σ → A 4 0 + m < 2147483648 → m < n → ∃ σ', xr x_i140 (d + 1) n 44 [(0, .ref 19), (2, .int (nI a)), (3, .int (nI (64 - m)))] [] σ = some (0, σ') ∧ XM (aTx a m A) σ' := by
  intro m
  induction m with
  | zero =>
    intro _ A σ n h _ hn
    obtain ⟨n, rfl⟩ : ∃ q, n = q + 1 := ⟨n - 1, by omega⟩
    rw [c140_44, if_pos (by decide)]
    exact ⟨σ, rfl, h⟩
  | succ m ih =>
    intro hm A σ n h ht hn
    obtain ⟨n, rfl⟩ : ∃ q, n = q + 1 := ⟨n - 1, by omega⟩
    have e1 : 64 - (m + 1) = 63 - m := by omega
    have e2 : 63 - m + 1 = 64 - m := by omega
    have hv := x_mem_lt h.2 (a + (63 - m))
    rw [e1, c140_44, if_neg (by exact n_ge (c := 64) (by omega) (by decide)), nI_add, y_mget d h (by omega), bnd0, aTx]
    dsimp only
    by_cases g : A 0 ((a + (63 - m)) % 512) = 36
    · rw [if_pos (by rw [g]; rfl), if_pos g]
      exact ⟨σ, rfl, h⟩
    · obtain ⟨σ1, q1, h1⟩ := y_show d h hv (by omega)
      rw [if_neg (by intro z; exact g ((nI_eq (b := 36) (by omega) (by omega)).mp z)), if_neg g, y_mget d h (by omega), bnd0]
      dsimp only
      rw [q1, bnd0]
      dsimp only
      rw [show (1 : Int32) = nI 1 from rfl, nI_add, e2]
      exact ih (by omega) _ σ1 n h1 (by rw [aSh_t]; omega) (by omega)
end K1
