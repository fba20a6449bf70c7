/-! The words of the line, class beside model -/
/-- on over spaces (or over what is no space), at most m places -/
def skp (l : Nat → Nat) (L : Nat) (b : Bool) : Nat → Nat → Nat
  | 0, i => i
  | m + 1, i => if i < L ∧ decide (l i = 32) = b then skp l L b m (i + 1) else i
theorem skp_le (l : Nat → Nat) (L : Nat) (b : Bool) : ∀ m i, i ≤ skp l L b m i ∧ (i ≤ L → skp l L b m i ≤ L)
  | 0, i => ⟨Nat.le_refl _, fun h => h⟩
  | m + 1, i => by
    rw [skp]
    split
    · rename_i g
      have := skp_le l L b m (i + 1)
      exact ⟨by omega, fun h => this.2 (by omega)⟩
    · exact ⟨Nat.le_refl _, fun h => h⟩
section W2
variable {A : aS} {σ : xS} (d : Nat)
theorem x_lenC {A : aS} (w : WX A) : A 7 5 < 21 := w 7 5 (by decide)
theorem x_lenM {A : aS} (w : WX A) : A 16 4 < 21 := w 16 4 (by decide)
theorem x_lin_lt {A : aS} (w : WX A) {i : Nat} (hi : i < 20) : A 6 i < 256 := w 6 i hi
theorem c_skx (h : XC A σ) (b : Bool) : ∀ m i n, A 7 5 ≤ i + m → i ≤ 20 → m < n → xr x_i8 d n 2 [(0, .ref 14), (2, .int (nI (bN b))), (3, .int (nI i))] [] σ = some (nI (skp (A 6) (A 7 5) b m i), σ) := by
  have hL := x_lenC h.2
  intro m
  induction m with
  | zero =>
    intro i n hi h20 hn
    obtain ⟨n, rfl⟩ : ∃ q, n = q + 1 := ⟨n - 1, by omega⟩
    rw [c8_2, xv_len h, if_pos (by exact (nI_leI (by omega) (by omega)).mpr (by omega))]
    rfl
  | succ m ih =>
    intro i n hi h20 hn
    obtain ⟨n, rfl⟩ : ∃ q, n = q + 1 := ⟨n - 1, by omega⟩
    rw [c8_2, xv_len h, skp]
    by_cases g : i < A 7 5
    · have hv := x_lin_lt h.2 (i := i) (by omega)
      have hs := xv_lin h (i := i) (by omega)
      have ih := ih (i + 1) n (by omega) (by omega) (by omega)
      rw [if_neg (by exact n_ge g (by omega)), if_neg (n_ok (by omega) (by decide)), n_cl (by omega)]
      by_cases g3 : A 6 i = 32
      · rw [if_pos (by rw [hs, g3]; rfl)]
        cases b
        · rw [if_neg (by decide), if_neg (fun z => by rw [decide_eq_true g3] at z; cases z.2)]
        · rw [if_pos (by decide), if_pos ⟨g, decide_eq_true g3⟩, show (1 : Int32) = nI 1 from rfl, nI_add]
          exact ih
      · rw [if_neg (by rw [hs]; intro z; exact g3 ((nI_eq (b := 32) (by omega) (by omega)).mp z))]
        cases b
        · rw [if_pos (by decide), if_pos ⟨g, decide_eq_false g3⟩, show (1 : Int32) = nI 1 from rfl, nI_add]
          exact ih
        · rw [if_neg (by decide), if_neg (fun z => by rw [decide_eq_false g3] at z; cases z.2)]
    · rw [if_pos (by exact (nI_leI (by omega) (by omega)).mpr (by omega)), if_neg (fun z => g z.1)]
theorem c_skip (h : XC A σ) (b : Bool) {i : Nat} (hi : i ≤ 20) : x_M (d + 1) 8 [.ref 14, .int (nI i), .int (nI (bN b))] σ = some (nI (skp (A 6) (A 7 5) b 20 i), σ) := by
  have hL := x_lenC h.2
  rw [m8]
  exact c_skx d h b 20 i 4999 (by omega) hi (by omega)
theorem y_sk9 (h : XM A σ) {w k : Nat} (hk : 0 < k) (hk2 : k < 10) : ∀ m i n, A 16 4 ≤ i + m → i ≤ 20 → m < n → ∃ n', n ≤ n' + m + 1 ∧ xr x_i108 d n 9 [(0, .ref 19), (1, .int (nI w)), (2, .int (nI i)), (3, .int (nI k))] [] σ = xr x_i108 d n' 38 [(0, .ref 19), (1, .int (nI w)), (2, .int (nI (skp (A 6) (A 16 4) false m i))), (3, .int (nI k))] [] σ := by
  have hL := x_lenM h.2
  have nk : ¬ nI k ≤ (0 : Int32) := fun z => by
    have := (nI_leI (b := 0) (by omega) (by omega)).mp z
    omega
  intro m
  induction m with
  | zero =>
    intro i n hi h20 hn
    obtain ⟨n, rfl⟩ : ∃ q, n = q + 1 := ⟨n - 1, by omega⟩
    refine ⟨n, by omega, ?_⟩
    rw [c108_9, if_neg nk, yv_len h, if_pos (by exact (nI_leI (by omega) (by omega)).mpr (by omega))]
    rfl
  | succ m ih =>
    intro i n hi h20 hn
    obtain ⟨n, rfl⟩ : ∃ q, n = q + 1 := ⟨n - 1, by omega⟩
    rw [c108_9, if_neg nk, yv_len h, skp]
    by_cases g : i < A 16 4
    · have hv := x_lin_lt h.2 (i := i) (by omega)
      have hs := yv_lin h (i := i) (by omega)
      rw [if_neg (by exact n_ge g (by omega)), if_neg (n_ok (by omega) (by decide)), n_cl (by omega)]
      by_cases g3 : A 6 i = 32
      · refine ⟨n, by omega, ?_⟩
        rw [if_pos (by rw [hs, g3]; rfl), if_neg (fun z => by rw [decide_eq_true g3] at z; cases z.2)]
      · obtain ⟨n', hn', e⟩ := ih (i + 1) n (by omega) (by omega) (by omega)
        refine ⟨n', by omega, ?_⟩
        rw [if_neg (by rw [hs]; intro z; exact g3 ((nI_eq (b := 32) (by omega) (by omega)).mp z)), if_pos ⟨g, decide_eq_false g3⟩, show (1 : Int32) = nI 1 from rfl, nI_add]
        exact e
    · refine ⟨n, by omega, ?_⟩
      rw [if_pos (by exact (nI_leI (by omega) (by omega)).mpr (by omega)), if_neg (fun z => g z.1)]
theorem y_sk38 (h : XM A σ) {w k : Nat} : ∀ m i n, A 16 4 ≤ i + m → i ≤ 20 → m < n → ∃ n', n ≤ n' + m + 1 ∧ xr x_i108 d n 38 [(0, .ref 19), (1, .int (nI w)), (2, .int (nI i)), (3, .int (nI k))] [] σ = xr x_i108 d n' 4 [(0, .ref 19), (1, .int (nI w)), (2, .int (nI (skp (A 6) (A 16 4) true m i))), (3, .int (nI (k + 1)))] [] σ := by
  have hL := x_lenM h.2
  intro m
  induction m with
  | zero =>
    intro i n hi h20 hn
    obtain ⟨n, rfl⟩ : ∃ q, n = q + 1 := ⟨n - 1, by omega⟩
    refine ⟨n, by omega, ?_⟩
    rw [c108_38, yv_len h, if_pos (by exact (nI_leI (by omega) (by omega)).mpr (by omega)), show (1 : Int32) = nI 1 from rfl, nI_add]
    rfl
  | succ m ih =>
    intro i n hi h20 hn
    obtain ⟨n, rfl⟩ : ∃ q, n = q + 1 := ⟨n - 1, by omega⟩
    rw [c108_38, yv_len h, skp, show (1 : Int32) = nI 1 from rfl, nI_add, nI_add]
    by_cases g : i < A 16 4
    · have hv := x_lin_lt h.2 (i := i) (by omega)
      have hs := yv_lin h (i := i) (by omega)
      rw [if_neg (by exact n_ge g (by omega)), if_neg (n_ok (by omega) (by decide)), n_cl (by omega)]
      by_cases g3 : A 6 i = 32
      · obtain ⟨n', hn', e⟩ := ih (i + 1) n (by omega) (by omega) (by omega)
        refine ⟨n', by omega, ?_⟩
        rw [if_pos (by rw [hs, g3]; rfl), if_pos ⟨g, decide_eq_true g3⟩]
        exact e
      · refine ⟨n, by omega, ?_⟩
        rw [if_neg (by rw [hs]; intro z; exact g3 ((nI_eq (b := 32) (by omega) (by omega)).mp z)), if_neg (fun z => by rw [decide_eq_false g3] at z; cases z.2)]
    · refine ⟨n, by omega, ?_⟩
      rw [if_pos (by exact (nI_leI (by omega) (by omega)).mpr (by omega)), if_neg (fun z => g z.1)]
/-- where word w begins and where it ends -/
def wS (l : Nat → Nat) (L : Nat) : Nat → Nat
  | 0 => skp l L true 20 0
  | w + 1 => skp l L true 20 (skp l L false 20 (wS l L w))
def wE (l : Nat → Nat) (L w : Nat) : Nat := skp l L false 20 (wS l L w)
theorem wS_le (l : Nat → Nat) (L : Nat) : ∀ w, wS l L w ≤ L
  | 0 => (skp_le l L true 20 0).2 (by omega)
  | w + 1 => (skp_le l L true 20 _).2 ((skp_le l L false 20 _).2 (wS_le l L w))
theorem y_bgx (h : XM A σ) {w : Nat} (hw : w < 8) : ∀ m, m ≤ w → ∀ n, 44 * m + 3 < n → xr x_i108 d n 4 [(0, .ref 19), (1, .int (nI w)), (2, .int (nI (wS (A 6) (A 16 4) (w - m)))), (3, .int (nI (w - m + 1)))] [] σ = some (nI (wS (A 6) (A 16 4) w), σ) := by
  have hL := x_lenM h.2
  intro m
  induction m with
  | zero =>
    intro _ n hn
    obtain ⟨n, rfl⟩ : ∃ q, n = q + 1 := ⟨n - 1, by omega⟩
    rw [c108_4, Nat.sub_zero, if_pos (by exact (nI_ltI (by omega) (by omega)).mpr (by omega))]
  | succ m ih =>
    intro hm n hn
    obtain ⟨n, rfl⟩ : ∃ q, n = q + 1 := ⟨n - 1, by omega⟩
    have hs := wS_le (A 6) (A 16 4) (w - (m + 1))
    have he := (skp_le (A 6) (A 16 4) false 20 _).2 hs
    obtain ⟨n1, hn1, e1⟩ := y_sk9 d h (w := w) (k := w - (m + 1) + 1) (by omega) (by omega) 20 (wS (A 6) (A 16 4) (w - (m + 1))) n (by omega) (by omega) (by omega)
    obtain ⟨n2, hn2, e2⟩ := y_sk38 d h (w := w) (k := w - (m + 1) + 1) 20 (skp (A 6) (A 16 4) false 20 (wS (A 6) (A 16 4) (w - (m + 1)))) n1 (by omega) (by omega) (by omega)
    rw [c108_4, if_neg (by intro z; have := (nI_ltI (by omega) (by omega)).mp z; omega), e1, e2]
    have ih := ih (by omega) n2 (by omega)
    rw [show w - m = w - (m + 1) + 1 from by omega, wS] at ih
    exact ih
theorem y_begins (h : XM A σ) {w : Nat} (hw : w < 8) : x_M (d + 1) 108 [.ref 19, .int (nI w)] σ = some (nI (wS (A 6) (A 16 4) w), σ) := by
  have hL := x_lenM h.2
  obtain ⟨n2, hn2, e2⟩ := y_sk38 d h (w := w) (k := 0) 20 0 4997 (by omega) (by omega) (by omega)
  rw [m108]
  refine (c108_4 d 4998 _ _ _ _).trans ?_
  rw [if_neg (by intro z; have := (nI_ltI (b := 0) (by omega) (by omega)).mp z; omega)]
  refine (c108_9 d 4997 _ _ _ _).trans ?_
  rw [if_pos (by decide)]
  refine e2.trans ?_
  have q := y_bgx d h hw w (Nat.le_refl _) n2 (by omega)
  rw [Nat.sub_self, wS] at q
  exact q
theorem y_there (h : XM A σ) {w : Nat} (hw : w < 8) : x_M (d + 2) 109 [.ref 19, .int (nI w)] σ = some (nI (bN (decide (wS (A 6) (A 16 4) w < A 16 4))), σ) := by
  have hL := x_lenM h.2
  have hs := wS_le (A 6) (A 16 4) w
  rw [m109, y_begins d h hw, bnd0]
  dsimp only
  by_cases g : wS (A 6) (A 16 4) w < A 16 4
  · rw [if_neg (by rw [yv_len h]; exact n_ge g (by omega)), decide_eq_true g]
    rfl
  · rw [if_pos (by rw [yv_len h]; exact (nI_leI (by omega) (by omega)).mpr (by omega)), decide_eq_false g]
    rfl
end W2
