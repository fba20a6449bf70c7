/-! Leaves of disk and screen, class and model; matching and finding an entry -/
section V
variable {A : aS} {σ : xS}
theorem xv_mem (h : XC A σ) {i : Nat} (hi : i < 512) : σ 2 i = nI (A 0 i) := h.1 0 i hi
theorem xv_dsk (h : XC A σ) {i : Nat} (hi : i < 512) : σ 6 i = nI (A 1 i) := h.1 1 i hi
theorem xv_n13 (h : XC A σ) {i : Nat} (hi : i < 4) : σ 13 i = nI (A 5 i) := h.1 5 i hi
theorem xv_n18 (h : XC A σ) {i : Nat} (hi : i < 4) : σ 18 i = nI (A 11 i) := h.1 11 i hi
theorem xv_lin (h : XC A σ) {i : Nat} (hi : i < 20) : σ 15 i = nI (A 6 i) := h.1 6 i hi
theorem xv_len (h : XC A σ) : σ 14 7 = nI (A 7 5) := h.1 7 5 (by decide)
theorem xv_buf (h : XC A σ) : σ 12 3 = nI (A 4 1) := h.1 4 1 (by decide)
theorem xv_mod (h : XC A σ) : σ 0 7 = nI (A 7 4) := h.1 7 4 (by decide)
theorem xv_tot (h : XC A σ) : σ 10 1 = nI (A 4 0) := h.1 4 0 (by decide)
theorem xv_cnt (h : XC A σ) : σ 8 2 = nI (A 4 2) := h.1 4 2 (by decide)
theorem xv_stp (h : XC A σ) : σ 0 8 = nI (A 7 3) := h.1 7 3 (by decide)
theorem xv_fst (h : XC A σ) : σ 8 1 = nI (A 7 0) := h.1 7 0 (by decide)
theorem xv_sfr (h : XC A σ) : σ 12 4 = nI (A 7 1) := h.1 7 1 (by decide)
theorem xv_wds (h : XC A σ) : σ 14 8 = nI (A 7 2) := h.1 7 2 (by decide)
theorem xv_key (h : XC A σ) {i : Nat} (hi : i < 40) : σ 9 i = nI (A 9 i) := h.1 9 i hi
theorem xv_rng (h : XC A σ) {i : Nat} (hi : i < 64) : σ 11 i = nI (A 8 i) := h.1 8 i hi
theorem xv_wst (h : XC A σ) {i : Nat} (hi : i < 3) : σ 16 i = nI (A 14 i) := h.1 14 i hi
theorem xv_wen (h : XC A σ) {i : Nat} (hi : i < 3) : σ 17 i = nI (A 15 i) := h.1 15 i hi
theorem yv_mem (h : XM A σ) {i : Nat} (hi : i < 512) : σ 20 i = nI (A 0 i) := h.1 0 i hi
theorem yv_dsk (h : XM A σ) {i : Nat} (hi : i < 512) : σ 21 i = nI (A 1 i) := h.1 1 i hi
theorem yv_nam (h : XM A σ) {i : Nat} (hi : i < 4) : σ 26 i = nI (A 12 i) := h.1 12 i hi
theorem yv_lin (h : XM A σ) {i : Nat} (hi : i < 20) : σ 24 i = nI (A 6 i) := h.1 6 i hi
theorem yv_len (h : XM A σ) : σ 19 15 = nI (A 16 4) := h.1 16 4 (by decide)
theorem yv_buf (h : XM A σ) : σ 19 6 = nI (A 4 1) := h.1 4 1 (by decide)
theorem yv_mod (h : XM A σ) : σ 19 12 = nI (A 16 3) := h.1 16 3 (by decide)
theorem yv_tot (h : XM A σ) : σ 19 17 = nI (A 4 0) := h.1 4 0 (by decide)
theorem yv_cnt (h : XM A σ) : σ 19 13 = nI (A 4 2) := h.1 4 2 (by decide)
theorem yv_stp (h : XM A σ) : σ 19 19 = nI (A 16 2) := h.1 16 2 (by decide)
theorem yv_thr (h : XM A σ) : σ 19 0 = nI (A 16 0) := h.1 16 0 (by decide)
theorem yv_lst (h : XM A σ) : σ 19 20 = nI (A 16 1) := h.1 16 1 (by decide)
theorem yv_key (h : XM A σ) {i : Nat} (hi : i < 40) : σ 23 i = nI (A 10 i) := h.1 10 i hi
theorem yv_rng (h : XM A σ) {i : Nat} (hi : i < 64) : σ 25 i = nI (A 8 i) := h.1 8 i hi
end V
theorem n_okc {a n : Nat} (h : a < n) (ha : a < 2147483648) : ¬ (nI a < 0 ∨ n ≤ a) := by
  rintro (z | z)
  · exact absurd ((nI_ltI (b := 0) ha (by decide)).mp z) (by omega)
  · omega
def bN (b : Bool) : Nat := if b = true then 1 else 0
theorem bN_lt (b : Bool) : bN b < 2 := by cases b <;> decide
theorem e_16 {e : Nat} (he : e < 8) : (nI e &&& (7 : Int32)) * (16 : Int32) = nI (16 * e) := by
  rw [n_and7 (by omega), show (16 : Int32) = nI 16 from rfl, pk_mul, Nat.mod_eq_of_lt he, Nat.mul_comm]
theorem b_16 {b i : Nat} (hb : b < 32) (hi : i < 16) : (nI b &&& (31 : Int32)) * (16 : Int32) + (nI i &&& (15 : Int32)) = nI (16 * b + i) := by
  rw [n_and31 (by omega), n_and15 (by omega), show (16 : Int32) = nI 16 from rfl, pk_mul, nI_add, Nat.mod_eq_of_lt hb, Nat.mod_eq_of_lt hi, Nat.mul_comm]
theorem y_16 (e : Nat) : (16 : Int32) * nI e = nI (16 * e) := by
  rw [show (16 : Int32) = nI 16 from rfl, pk_mul]
theorem y_16i (e i : Nat) : (16 : Int32) * nI e + nI i = nI (16 * e + i) := by rw [y_16, nI_add]
def aSh (A : aS) (v : Nat) : aS := a_up (a_up A 8 (A 4 0 % 64) v) 4 0 (A 4 0 + 1)
section D1
variable {A : aS} {σ : xS} (d : Nat)
theorem c_free (h : XC A σ) {e : Nat} (he : e < 8) : x_M (d + 1) 12 [.ref 5, .int (nI e)] σ = some (nI (bN (decide (A 1 (16 * e) = 229))), σ) := by
  have hb := h.2 1 (16 * e) (show 16 * e < 512 by omega)
  have hb : A 1 (16 * e) < 256 := hb
  rw [m12, e_16 he, if_neg (by exact n_ok (by omega) (by decide)), n_cl (by omega), xv_dsk h (by omega)]
  by_cases g : A 1 (16 * e) = 229
  · rw [g, if_pos (by rfl)]; rfl
  · rw [if_neg (by intro z; exact g ((nI_eq (b := 229) (by omega) (by omega)).mp z)), decide_eq_false g]; rfl
theorem y_free (h : XM A σ) {e : Nat} (he : e < 8) : x_M (d + 1) 112 [.ref 19, .int (nI e)] σ = some (nI (bN (decide (A 1 (16 * e) = 229))), σ) := by
  have hb := h.2 1 (16 * e) (show 16 * e < 512 by omega)
  have hb : A 1 (16 * e) < 256 := hb
  rw [m112, y_16, if_neg (by exact n_ok (by omega) (by decide)), n_cl (by omega), yv_dsk h (by omega)]
  by_cases g : A 1 (16 * e) = 229
  · rw [g, if_pos (by rfl)]; rfl
  · rw [if_neg (by intro z; exact g ((nI_eq (b := 229) (by omega) (by omega)).mp z)), decide_eq_false g]; rfl
theorem c_dget (h : XC A σ) {b i : Nat} (hb : b < 32) (hi : i < 16) : x_M (d + 1) 13 [.ref 5, .int (nI b), .int (nI i)] σ = some (nI (A 1 (16 * b + i)), σ) := by
  rw [m13, b_16 hb hi, if_neg (by exact n_ok (by omega) (by decide)), n_cl (by omega), xv_dsk h (by omega)]
theorem c_dput (h : XC A σ) {b i v : Nat} (hb : b < 32) (hi : i < 16) (hv : v < 256) : ∃ σ', x_M (d + 1) 24 [.ref 5, .int (nI b), .int (nI i), .int (nI v)] σ = some (0, σ') ∧ XC (a_up A 1 (16 * b + i) v) σ' := by
  rw [m24, b_16 hb hi, if_neg (by exact n_ok (by omega) (by decide)), n_cl (by omega)]
  exact ⟨_, rfl, xc_up h 1 (16 * b + i) (show 16 * b + i < 512 by omega) hv⟩
theorem c_mget (h : XC A σ) {a : Nat} (ha : a < 2147483648) : x_M (d + 1) 33 [.ref 1, .int (nI a)] σ = some (nI (A 0 (a % 512)), σ) := c_get d (xc_cp h).1 ha
theorem c_mput (h : XC A σ) {a v : Nat} (ha : a < 2147483648) (hv : v < 2147483648) : ∃ σ', x_M (d + 1) 37 [.ref 1, .int (nI a), .int (nI v)] σ = some (0, σ') ∧ XC (a_up A 0 (a % 512) (v % 256)) σ' := by
  rw [m37, if_neg (by exact ok511 _), ix511 (by omega), n_and255 (by omega)]
  exact ⟨_, rfl, xc_up h 0 (a % 512) (show a % 512 < 512 by omega) (show v % 256 < 256 by omega)⟩
theorem y_mget (h : XM A σ) {a : Nat} (ha : a < 2147483648) : x_M (d + 1) 122 [.ref 19, .int (nI a)] σ = some (nI (A 0 (a % 512)), σ) := m_get d (xm_cq h) ha
theorem y_mput (h : XM A σ) {a v : Nat} (ha : a < 2147483648) (hv : v < 2147483648) : ∃ σ', x_M (d + 1) 127 [.ref 19, .int (nI a), .int (nI v)] σ = some (0, σ') ∧ XM (a_up A 0 (a % 512) (v % 256)) σ' := by
  rw [m127, if_neg (by exact ok511 _), ix511 (by omega), n_and255 (by omega)]
  exact ⟨_, rfl, xm_up h 0 (a % 512) (show a % 512 < 512 by omega) (show v % 256 < 256 by omega)⟩
theorem c_show (h : XC A σ) {v : Nat} (hv : v < 256) (ht : A 4 0 + 1 < 2147483648) : ∃ σ', x_M (d + 1) 14 [.ref 10, .int (nI v)] σ = some (0, σ') ∧ XC (aSh A v) σ' := by
  rw [m14, xv_tot h, n_and63 (by omega), if_neg (by exact n_ok (by omega) (by decide)), n_cl (by omega), x_up_oth (by decide), xv_tot h, show (1 : Int32) = nI 1 from rfl, nI_add]
  exact ⟨_, rfl, xc_up (xc_up h 8 (A 4 0 % 64) (show A 4 0 % 64 < 64 by omega) hv) 4 0 (by decide) ht⟩
theorem y_show (h : XM A σ) {v : Nat} (hv : v < 256) (ht : A 4 0 + 1 < 2147483648) : ∃ σ', x_M (d + 1) 113 [.ref 19, .int (nI v)] σ = some (0, σ') ∧ XM (aSh A v) σ' := by
  rw [m113, yv_tot h, show (64 : Int32) = nI 64 from rfl, n_rem (by omega) (by decide) (by decide), if_neg (by exact n_ok (by omega) (by decide)), n_cl (by omega), x_up_oth (by decide), yv_tot h, show (1 : Int32) = nI 1 from rfl, nI_add]
  exact ⟨_, rfl, xm_up (xm_up h 8 (A 4 0 % 64) (show A 4 0 % 64 < 64 by omega) hv) 4 0 (by decide) ht⟩
theorem c_recs (h : XC A σ) {e : Nat} (he : e < 8) : x_M (d + 1) 20 [.ref 5, .int (nI e)] σ = some (nI (min (A 1 (16 * e + 5)) 10), σ) := by
  have hb : A 1 (16 * e + 5) < 256 := h.2 1 (16 * e + 5) (show 16 * e + 5 < 512 by omega)
  rw [m20, e_16 he, show (5 : Int32) = nI 5 from rfl, nI_add, if_neg (by exact n_ok (by omega) (by decide)), n_cl (by omega), xv_dsk h (by omega)]
  by_cases g : 10 ≤ A 1 (16 * e + 5)
  · rw [if_pos (by exact (nI_leI (a := 10) (by decide) (by omega)).mpr g), Nat.min_eq_right g]; rfl
  · rw [if_neg (by intro z; exact g ((nI_leI (a := 10) (by decide) (by omega)).mp z)), Nat.min_eq_left (by omega)]
theorem y_least {v : Nat} (hv : v < 2147483648) : x_M (d + 1) 120 [.int (nI v), .int (10 : Int32)] σ = some (nI (min v 10), σ) := by
  rw [m120]
  by_cases g : 10 ≤ v
  · rw [if_pos (by exact (nI_leI (a := 10) (by decide) (by omega)).mpr g), Nat.min_eq_right g]; rfl
  · rw [if_neg (by intro z; exact g ((nI_leI (a := 10) (by decide) (by omega)).mp z)), Nat.min_eq_left (by omega)]
/-- is a block number one of data? -/
def isD (b : Nat) : Bool := decide (8 ≤ b ∧ b < 32)
theorem c_isrec {v : Nat} (hv : v < 2147483648) : x_M (d + 1) 21 [.int (nI v)] σ = some (nI (bN (isD v)), σ) := by
  rw [m21]
  by_cases g : v < 8
  · rw [if_pos (by exact (nI_ltI (b := 8) (by omega) (by decide)).mpr g), isD, decide_eq_false (by omega)]; rfl
  · rw [if_neg (by intro z; exact g ((nI_ltI (b := 8) (by omega) (by decide)).mp z))]
    by_cases g2 : 32 ≤ v
    · rw [if_pos (by exact (nI_leI (a := 32) (by decide) (by omega)).mpr g2), isD, decide_eq_false (by omega)]; rfl
    · rw [if_neg (by intro z; exact g2 ((nI_leI (a := 32) (by decide) (by omega)).mp z)), isD, decide_eq_true (by omega)]; rfl
theorem y_isrec {v : Nat} (hv : v < 2147483648) : x_M (d + 1) 125 [.int (nI v)] σ = some (nI (bN (isD v)), σ) := by
  rw [m125]
  by_cases g : v < 8
  · rw [if_pos (by exact (nI_ltI (b := 8) (by omega) (by decide)).mpr g), isD, decide_eq_false (by omega)]; rfl
  · rw [if_neg (by intro z; exact g ((nI_ltI (b := 8) (by omega) (by decide)).mp z))]
    by_cases g2 : 31 < v
    · rw [if_pos (by exact (nI_ltI (a := 31) (by decide) (by omega)).mpr g2), isD, decide_eq_false (by omega)]; rfl
    · rw [if_neg (by intro z; exact g2 ((nI_ltI (a := 31) (by decide) (by omega)).mp z)), isD, decide_eq_true (by omega)]; rfl
end D1
/-- does the name N fit entry e (a = 1: a question mark fits any)? the last m characters -/
def okB (N : Nat → Nat) (A : aS) (e a k : Nat) : Bool := decide (A 1 (16 * e + 1 + k) = N k ∨ (a = 1 ∧ N k = 63))
def mtB (N : Nat → Nat) (A : aS) (e a : Nat) : Nat → Bool
  | 0 => true
  | m + 1 => okB N A e a (3 - m) && mtB N A e a m
def Mt (N : Nat → Nat) (A : aS) (e a : Nat) : Bool := !decide (A 1 (16 * e) = 229) && mtB N A e a 4
/-- the first entry that fits among the last n, or -1 -/
def aFd (N : Nat → Nat) (A : aS) (a : Nat) : Nat → Nat
  | 0 => 4294967295
  | n + 1 => if Mt N A (7 - n) a = true then 7 - n else aFd N A a n
section F13
variable {A : aS} {σ : xS} (d : Nat)
theorem c_mat13 (h : XC A σ) {e a : Nat} (he : e < 8) (ha : a < 2) : ∀ m, m ≤ 4 → ∀ n, m < n → xr x_i17 d n 27 [(0, .ref 5), (2, .ref 13), (3, .int (nI a)), (4, .int (nI (16 * e))), (5, .int (nI (4 - m)))] [] σ = some (nI (bN (mtB (A 5) A e a m)), σ) := by
  intro m
  induction m with
  | zero =>
    intro _ n hn
    obtain ⟨n, rfl⟩ : ∃ q, n = q + 1 := ⟨n - 1, by omega⟩
    rw [c17_13_27, if_pos (by decide)]
    rfl
  | succ m ih =>
    intro hm n hn
    obtain ⟨n, rfl⟩ : ∃ q, n = q + 1 := ⟨n - 1, by omega⟩
    have hN : A 5 (3 - m) < 256 := h.2 5 (3 - m) (show 3 - m < 4 by omega)
    have hD : A 1 (16 * e + 1 + (3 - m)) < 256 := h.2 1 (16 * e + 1 + (3 - m)) (show 16 * e + 1 + (3 - m) < 512 by omega)
    have ih := ih (by omega) n (by omega)
    have e1 : 4 - (m + 1) = 3 - m := by omega
    have e2 : 3 - m + 1 = 4 - m := by omega
    rw [e1, c17_13_27, if_neg (by intro z; have := (nI_leI (a := 4) (by decide) (by omega)).mp z; omega), if_neg (by exact n_ok (by omega) (by decide)), show (1 : Int32) = nI 1 from rfl, nI_add, nI_add, nI_add, e2, if_neg (by exact n_ok (by omega) (by decide)), n_cl (by omega), n_cl (by omega), xv_n13 h (by omega), xv_dsk h (by omega), ih]
    rw [mtB]
    unfold okB
    by_cases g : A 1 (16 * e + 1 + (3 - m)) = A 5 (3 - m)
    · rw [if_pos (by rw [g]), decide_eq_true (Or.inl g)]
      rfl
    · rw [if_neg (by intro z; exact g ((nI_eq (by omega) (by omega)).mp z).symm)]
      by_cases ga : a = 0
      · subst ga
        rw [if_pos (by rfl), decide_eq_false (by omega)]
        rfl
      · rw [if_neg (by exact nz (by omega) ga), if_neg (by exact n_okc (by omega) (by omega))]
        by_cases g6 : A 5 (3 - m) = 63
        · rw [g6, if_pos (by rfl), decide_eq_true (by omega)]
          rfl
        · rw [if_neg (by intro z; exact g6 ((nI_eq (b := 63) (by omega) (by omega)).mp z)), decide_eq_false (by omega)]
          rfl
theorem c_match13 (h : XC A σ) {e a : Nat} (he : e < 8) (ha : a < 2) : x_M (d + 1) 17 [.ref 5, .int (nI e), .ref 13, .int (nI a)] σ = some (nI (bN (Mt (A 5) A e a)), σ) := by
  have hb : A 1 (16 * e) < 256 := h.2 1 (16 * e) (show 16 * e < 512 by omega)
  have q := c_mat13 d h he ha 4 (by omega) 4999 (by omega)
  rw [m17_13, e_16 he, if_neg (by exact n_ok (by omega) (by decide)), n_cl (by omega), xv_dsk h (by omega)]
  unfold Mt
  by_cases g : A 1 (16 * e) = 229
  · rw [g, if_pos (by rfl)]; rfl
  · rw [if_neg (by intro z; exact g ((nI_eq (b := 229) (by omega) (by omega)).mp z)), decide_eq_false g]
    exact q
theorem c_fdx13 (h : XC A σ) : ∀ m, m ≤ 8 → ∀ n, m < n → xr x_i18 (d + 1) n 2 [(0, .ref 5), (1, .ref 13), (2, .int (nI (8 - m)))] [] σ = some (nI (aFd (A 5) A 0 m), σ) := by
  intro m
  induction m with
  | zero =>
    intro _ n hn
    obtain ⟨n, rfl⟩ : ∃ q, n = q + 1 := ⟨n - 1, by omega⟩
    rw [c18_13_2, if_pos (by decide)]
    rfl
  | succ m ih =>
    intro hm n hn
    obtain ⟨n, rfl⟩ : ∃ q, n = q + 1 := ⟨n - 1, by omega⟩
    have ih := ih (by omega) n (by omega)
    have e1 : 8 - (m + 1) = 7 - m := by omega
    have e2 : 7 - m + 1 = 8 - m := by omega
    rw [e1, c18_13_2, if_neg (by intro z; have := (nI_leI (a := 8) (by decide) (by omega)).mp z; omega), show (0 : Int32) = nI 0 from rfl, c_match13 d h (by omega) (by omega), bnd0]
    dsimp only
    rw [show (1 : Int32) = nI 1 from rfl, nI_add, e2, ih, aFd]
    cases g : Mt (A 5) A (7 - m) 0
    · rw [if_pos (by rfl), if_neg (by decide)]
    · rw [if_neg (by decide), if_pos (by rfl)]
theorem c_find13 (h : XC A σ) : x_M (d + 2) 18 [.ref 5, .ref 13] σ = some (nI (aFd (A 5) A 0 8), σ) := by
  rw [m18_13]
  exact c_fdx13 d h 8 (by omega) 4999 (by omega)
end F13
section F18
variable {A : aS} {σ : xS} (d : Nat)
theorem c_mat18 (h : XC A σ) {e a : Nat} (he : e < 8) (ha : a < 2) : ∀ m, m ≤ 4 → ∀ n, m < n → xr x_i17 d n 27 [(0, .ref 5), (2, .ref 18), (3, .int (nI a)), (4, .int (nI (16 * e))), (5, .int (nI (4 - m)))] [] σ = some (nI (bN (mtB (A 11) A e a m)), σ) := by
  intro m
  induction m with
  | zero =>
    intro _ n hn
    obtain ⟨n, rfl⟩ : ∃ q, n = q + 1 := ⟨n - 1, by omega⟩
    rw [c17_18_27, if_pos (by decide)]
    rfl
  | succ m ih =>
    intro hm n hn
    obtain ⟨n, rfl⟩ : ∃ q, n = q + 1 := ⟨n - 1, by omega⟩
    have hN : A 11 (3 - m) < 256 := h.2 11 (3 - m) (show 3 - m < 4 by omega)
    have hD : A 1 (16 * e + 1 + (3 - m)) < 256 := h.2 1 (16 * e + 1 + (3 - m)) (show 16 * e + 1 + (3 - m) < 512 by omega)
    have ih := ih (by omega) n (by omega)
    have e1 : 4 - (m + 1) = 3 - m := by omega
    have e2 : 3 - m + 1 = 4 - m := by omega
    rw [e1, c17_18_27, if_neg (by intro z; have := (nI_leI (a := 4) (by decide) (by omega)).mp z; omega), if_neg (by exact n_ok (by omega) (by decide)), show (1 : Int32) = nI 1 from rfl, nI_add, nI_add, nI_add, e2, if_neg (by exact n_ok (by omega) (by decide)), n_cl (by omega), n_cl (by omega), xv_n18 h (by omega), xv_dsk h (by omega), ih]
    rw [mtB]
    unfold okB
    by_cases g : A 1 (16 * e + 1 + (3 - m)) = A 11 (3 - m)
    · rw [if_pos (by rw [g]), decide_eq_true (Or.inl g)]
      rfl
    · rw [if_neg (by intro z; exact g ((nI_eq (by omega) (by omega)).mp z).symm)]
      by_cases ga : a = 0
      · subst ga
        rw [if_pos (by rfl), decide_eq_false (by omega)]
        rfl
      · rw [if_neg (by exact nz (by omega) ga), if_neg (by exact n_okc (by omega) (by omega))]
        by_cases g6 : A 11 (3 - m) = 63
        · rw [g6, if_pos (by rfl), decide_eq_true (by omega)]
          rfl
        · rw [if_neg (by intro z; exact g6 ((nI_eq (b := 63) (by omega) (by omega)).mp z)), decide_eq_false (by omega)]
          rfl
theorem c_match18 (h : XC A σ) {e a : Nat} (he : e < 8) (ha : a < 2) : x_M (d + 1) 17 [.ref 5, .int (nI e), .ref 18, .int (nI a)] σ = some (nI (bN (Mt (A 11) A e a)), σ) := by
  have hb : A 1 (16 * e) < 256 := h.2 1 (16 * e) (show 16 * e < 512 by omega)
  have q := c_mat18 d h he ha 4 (by omega) 4999 (by omega)
  rw [m17_18, e_16 he, if_neg (by exact n_ok (by omega) (by decide)), n_cl (by omega), xv_dsk h (by omega)]
  unfold Mt
  by_cases g : A 1 (16 * e) = 229
  · rw [g, if_pos (by rfl)]; rfl
  · rw [if_neg (by intro z; exact g ((nI_eq (b := 229) (by omega) (by omega)).mp z)), decide_eq_false g]
    exact q
theorem c_fdx18 (h : XC A σ) : ∀ m, m ≤ 8 → ∀ n, m < n → xr x_i18 (d + 1) n 2 [(0, .ref 5), (1, .ref 18), (2, .int (nI (8 - m)))] [] σ = some (nI (aFd (A 11) A 0 m), σ) := by
  intro m
  induction m with
  | zero =>
    intro _ n hn
    obtain ⟨n, rfl⟩ : ∃ q, n = q + 1 := ⟨n - 1, by omega⟩
    rw [c18_18_2, if_pos (by decide)]
    rfl
  | succ m ih =>
    intro hm n hn
    obtain ⟨n, rfl⟩ : ∃ q, n = q + 1 := ⟨n - 1, by omega⟩
    have ih := ih (by omega) n (by omega)
    have e1 : 8 - (m + 1) = 7 - m := by omega
    have e2 : 7 - m + 1 = 8 - m := by omega
    rw [e1, c18_18_2, if_neg (by intro z; have := (nI_leI (a := 8) (by decide) (by omega)).mp z; omega), show (0 : Int32) = nI 0 from rfl, c_match18 d h (by omega) (by omega), bnd0]
    dsimp only
    rw [show (1 : Int32) = nI 1 from rfl, nI_add, e2, ih, aFd]
    cases g : Mt (A 11) A (7 - m) 0
    · rw [if_pos (by rfl), if_neg (by decide)]
    · rw [if_neg (by decide), if_pos (by rfl)]
theorem c_find18 (h : XC A σ) : x_M (d + 2) 18 [.ref 5, .ref 18] σ = some (nI (aFd (A 11) A 0 8), σ) := by
  rw [m18_18]
  exact c_fdx18 d h 8 (by omega) 4999 (by omega)
end F18
section F
variable {A : aS} {σ : xS} (d : Nat)
theorem c_fdf (h : XC A σ) : ∀ m, m ≤ 8 → ∀ n, m < n → xr x_i80 (d + 1) n 2 [(0, .ref 5), (1, .ref 13), (3, .int (nI (8 - m)))] [] σ = some (nI (aFd (A 5) A 1 m), σ) := by
  intro m
  induction m with
  | zero =>
    intro _ n hn
    obtain ⟨n, rfl⟩ : ∃ q, n = q + 1 := ⟨n - 1, by omega⟩
    rw [c80_2, if_pos (by decide)]
    rfl
  | succ m ih =>
    intro hm n hn
    obtain ⟨n, rfl⟩ : ∃ q, n = q + 1 := ⟨n - 1, by omega⟩
    have ih := ih (by omega) n (by omega)
    have e1 : 8 - (m + 1) = 7 - m := by omega
    have e2 : 7 - m + 1 = 8 - m := by omega
    rw [e1, c80_2, if_neg (by intro z; have := (nI_leI (a := 8) (by decide) (by omega)).mp z; omega), show (1 : Int32) = nI 1 from rfl, c_match13 d h (by omega) (by omega), bnd0]
    dsimp only
    rw [nI_add, e2, ih, aFd]
    cases g : Mt (A 5) A (7 - m) 1
    · rw [if_pos (by rfl), if_neg (by decide)]
    · rw [if_neg (by decide), if_pos (by rfl)]
theorem c_findF (h : XC A σ) {f : Nat} (hf : f ≤ 8) : x_M (d + 2) 80 [.ref 5, .ref 13, .int (nI f)] σ = some (nI (aFd (A 5) A 1 (8 - f)), σ) := by
  have q := c_fdf d h (8 - f) (by omega) 4999 (by omega)
  rw [show 8 - (8 - f) = f from by omega] at q
  rw [m80]
  exact q
theorem y_mat (h : XM A σ) {e a : Nat} (he : e < 8) (ha : a < 2) (n : Nat) : ∀ m, m ≤ 4 → ∀ g : Bool, xr x_i116 d (n + m + 1) 26 [(0, .ref 19), (2, .int (nI a)), (3, .int (nI e)), (4, .int (nI (bN g))), (5, .int (nI (4 - m)))] [] σ = if (g && mtB (A 12) A e a m) = true then some (nI e, σ) else xr x_i116 d n 2 [(0, .ref 19), (2, .int (nI a)), (3, .int (nI (e + 1)))] [] σ := by
  intro m
  induction m with
  | zero =>
    intro _ g
    rw [c116_26, if_pos (by decide), show (1 : Int32) = nI 1 from rfl, nI_add]
    cases g
    · rw [if_pos (by rfl)]; rfl
    · rw [if_neg (by decide)]; rfl
  | succ m ih =>
    intro hm g
    have hN : A 12 (3 - m) < 256 := h.2 12 (3 - m) (show 3 - m < 4 by omega)
    have hD : A 1 (16 * e + 1 + (3 - m)) < 256 := h.2 1 (16 * e + 1 + (3 - m)) (show 16 * e + 1 + (3 - m) < 512 by omega)
    have ih := ih (by omega)
    have i0 := ih false
    have i1 := ih true
    have e1 : 4 - (m + 1) = 3 - m := by omega
    have e2 : 3 - m + 1 = 4 - m := by omega
    rw [show n + (m + 1) + 1 = (n + m + 1) + 1 from by omega, e1, c116_26, if_neg (by intro z; have := (nI_leI (a := 4) (by decide) (by omega)).mp z; omega)]
    cases g
    · rw [if_pos (by rfl), show (1 : Int32) = nI 1 from rfl, nI_add, e2]
      exact i0
    · rw [if_neg (by decide), show (1 : Int32) = nI 1 from rfl, y_16, nI_add, nI_add, nI_add, e2, if_neg (by exact n_ok (by omega) (by decide)), if_neg (by exact n_ok (by omega) (by decide)), n_cl (by omega), n_cl (by omega), yv_nam h (by omega), yv_dsk h (by omega)]
      rw [mtB]
      unfold okB
      by_cases g : A 1 (16 * e + 1 + (3 - m)) = A 12 (3 - m)
      · rw [if_pos (by rw [g]), decide_eq_true (Or.inl g)]
        exact i1
      · rw [if_neg (by intro z; exact g ((nI_eq (by omega) (by omega)).mp z))]
        by_cases ga : a = 0
        · subst ga
          rw [if_pos (by rfl), decide_eq_false (by omega)]
          exact i0
        · rw [if_neg (by exact nz (by omega) ga), if_neg (by exact n_okc (by omega) (by omega))]
          by_cases g6 : A 12 (3 - m) = 63
          · rw [if_pos (by rw [g6]; rfl), decide_eq_true (by omega)]
            exact i1
          · rw [if_neg (by intro z; exact g6 ((nI_eq (b := 63) (by omega) (by omega)).mp z)), decide_eq_false (by omega)]
            exact i0
theorem y_fdx (h : XM A σ) {a : Nat} (ha : a < 2) : ∀ m, m ≤ 8 → ∀ n, 6 * m < n → xr x_i116 (d + 1) n 2 [(0, .ref 19), (2, .int (nI a)), (3, .int (nI (8 - m)))] [] σ = some (nI (aFd (A 12) A a m), σ) := by
  intro m
  induction m with
  | zero =>
    intro _ n hn
    obtain ⟨n, rfl⟩ : ∃ q, n = q + 1 := ⟨n - 1, by omega⟩
    rw [c116_2, if_pos (by decide)]
    rfl
  | succ m ih =>
    intro hm n hn
    obtain ⟨n, rfl⟩ : ∃ q, n = q + 4 + 1 + 1 := ⟨n - 6, by omega⟩
    have ih := ih (by omega) n (by omega)
    have e1 : 8 - (m + 1) = 7 - m := by omega
    have e2 : 7 - m + 1 = 8 - m := by omega
    have q := y_mat (d + 1) h (e := 7 - m) (by omega) ha n 4 (by omega)
    rw [e2] at q
    rw [e1, c116_2, if_neg (by intro z; have := (nI_leI (a := 8) (by decide) (by omega)).mp z; omega), y_free d h (by omega), bnd0]
    dsimp only
    rw [aFd]
    unfold Mt
    cases g : decide (A 1 (16 * (7 - m)) = 229)
    · rw [if_pos (by rfl)]
      have q := q true
      rw [ih] at q
      refine q.trans ?_
      cases mtB (A 12) A (7 - m) a 4
      · rw [if_neg (by decide), if_neg (by decide)]
      · rw [if_pos (by rfl), if_pos (by rfl)]
    · rw [if_neg (by decide)]
      have q := q false
      rw [ih] at q
      refine q.trans ?_
      rw [if_neg (by simp), if_neg (by simp)]
theorem y_find (h : XM A σ) {f a : Nat} (hf : f ≤ 8) (ha : a < 2) : x_M (d + 2) 116 [.ref 19, .int (nI f), .int (nI a)] σ = some (nI (aFd (A 12) A a (8 - f)), σ) := by
  have q := y_fdx d h ha (8 - f) (by omega) 4999 (by omega)
  rw [show 8 - (8 - f) = f from by omega] at q
  rw [m116]
  exact q
theorem y_find9 (h : XM A σ) {a : Nat} : x_M (d + 2) 116 [.ref 19, .int (nI 9), .int (nI a)] σ = some (nI 4294967295, σ) := by
  rw [m116]
  refine (c116_2 (d + 1) 4998 _ _ _).trans ?_
  rw [if_pos (by decide)]
  rfl
end F
