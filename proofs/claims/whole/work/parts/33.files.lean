/-! The calls of files: name, search, read, write -/
/-- the name of a file call: the class's and the model's -/
def aNF (A : aS) (N : Nat → Nat) : aS := fun o => if o = 5 ∨ o = 12 then N else A o
theorem aNF_r (A : aS) (N : Nat → Nat) {o : Nat} (h : ¬ (o = 5 ∨ o = 12)) : aNF A N o = A o := if_neg h
theorem aNF_5 (A : aS) (N : Nat → Nat) : aNF A N 5 = N := if_pos (Or.inl rfl)
theorem aNF_12 (A : aS) (N : Nat → Nat) : aNF A N 12 = N := if_pos (Or.inr rfl)
theorem wx_nf {A : aS} (w : WX A) {N : Nat → Nat} (hN : ∀ k, k < 4 → N k < 256) : WX (aNF A N) := by
  intro o k hk
  by_cases e : o = 5 ∨ o = 12
  · rcases e with rfl | rfl
    · rw [aNF_5]; exact hN k hk
    · rw [aNF_12]; exact hN k hk
  · rw [aNF_r A N e]; exact w o k hk
def aNa (A : aS) (a : Nat) : Nat → Nat := fun k => A 0 ((a + k) % 512)
section N1
variable {A : aS} {σ : xS} (d : Nat)
theorem c_tname (h : XC A σ) {a : Nat} (ha : a < 70000) : ∃ σ', x_M (d + 2) 79 [.ref 12, .int (nI a)] σ = some (0, σ') ∧ XC (aNF A (aNa A a)) σ' := by
  obtain ⟨σ1, q1, h1⟩ := loopX (X := XC) (F := fun n i σ => xr x_i79 (d + 1) n 2 [(0, .ref 12), (1, .int (nI a)), (2, .int (nI i))] [] σ) (S := fun i => aLq A 5 (fun i => 0 + i) (aNa A a) 0 i) 0 4 (by
    intro n i σ hl hi h
    have r : aLq A 5 (fun i => 0 + i) (aNa A a) 0 i 0 = A 0 := aLq_row _ _ _ _ _ _ (by decide)
    have hv : A 0 ((a + i) % 512) < 256 := by rw [← r]; exact x_mem_lt h.2 _
    have q := c_mget d h (a := a + i) (by omega)
    rw [r] at q
    refine ⟨x_up σ 13 i (nI (A 0 ((a + i) % 512))), ?_, ?_⟩
    · rw [c79_2, if_neg (by exact n_ge hi (by decide)), nI_add, q, bnd0]
      dsimp only
      rw [if_neg (n_ok hi (by decide)), n_cl (by omega), show (1 : Int32) = nI 1 from rfl, nI_add]
    · rw [aLq_n _ _ _ _ hl, Nat.zero_add]
      exact xc_up h 5 i hi hv) 4 0 4995 σ (by omega) (by omega) (by rw [aLq_s]; exact h)
  refine ⟨σ1, ?_, xc_congr h1 (fun o k hk => ?_) (wx_nf h.2 (fun k _ => x_mem_lt h.2 _))⟩
  · rw [m79]
    refine q1.trans ((c79_2 (d + 1) 4994 _ _ _).trans ?_)
    rw [if_pos (by decide)]
  · rw [aLq_v _ _ _ _ (by omega)]
    by_cases e : o = 5
    · subst e
      have hk : k < 4 := hk
      rw [if_pos ⟨rfl, by omega, by omega⟩, aNF_5, Nat.sub_zero]
    · by_cases e2 : o = 12
      · subst e2; exact absurd (show k < 0 from hk) (by omega)
      · rw [if_neg (fun z => e z.1), aNF_r A _ (by omega)]
theorem y_nameAt (h : XM A σ) {a : Nat} (ha : a < 70000) : ∃ σ', x_M (d + 2) 135 [.ref 19, .int (nI a)] σ = some (0, σ') ∧ XM (aNF A (aNa A a)) σ' := by
  obtain ⟨σ1, q1, h1⟩ := loopX (X := XM) (F := fun n i σ => xr x_i135 (d + 1) n 2 [(0, .ref 19), (1, .int (nI a)), (2, .int (nI i))] [] σ) (S := fun i => aLq A 12 (fun i => 0 + i) (aNa A a) 0 i) 0 4 (by
    intro n i σ hl hi h
    have r : aLq A 12 (fun i => 0 + i) (aNa A a) 0 i 0 = A 0 := aLq_row _ _ _ _ _ _ (by decide)
    have hv : A 0 ((a + i) % 512) < 256 := by rw [← r]; exact x_mem_lt h.2 _
    have q := y_mget d h (a := a + i) (by omega)
    rw [r] at q
    refine ⟨x_up σ 26 i (nI (A 0 ((a + i) % 512))), ?_, ?_⟩
    · rw [c135_2, if_neg (by exact n_ge hi (by decide)), nI_add, q, bnd0]
      dsimp only
      rw [if_neg (n_ok hi (by decide)), n_cl (by omega), show (1 : Int32) = nI 1 from rfl, nI_add]
    · rw [aLq_n _ _ _ _ hl, Nat.zero_add]
      exact xm_up h 12 i hi hv) 4 0 4995 σ (by omega) (by omega) (by rw [aLq_s]; exact h)
  refine ⟨σ1, ?_, xm_congr h1 (fun o k hk => ?_) (wx_nf h.2 (fun k _ => x_mem_lt h.2 _))⟩
  · rw [m135]
    refine q1.trans ((c135_2 (d + 1) 4994 _ _ _).trans ?_)
    rw [if_pos (by decide)]
  · rw [aLq_v _ _ _ _ (by omega)]
    by_cases e : o = 12
    · subst e
      have hk : k < 4 := hk
      rw [if_pos ⟨rfl, by omega, by omega⟩, aNF_12, Nat.sub_zero]
    · by_cases e2 : o = 5
      · subst e2; exact absurd (show k < 0 from hk) (by omega)
      · rw [if_neg (fun z => e z.1), aNF_r A _ (by omega)]
theorem x_buf_lt {A : aS} (w : WX A) : A 4 1 < 65536 := w 4 1 (by decide)
theorem c_search (h : XC A σ) {f : Nat} (hf : f ≤ 8) : ∃ σ', x_M (d + 3) 83 [.ref 12, .int (nI f)] σ = some (nI (if aFd (A 5) A 1 (8 - f) < 8 then aFd (A 5) A 1 (8 - f) else 255), σ') ∧ XC (if aFd (A 5) A 1 (8 - f) < 8 then aRd (a_up A 7 1 (aFd (A 5) A 1 (8 - f) + 1)) (aFd (A 5) A 1 (8 - f)) (A 4 1) 0 else a_up A 7 1 8) σ' := by
  rw [m83, c_findF (d) h hf, bnd0]
  dsimp only
  rcases aFd_lt (A 5) A 1 (8 - f) (by omega) with g | g
  · rw [g, if_pos (by decide), if_neg (by decide), if_neg (by decide)]
    exact ⟨_, rfl, xc_up h 7 1 (v := 8) (by decide) (by decide)⟩
  · rw [if_neg (by exact n_m1 (by omega)), if_pos g, if_pos g]
    generalize aFd (A 5) A 1 (8 - f) = b at g
    have hb := x_buf_lt h.2
    have h1 : XC (a_up A 7 1 (b + 1)) (x_up σ 12 4 (nI (b + 1))) := xc_up h 7 1 (v := b + 1) (by decide) (show b + 1 < 9 by omega)
    obtain ⟨σ2, q2, h2⟩ := c_read d h1 (b := b) (a := A 4 1) (by omega) (by omega)
    have e4 : a_up A 7 1 (b + 1) 4 1 = A 4 1 := a_ne (by omega)
    rw [show (1 : Int32) = nI 1 from rfl, nI_add, xv_buf h1, e4, q2, bnd0]
    exact ⟨σ2, rfl, h2⟩
theorem y_sx (h : XM A σ) {b : Nat} (hb : b < 8) : ∃ σ', xr x_i136 (d + 1) 4999 9 [(0, .ref 19), (2, .int (nI b)), (3, .int (nI 0))] [] σ = some (nI b, σ') ∧ XM (a_up (aRd A b (A 4 1) 0) 16 1 b) σ' := by
  have hbf := x_buf_lt h.2
  obtain ⟨σ1, q1, h1⟩ := loopX (X := XM) (F := fun n i σ => xr x_i136 (d + 1) n 9 [(0, .ref 19), (2, .int (nI b)), (3, .int (nI i))] [] σ) (S := fun i => aLq A 0 (fun i => (A 4 1 + i) % 512) (fun i => A 1 (16 * b + i)) 0 i) 0 16 (by
    intro n i σ hl hi h
    obtain ⟨q1, σ', q2, h2⟩ := y_d2m d (by omega) (by omega) hl hi h
    refine ⟨σ', ?_, h2⟩
    have qb := yv_buf h
    rw [aLq_row _ _ _ _ _ _ (by decide)] at qb
    rw [c136_9, if_neg (by exact n_ge hi (by decide)), if_neg (by exact n_m1 (by omega)), y_16i, if_neg (n_ok (by omega) (by decide)), n_cl (by omega), q1, qb, nI_add, q2, bnd0]
    dsimp only
    rw [show (1 : Int32) = nI 1 from rfl, nI_add]) 16 0 4983 σ (by omega) (by omega) (by rw [aLq_s]; exact h)
  refine ⟨x_up σ1 19 20 (nI b), q1.trans ((c136_9 (d + 1) 4982 _ _ _).trans ?_), xm_up h1 16 1 (by decide) (show b < 4294967296 by omega)⟩
  rw [if_pos (by decide), if_neg (by exact n_m1 (by omega)), if_neg (by exact n_m1 (by omega))]
theorem y_searchN (h : XM A σ) {v : Int32} (q : x_M (d + 2) 116 [.ref 19, .int v, .int (nI 1)] σ = some (nI 4294967295, σ)) : ∃ σ', x_M (d + 3) 136 [.ref 19, .int v] σ = some (nI 255, σ') ∧ XM (a_up A 16 1 8) σ' := by
  rw [m136, show (1 : Int32) = nI 1 from rfl, q, bnd0]
  refine ⟨_, (c136_9 (d + 2) 4998 _ _ _).trans ?_, xm_up h 16 1 (v := 8) (by decide) (by decide)⟩
  rw [if_neg (by decide), if_pos (by rfl), if_pos (by rfl), if_pos (by rfl)]
  rfl
theorem y_search (h : XM A σ) {f : Nat} (hf : f ≤ 8) : ∃ σ', x_M (d + 3) 136 [.ref 19, .int (nI f)] σ = some (nI (if aFd (A 12) A 1 (8 - f) < 8 then aFd (A 12) A 1 (8 - f) else 255), σ') ∧ XM (if aFd (A 12) A 1 (8 - f) < 8 then a_up (aRd A (aFd (A 12) A 1 (8 - f)) (A 4 1) 0) 16 1 (aFd (A 12) A 1 (8 - f)) else a_up A 16 1 8) σ' := by
  have q := y_find d h hf (a := 1) (by omega)
  rcases aFd_lt (A 12) A 1 (8 - f) (by omega) with g | g
  · rw [g] at q ⊢
    rw [if_neg (by decide), if_neg (by decide)]
    exact y_searchN d h q
  · rw [m136, show (1 : Int32) = nI 1 from rfl, q, bnd0, if_pos g, if_pos g]
    exact y_sx (d + 1) h g
/-- has the file block at a a record x? -/
def hasR (A : aS) (a x : Nat) : Bool := decide (x < A 0 ((a + 5) % 512)) && isD (A 0 ((a + 6 + x) % 512))
theorem c_hasR (h : XC A σ) {a x : Nat} (ha : a < 65536) (hx : x < 256) : x_M (d + 2) 84 [.ref 12, .int (nI a), .int (nI x)] σ = some (nI (bN (hasR A a x)), σ) := by
  have h5 := x_mem_lt h.2 (a + 5)
  have h6 := x_mem_lt h.2 (a + 6 + x)
  unfold hasR
  rw [m84, show (5 : Int32) = nI 5 from rfl, nI_add, c_mget d h (by omega), bnd0]
  dsimp only
  by_cases g : x < A 0 ((a + 5) % 512)
  · rw [if_neg (by exact n_ge g (by omega)), show (6 : Int32) = nI 6 from rfl, nI_add, nI_add, c_mget d h (by omega), bnd0]
    dsimp only
    rw [c_isrec d (by omega), bnd0, decide_eq_true g]
    dsimp only
    cases isD (A 0 ((a + 6 + x) % 512))
    · rw [if_pos (by decide)]; rfl
    · rw [if_neg (by decide)]; rfl
  · rw [if_pos (by exact (nI_leI (by omega) (by omega)).mpr (by omega)), decide_eq_false g]
    rfl
def okR (A : aS) (a : Nat) : Bool := decide (A 0 ((a + 16) % 512) < 10) && hasR A a (A 0 ((a + 16) % 512))
def aRec (A : aS) (a : Nat) : aS := a_up (aRd A (A 0 ((a + 6 + A 0 ((a + 16) % 512)) % 512)) (A 4 1) 0) 0 ((a + 16) % 512) (A 0 ((a + 16) % 512) + 1)
theorem c_fread (h : XC A σ) {a : Nat} (ha : a < 65536) : ∃ σ', x_M (d + 3) 85 [.ref 12, .int (nI a)] σ = some (nI (if okR A a = true then 0 else 1), σ') ∧ XC (if okR A a = true then aRec A a else A) σ' := by
  have hx := x_mem_lt h.2 (a + 16)
  have hb := x_buf_lt h.2
  unfold okR aRec
  rw [m85, show (16 : Int32) = nI 16 from rfl, nI_add, c_mget (d + 1) h (by omega), bnd0]
  dsimp only
  generalize A 0 ((a + 16) % 512) = x at hx
  by_cases g : x < 10
  · rw [if_neg (by exact n_ge g (by decide)), c_hasR d h ha hx, bnd0, decide_eq_true g, Bool.true_and]
    dsimp only
    cases g2 : hasR A a x
    · rw [if_pos (by decide), if_neg (by decide), if_neg (by decide)]
      exact ⟨σ, rfl, h⟩
    · have g3 : isD (A 0 ((a + 6 + x) % 512)) = true := by
        unfold hasR at g2
        rw [Bool.and_eq_true] at g2
        exact g2.2
      unfold isD at g3
      have g3 := of_decide_eq_true g3
      obtain ⟨σ1, q1, h1⟩ := c_read d h (b := A 0 ((a + 6 + x) % 512)) (a := A 4 1) (by omega) (by omega)
      obtain ⟨σ2, q2, h2⟩ := c_mput (d + 1) h1 (a := a + 16) (v := x + 1) (by omega) (by omega)
      rw [Nat.mod_eq_of_lt (show x + 1 < 256 by omega)] at h2
      rw [if_neg (by decide), if_pos rfl, if_pos rfl, show (6 : Int32) = nI 6 from rfl, nI_add, nI_add, c_mget (d + 1) h (by omega), bnd0]
      dsimp only
      rw [xv_buf h, q1, bnd0]
      dsimp only
      rw [show (1 : Int32) = nI 1 from rfl, nI_add, q2, bnd0]
      exact ⟨σ2, rfl, h2⟩
  · rw [if_pos (by exact (nI_leI (a := 10) (by omega) (by omega)).mpr (by omega)), decide_eq_false g, Bool.false_and, if_neg (by decide), if_neg (by decide)]
    exact ⟨σ, rfl, h⟩
theorem y_reads (h : XM A σ) {a : Nat} (ha : a < 65536) : ∃ σ', x_M (d + 2) 137 [.ref 19, .int (nI a)] σ = some (nI (if okR A a = true then 0 else 1), σ') ∧ XM (if okR A a = true then aRec A a else A) σ' := by
  have hx := x_mem_lt h.2 (a + 16)
  have hbf := x_buf_lt h.2
  have h5 := x_mem_lt h.2 (a + 5)
  unfold okR aRec
  rw [m137, show (16 : Int32) = nI 16 from rfl, nI_add, y_mget d h (by omega), bnd0]
  dsimp only
  generalize A 0 ((a + 16) % 512) = x at hx
  have hb := x_mem_lt h.2 (a + 6 + x)
  by_cases g : x < 10
  · rw [if_pos (by exact (nI_leI (b := 9) (by omega) (by omega)).mpr (by omega)), show (6 : Int32) = nI 6 from rfl, nI_add, nI_add, y_mget d h (by omega), bnd0]
    dsimp only
    rw [if_neg (by intro z; have := (nI_ltI (a := 9) (by omega) (by omega)).mp z; omega), show (5 : Int32) = nI 5 from rfl, nI_add, y_mget d h (by omega), bnd0, decide_eq_true g, Bool.true_and]
    dsimp only
    unfold hasR
    by_cases g5 : x < A 0 ((a + 5) % 512)
    · rw [if_neg (by exact n_ge g5 (by omega)), y_isrec d (by omega), bnd0, decide_eq_true g5, Bool.true_and]
      dsimp only
      cases g6 : isD (A 0 ((a + 6 + x) % 512))
      · rw [if_pos (by decide), if_neg (by decide), if_neg (by decide)]
        exact ⟨σ, rfl, h⟩
      · unfold isD at g6
        have g6 := of_decide_eq_true g6
        rw [if_neg (by decide), if_pos rfl, if_pos rfl]
        generalize A 0 ((a + 6 + x) % 512) = b at hb g6
        obtain ⟨σ1, q1, h1⟩ := loopX (X := XM) (F := fun n i σ => xr x_i137 (d + 1) n 59 [(0, .ref 19), (1, .int (nI a)), (2, .int (nI x)), (3, .int (nI b)), (4, .int (nI i))] [] σ) (S := fun i => aLq A 0 (fun i => (A 4 1 + i) % 512) (fun i => A 1 (16 * b + i)) 0 i) 0 16 (by
          intro n i σ hl hi h
          obtain ⟨q1, σ', q2, h2⟩ := y_d2m d (by omega) (by omega) hl hi h
          refine ⟨σ', ?_, h2⟩
          have qb := yv_buf h
          rw [aLq_row _ _ _ _ _ _ (by decide)] at qb
          rw [c137_59, if_neg (by exact n_ge hi (by decide)), y_16i, if_neg (n_ok (by omega) (by decide)), n_cl (by omega), q1, qb, nI_add, q2, bnd0]
          dsimp only
          rw [show (1 : Int32) = nI 1 from rfl, nI_add]) 16 0 4983 σ (by omega) (by omega) (by rw [aLq_s]; exact h)
        obtain ⟨σ2, q2, h2⟩ := y_mput d h1 (a := a + 16) (v := x + 1) (by omega) (by omega)
        rw [Nat.mod_eq_of_lt (show x + 1 < 256 by omega)] at h2
        refine ⟨σ2, q1.trans ((c137_59 (d + 1) 4982 _ _ _ _ _).trans ?_), h2⟩
        rw [if_pos (by decide), show (16 : Int32) = nI 16 from rfl, show (1 : Int32) = nI 1 from rfl, nI_add, nI_add, q2, bnd0]
        rfl
    · rw [if_pos (by exact (nI_leI (by omega) (by omega)).mpr (by omega)), decide_eq_false g5, Bool.false_and, if_neg (by decide), if_neg (by decide)]
      exact ⟨σ, rfl, h⟩
  · rw [if_neg (by intro z; have := (nI_leI (b := 9) (by omega) (by omega)).mp z; omega), if_pos (by exact (nI_ltI (a := 9) (by omega) (by omega)).mpr (by omega)), decide_eq_false g, Bool.false_and, if_neg (by decide), if_neg (by decide)]
    exact ⟨σ, rfl, h⟩
end N1
