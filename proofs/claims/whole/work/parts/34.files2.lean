/-! Writing a record; renaming; all the calls of files, class beside model -/
theorem iF {α : Type} (a b : α) : (if false = true then a else b) = b := rfl
theorem iT {α : Type} (a b : α) : (if true = true then a else b) = a := rfl
def aWf (B : aS) (b a x : Nat) : aS := a_up (if B 0 ((a + 5) % 512) < x + 1 then a_up (aWr B b (B 4 1) 0) 0 ((a + 5) % 512) (x + 1) else aWr B b (B 4 1) 0) 0 ((a + 16) % 512) (x + 1)
theorem aWr_row (A : aS) (b a s : Nat) {o : Nat} (h : ¬ o = 1) : aWr A b a s o = A o := aLq_row _ _ _ _ _ _ h
theorem aRd_row (A : aS) (b a s : Nat) {o : Nat} (h : ¬ o = 0) : aRd A b a s o = A o := aLq_row _ _ _ _ _ _ h
section W1
variable {A : aS} {σ : xS} (d : Nat)
theorem c_w56 (h : XC A σ) {a b x : Nat} (ha : a < 65536) (hx : x < 10) (eb : A 0 ((a + 6 + x) % 512) = b) (hb : b < 32) : ∃ σ', xr x_i87 (d + 2) 4999 56 [(0, .ref 12), (1, .int (nI a)), (2, .int (nI x))] [] σ = some (nI 0, σ') ∧ XC (aWf A b a x) σ' := by
  have hbf := x_buf_lt h.2
  have h5 := x_mem_lt h.2 (a + 5)
  obtain ⟨σ1, q1, h1⟩ := c_write d h (b := b) (a := A 4 1) hb (by omega)
  have r5 : aWr A b (A 4 1) 0 0 = A 0 := aWr_row _ _ _ _ (by decide)
  have q2 := c_mget (d + 1) h1 (a := a + 5) (by omega)
  rw [r5] at q2
  refine (c87_56 (d + 2) 4998 _ _ _).symm ▸ ?_
  rw [show (6 : Int32) = nI 6 from rfl, nI_add, nI_add, c_mget (d + 1) h (by omega), bnd0, eb]
  dsimp only
  rw [xv_buf h, q1, bnd0]
  dsimp only
  rw [show (5 : Int32) = nI 5 from rfl, nI_add, q2, bnd0]
  dsimp only
  unfold aWf
  rw [show (1 : Int32) = nI 1 from rfl, show (16 : Int32) = nI 16 from rfl, nI_add, nI_add]
  by_cases g : A 0 ((a + 5) % 512) < x + 1
  · obtain ⟨σ3, q3, h3⟩ := c_mput (d + 1) h1 (a := a + 5) (v := x + 1) (by omega) (by omega)
    rw [Nat.mod_eq_of_lt (show x + 1 < 256 by omega)] at h3
    obtain ⟨σ4, q4, h4⟩ := c_mput (d + 1) h3 (a := a + 16) (v := x + 1) (by omega) (by omega)
    rw [Nat.mod_eq_of_lt (show x + 1 < 256 by omega)] at h4
    rw [if_neg (by exact n_ge g (by omega)), q3, bnd0, if_pos g]
    dsimp only
    rw [q4, bnd0]
    exact ⟨σ4, rfl, h4⟩
  · obtain ⟨σ4, q4, h4⟩ := c_mput (d + 1) h1 (a := a + 16) (v := x + 1) (by omega) (by omega)
    rw [Nat.mod_eq_of_lt (show x + 1 < 256 by omega)] at h4
    rw [if_pos (by exact (nI_leI (by omega) (by omega)).mpr (by omega)), q4, bnd0, if_neg g]
    exact ⟨σ4, rfl, h4⟩
theorem y_w73 (h : XM A σ) {a b x : Nat} (ha : a < 65536) (hx : x < 10) (hb : b < 32) : ∃ σ', xr x_i138 (d + 1) 4999 73 [(0, .ref 19), (1, .int (nI a)), (2, .int (nI x)), (3, .int (nI b)), (4, .int (nI 0))] [] σ = some (nI 0, σ') ∧ XM (aWf A b a x) σ' := by
  have hbf := x_buf_lt h.2
  have h5 := x_mem_lt h.2 (a + 5)
  obtain ⟨σ1, q1, h1⟩ := loopX (X := XM) (F := fun n i σ => xr x_i138 (d + 1) n 73 [(0, .ref 19), (1, .int (nI a)), (2, .int (nI x)), (3, .int (nI b)), (4, .int (nI i))] [] σ) (S := fun i => aLq A 1 (fun i => 16 * b + i) (fun i => A 0 ((A 4 1 + i) % 512)) 0 i) 0 16 (by
    intro n i σ hl hi h
    obtain ⟨q1, h2⟩ := y_m2d d hb (by omega) hl hi h
    refine ⟨_, ?_, h2⟩
    have qb := yv_buf h
    rw [aLq_row _ _ _ _ _ _ (by decide)] at qb
    rw [c138_73, if_neg (by exact n_ge hi (by decide)), qb, nI_add, q1, bnd0]
    dsimp only
    rw [y_16i, if_neg (n_ok (by omega) (by decide)), n_cl (by omega), show (1 : Int32) = nI 1 from rfl, nI_add]) 16 0 4983 σ (by omega) (by omega) (by rw [aLq_s]; exact h)
  have h1 : XM (aWr A b (A 4 1) 0) σ1 := h1
  have r5 : aWr A b (A 4 1) 0 0 = A 0 := aWr_row _ _ _ _ (by decide)
  have q2 := y_mget d h1 (a := a + 5) (by omega)
  rw [r5] at q2
  have q1 : xr x_i138 (d + 1) 4999 73 [(0, .ref 19), (1, .int (nI a)), (2, .int (nI x)), (3, .int (nI b)), (4, .int (nI 0))] [] σ = xr x_i138 (d + 1) (4982 + 1) 73 [(0, .ref 19), (1, .int (nI a)), (2, .int (nI x)), (3, .int (nI b)), (4, .int (nI 16))] [] σ1 := q1
  rw [q1, c138_73, if_pos (by decide), show (5 : Int32) = nI 5 from rfl, nI_add, q2, bnd0]
  dsimp only
  unfold aWf
  rw [show (1 : Int32) = nI 1 from rfl, show (16 : Int32) = nI 16 from rfl, nI_add, nI_add]
  by_cases g : A 0 ((a + 5) % 512) < x + 1
  · obtain ⟨σ3, q3, h3⟩ := y_mput d h1 (a := a + 5) (v := x + 1) (by omega) (by omega)
    rw [Nat.mod_eq_of_lt (show x + 1 < 256 by omega)] at h3
    obtain ⟨σ4, q4, h4⟩ := y_mput d h3 (a := a + 16) (v := x + 1) (by omega) (by omega)
    rw [Nat.mod_eq_of_lt (show x + 1 < 256 by omega)] at h4
    rw [if_neg (by exact n_ge g (by omega)), q3, bnd0, if_pos g]
    dsimp only
    rw [q4, bnd0]
    exact ⟨σ4, rfl, h4⟩
  · obtain ⟨σ3, q3, h3⟩ := y_mput d h1 (a := a + 5) (v := A 0 ((a + 5) % 512)) (by omega) (by omega)
    rw [Nat.mod_eq_of_lt h5, a_self _ (by rw [r5])] at h3
    obtain ⟨σ4, q4, h4⟩ := y_mput d h3 (a := a + 16) (v := x + 1) (by omega) (by omega)
    rw [Nat.mod_eq_of_lt (show x + 1 < 256 by omega)] at h4
    rw [if_pos (by exact (nI_leI (by omega) (by omega)).mpr (by omega)), q2, bnd0, if_neg g]
    dsimp only
    rw [q3, bnd0]
    dsimp only
    rw [q4, bnd0]
    exact ⟨σ4, rfl, h4⟩
def wAns (A : aS) (a x : Nat) : Nat := if x < 10 then (if hasR A a x = true then 0 else if aFB A a < 32 then 0 else 2) else 1
def wSt (A : aS) (a x : Nat) : aS := if x < 10 then (if hasR A a x = true then aWf A (A 0 ((a + 6 + x) % 512)) a x else if aFB A a < 32 then aWf (a_up A 0 ((a + 6 + x) % 512) (aFB A a)) (aFB A a) a x else A) else A
theorem c_fwrite (h : XC A σ) {a : Nat} (ha : a < 65536) : ∃ σ', x_M (d + 4) 87 [.ref 12, .int (nI a)] σ = some (nI (wAns A a (A 0 ((a + 16) % 512))), σ') ∧ XC (wSt A a (A 0 ((a + 16) % 512))) σ' := by
  have hx := x_mem_lt h.2 (a + 16)
  rw [m87, show (16 : Int32) = nI 16 from rfl, nI_add, c_mget (d + 2) h (by omega), bnd0]
  dsimp only
  generalize A 0 ((a + 16) % 512) = x at hx
  unfold wAns wSt
  by_cases g : x < 10
  · rw [if_pos (by exact (nI_ltI (b := 10) (by omega) (by omega)).mpr g), c_hasR (d + 1) h ha hx, bnd0, if_pos g, if_pos g]
    dsimp only
    cases g2 : hasR A a x
    · obtain ⟨σ1, q1, h1⟩ := c_unused d h ha
      rw [if_pos (by decide), iF, iF, q1, bnd0]
      dsimp only
      have hl : aFB A a = 4294967295 ∨ (8 ≤ aFB A a ∧ aFB A a < 32) := aLu_lt _ 24 (by omega)
      rcases hl with g3 | g3
      · rw [g3, if_pos (by decide), if_neg (by decide), if_neg (by decide)]
        exact ⟨σ1, rfl, h1⟩
      · obtain ⟨σ2, q2, h2⟩ := c_mput (d + 2) h1 (a := a + 6 + x) (v := aFB A a) (by omega) (by omega)
        rw [Nat.mod_eq_of_lt (show aFB A a < 256 by omega)] at h2
        obtain ⟨σ3, q3, h3⟩ := c_w56 (d + 1) h2 ha g (b := aFB A a) (a_at _ _ _ _) (by omega)
        rw [if_neg (by exact n_m1 (by omega)), if_pos g3.2, if_pos g3.2, show (6 : Int32) = nI 6 from rfl, nI_add, nI_add, q2, bnd0]
        exact ⟨σ3, q3, h3⟩
    · have g3 : isD (A 0 ((a + 6 + x) % 512)) = true := by
        unfold hasR at g2
        rw [Bool.and_eq_true] at g2
        exact g2.2
      unfold isD at g3
      have g3 := of_decide_eq_true g3
      rw [if_neg (by decide), if_pos rfl, if_pos rfl]
      exact c_w56 (d + 1) h ha g rfl (by omega)
  · rw [if_neg (by intro z; exact g ((nI_ltI (b := 10) (by omega) (by omega)).mp z)), if_neg g, if_neg g]
    exact ⟨σ, rfl, h⟩
theorem y_writes (h : XM A σ) {a : Nat} (ha : a < 65536) : ∃ σ', x_M (d + 4) 138 [.ref 19, .int (nI a)] σ = some (nI (wAns A a (A 0 ((a + 16) % 512))), σ') ∧ XM (wSt A a (A 0 ((a + 16) % 512))) σ' := by
  have hx := x_mem_lt h.2 (a + 16)
  have h5 := x_mem_lt h.2 (a + 5)
  rw [m138, show (16 : Int32) = nI 16 from rfl, nI_add, y_mget (d + 2) h (by omega), bnd0]
  dsimp only
  generalize A 0 ((a + 16) % 512) = x at hx
  have h6 := x_mem_lt h.2 (a + 6 + x)
  unfold wAns wSt
  by_cases g : x < 10
  · rw [if_pos (by exact (nI_leI (b := 9) (by omega) (by omega)).mpr (by omega)), show (6 : Int32) = nI 6 from rfl, nI_add, nI_add, y_mget (d + 2) h (by omega), bnd0, if_pos g, if_pos g]
    dsimp only
    rw [show (5 : Int32) = nI 5 from rfl, nI_add, y_mget (d + 2) h (by omega), bnd0]
    dsimp only
    have noR : hasR A a x = false → ∃ σ', ((x_M (d + 3) 123 [.ref 19, .int (nI a)] σ).bind fun r4 => if r4.1 = (-1 : Int32) then some ((2 : Int32), r4.2) else ((x_M (d + 3) 127 [.ref 19, .int (nI (a + 6 + x)), .int r4.1] r4.2).bind fun r5 => xr x_i138 (d + 3) 4999 73 [(0, .ref 19), (1, .int (nI a)), (2, .int (nI x)), (3, .int r4.1), (4, .int (0 : Int32))] [] r5.2)) = some (nI (if hasR A a x = true then 0 else if aFB A a < 32 then 0 else 2), σ') ∧ XM (if hasR A a x = true then aWf A (A 0 ((a + 6 + x) % 512)) a x else if aFB A a < 32 then aWf (a_up A 0 ((a + 6 + x) % 512) (aFB A a)) (aFB A a) a x else A) σ' := fun g2 => by
      rw [y_freeB d h ha, bnd0, g2, iF, iF]
      dsimp only
      have hl : aFB A a = 4294967295 ∨ (8 ≤ aFB A a ∧ aFB A a < 32) := aLu_lt _ 24 (by omega)
      rcases hl with g3 | g3
      · rw [g3, if_pos (by decide), if_neg (by decide), if_neg (by decide)]
        exact ⟨σ, rfl, h⟩
      · obtain ⟨σ2, q2, h2⟩ := y_mput (d + 2) h (a := a + 6 + x) (v := aFB A a) (by omega) (by omega)
        rw [Nat.mod_eq_of_lt (show aFB A a < 256 by omega)] at h2
        obtain ⟨σ3, q3, h3⟩ := y_w73 (d + 2) h2 ha g (b := aFB A a) (by omega)
        rw [if_neg (by exact n_m1 (by omega)), if_pos g3.2, if_pos g3.2, q2, bnd0]
        exact ⟨σ3, q3, h3⟩
    by_cases g5 : x < A 0 ((a + 5) % 512)
    · rw [if_neg (by exact n_ge g5 (by omega)), y_isrec (d + 2) (by omega), bnd0]
      dsimp only
      cases g6 : isD (A 0 ((a + 6 + x) % 512))
      · rw [if_pos (by decide)]
        exact noR (by unfold hasR; rw [g6, Bool.and_false])
      · have g7 : hasR A a x = true := by unfold hasR; rw [g6, decide_eq_true g5]; rfl
        unfold isD at g6
        have g6 := of_decide_eq_true g6
        rw [if_neg (by decide), g7, if_pos rfl, if_pos rfl]
        exact y_w73 (d + 2) h ha g (by omega)
    · rw [if_pos (by exact (nI_leI (by omega) (by omega)).mpr (by omega))]
      exact noR (by unfold hasR; rw [decide_eq_false g5, Bool.false_and])
  · rw [if_neg (by intro z; have := (nI_leI (b := 9) (by omega) (by omega)).mp z; omega), if_neg g, if_neg g]
    exact ⟨σ, rfl, h⟩
end W1
