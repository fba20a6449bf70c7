/-! The model's instruction: exchanges, piles, jumps; and the whole step beside the class's -/
theorem aSF_p (B : aS) (x f : Nat) : aSF (a_up B 3 1 x) f = a_up (aSF B f) 3 1 x := by
  unfold aSF
  rw [p_up B x (by omega), p_up _ x (by omega), p_up _ x (by omega), p_up _ x (by omega), p_up _ x (by omega)]
theorem aSF_pcv (B : aS) (f : Nat) : aSF B f 3 1 = B 3 1 := by
  unfold aSF
  rw [a_ne (by omega), a_ne (by omega), a_ne (by omega), a_ne (by omega), a_ne (by omega)]
section M7
variable {A : aS} {σ : xS} (d : Nat)
theorem m_exch (h : CQ A σ) {y : Nat} (hy : y = 4 ∨ y = 5) : ∃ σ', x_M (d + 3) 157 [.ref 19, .int (nI y)] σ = some (0, σ') ∧ CQ (aGX A y) σ' := by
  have hs := h.2.2.2.1
  have hw0 := aWd_lt h.2 (A 3 0)
  have p1 := aPr_lt h.2 (p := 1) (by decide)
  have p2 := aPr_lt h.2 (p := 2) (by decide)
  have q1 := m_pair (d + 1) h (p := 1) (by decide)
  have q2 := m_pair (d + 1) h (p := 2) (by decide)
  rw [m157, show (2 : Int32) = nI 2 from rfl, q2, bnd0]
  dsimp only
  rcases hy with rfl | rfl
  · have g := m_word d h (a := A 3 0) (by omega)
    obtain ⟨σ4, e4, h4⟩ := m_putWord d h (a := A 3 0) (v := aPr A 2) (by omega) (by omega)
    obtain ⟨σ5, e5, h5⟩ := m_setPair (d + 1) h4 (p := 2) (w := aWd A (A 3 0)) (by decide) (by omega)
    rw [if_pos (by decide), mv_sp h, g, bnd0]
    dsimp only
    rw [mv_sp h, e4, bnd0]
    dsimp only
    rw [e5, bnd0]
    exact ⟨_, rfl, h5⟩
  · obtain ⟨σ4, e4, h4⟩ := m_setPair (d + 1) h (p := 2) (w := aPr A 1) (by decide) (by omega)
    obtain ⟨σ5, e5, h5⟩ := m_setPair (d + 1) h4 (p := 1) (w := aPr A 2) (by decide) (by omega)
    rw [if_neg (by decide), show (1 : Int32) = nI 1 from rfl, q1, bnd0]
    dsimp only
    rw [e4, bnd0]
    dsimp only
    rw [e5, bnd0]
    refine ⟨_, rfl, ?_⟩
    show CQ (aSP (aSP A 1 (aPr A 2)) 2 (aPr A 1)) σ5
    rw [← aSP_x]
    exact h5
theorem aPO_n (B : aS) (w : WQ B) {y : Nat} (hy : y < 8) : aPO (nrm B) y = nrm (aPO B y) := by
  have hw := aWd_lt w (B 3 0)
  have hp := aPr_lt w (p := 2) (by decide)
  have r0 : nrm B 3 0 = B 3 0 := nrm_r (by omega)
  have hy' : y = 0 ∨ y = 1 ∨ y = 2 ∨ y = 3 ∨ y = 4 ∨ y = 5 ∨ y = 6 ∨ y = 7 := by omega
  rcases hy' with rfl | rfl | rfl | rfl | rfl | rfl | rfl | rfl
  · simp only [aPO, r0, aWd_n, aP2_n, aSP_n]
  · simp (disch := omega) only [aPO, r0, aWd_n, aP2_n, nrm_pc]
  · simp only [aPO, r0, aWd_n, aP2_n, aSP_n]
  · simp (disch := omega) only [aPO, r0, aWd_n, aP2_n, nrm_pc]
  · simp only [aPO, r0, aWd_n, aP2_n, aSP_n]
  · simp (disch := omega) only [aPO, aPr_n, nrm_pc]
  · simp (disch := omega) only [aPO, r0, aWd_n, aP2_n, nrm_up, aSF_n]
  · simp (disch := omega) only [aPO, aPr_n, nrm_up]
theorem m_pile1 (h : CQ A σ) {y v : Nat} (hy : y < 8) (hp : A 3 1 < 66000) : ∃ σ', x_M (d + 4) 156 [.ref 19, .int (nI y), .int 1, .int (nI v)] σ = some (0, σ') ∧ CQ (aPO A y) σ' := by
  have hw := aWd_lt h.2 (A 3 0)
  have p2 := aPr_lt h.2 (p := 2) (by decide)
  have q2 := m_pair (d + 2) h (p := 2) (by decide)
  obtain ⟨σ1, e1, h1⟩ := m_pop d h
  rw [m156, if_neg (by decide)]
  have hy' : y = 0 ∨ y = 1 ∨ y = 2 ∨ y = 3 ∨ y = 4 ∨ y = 5 ∨ y = 6 ∨ y = 7 := by omega
  have hsp : ∀ p, p < 3 → ∃ σ', x_M (d + 3) 144 [.ref 19, .int (nI p), .int (nI (aWd A (A 3 0)))] σ1 = some (0, σ') ∧ CQ (aSP (aP2 A) p (aWd A (A 3 0))) σ' := fun p hp => m_setPair (d + 2) h1 (by omega) (by omega)
  rcases hy' with rfl | rfl | rfl | rfl | rfl | rfl | rfl | rfl
  · obtain ⟨σ2, e2, h2⟩ := hsp 0 (by decide)
    refine ⟨σ2, (c156_50 (d + 3) 4998 _ _ _ _).trans ?_, h2⟩
    rw [if_neg (by decide), if_neg (by decide), if_neg (by decide), if_neg (by decide), if_neg (by decide), e1, bnd0, if_neg (by decide), show nI 0 / 2 = nI 0 from by decide, e2, bnd0]
  · refine ⟨_, (c156_50 (d + 3) 4998 _ _ _ _).trans ?_, mq_pc h1 (v := aWd A (A 3 0)) (by omega)⟩
    rw [if_neg (by decide), if_pos (by decide), e1, bnd0]
  · obtain ⟨σ2, e2, h2⟩ := hsp 1 (by decide)
    refine ⟨σ2, (c156_50 (d + 3) 4998 _ _ _ _).trans ?_, h2⟩
    rw [if_neg (by decide), if_neg (by decide), if_neg (by decide), if_neg (by decide), if_neg (by decide), e1, bnd0, if_neg (by decide), show nI 2 / 2 = nI 1 from by decide, e2, bnd0]
  · refine ⟨_, (c156_50 (d + 3) 4998 _ _ _ _).trans ?_, mq_pc h1 (v := aWd A (A 3 0)) (by omega)⟩
    rw [if_neg (by decide), if_neg (by decide), if_pos (by decide), e1, bnd0]
  · obtain ⟨σ2, e2, h2⟩ := hsp 2 (by decide)
    refine ⟨σ2, (c156_50 (d + 3) 4998 _ _ _ _).trans ?_, h2⟩
    rw [if_neg (by decide), if_neg (by decide), if_neg (by decide), if_neg (by decide), if_neg (by decide), e1, bnd0, if_neg (by decide), show nI 4 / 2 = nI 2 from by decide, e2, bnd0]
  · refine ⟨_, (c156_50 (d + 3) 4998 _ _ _ _).trans ?_, mq_pc h (v := aPr A 2) (by omega)⟩
    rw [if_neg (by decide), if_neg (by decide), if_neg (by decide), if_pos (by decide), show (2 : Int32) = nI 2 from rfl, q2, bnd0]
  · obtain ⟨σ2, e2, h2⟩ := m_setFlags (d + 2) (mq_reg h1 (i := 7) (v := aWd A (A 3 0) / 256) (by decide) (by omega)) (f := aWd A (A 3 0) % 256) (by omega)
    rw [aSF_m] at h2
    refine ⟨σ2, (c156_50 (d + 3) 4998 _ _ _ _).trans ?_, h2⟩
    rw [if_neg (by decide), if_neg (by decide), if_neg (by decide), if_neg (by decide), if_neg (by decide), e1, bnd0, if_pos (by decide)]
    dsimp only
    rw [n_and255 (by omega), n_shr8 (by omega), e2, bnd0]
  · refine ⟨_, (c156_50 (d + 3) 4998 _ _ _ _).trans ?_, mq_sp h (v := aPr A 2) (by omega)⟩
    rw [if_neg (by decide), if_neg (by decide), if_neg (by decide), if_neg (by decide), if_pos (by decide), show (2 : Int32) = nI 2 from rfl, q2, bnd0]
theorem m_pile5 (h : CQ A σ) {y : Nat} (hy : y < 8) (hp : A 3 1 < 66000) : ∃ σ' B, x_M (d + 4) 156 [.ref 19, .int (nI y), .int 5, .int (nI (aWd A (A 3 1)))] σ = some (0, σ') ∧ CQ B σ' ∧ nrm B = aQC (nrm A) y ∧ B 3 1 < 66010 := by
  have ha := h.2.2.1 7 (by decide)
  have hf := aFg_lt h.2
  have hw := aWd_lt h.2 (A 3 1)
  have p := aPr_lt h.2 (p := y / 2) (by omega)
  have q := m_pair (d + 2) h (p := y / 2) (by omega)
  have qf := m_flags (d + 2) h
  have r7 : nrm A 2 7 = A 2 7 := nrm_r (by omega)
  rw [m156, if_pos rfl, n_rem2 (by omega)]
  by_cases e : y % 2 = 1
  · obtain ⟨σ1, e1, h1⟩ := m_push d h (w := (A 3 1 + 2) % 65536) (by omega)
    rw [if_neg (nz (by omega) (by omega))]
    refine ⟨_, _, (c156_50 (d + 3) 4998 _ _ _ _).trans ?_, mq_pc h1 (v := aWd A (A 3 1)) (by omega), ?_, ?_⟩
    · rw [if_pos rfl, mv_pc h, show (2 : Int32) = nI 2 from rfl, nI_add, n_and65535 (by omega), e1, bnd0]
    · unfold aQC
      rw [if_pos e, aN2_n, nrm_v, a_at, aWd_n, nrm_v, aWd_m, aPu_n, nrm_pc hw, aPu_p, a_id]
    · rw [a_at]; omega
  · have e0 : y % 2 = 0 := by omega
    rw [e0, if_pos (show nI 0 = (0 : Int32) from rfl)]
    by_cases e6 : y = 6
    · obtain ⟨σ1, e1, h1⟩ := m_push d h (w := A 2 7 * 256 + aFg A) (by omega)
      subst e6
      have ev : 256 * A 2 7 + aFg A = A 2 7 * 256 + aFg A := by omega
      rw [if_pos (by decide), qf, bnd0]
      dsimp only
      rw [mv_A h, show (256 : Int32) = nI 256 from rfl, pk_mul, nI_add, ev, e1, bnd0]
      refine ⟨_, _, rfl, h1, ?_, ?_⟩
      · unfold aQC
        rw [if_neg (by decide), if_pos rfl, r7, aFg_n, aPu_n]
      · rw [aPu_pcv]; omega
    · obtain ⟨σ1, e1, h1⟩ := m_push d h (w := aPr A (y / 2)) (by omega)
      rw [if_neg (show ¬ nI y = (6 : Int32) from fun z => e6 ((nI_eq (by omega) (by omega)).mp z)), n_div2 (by omega), q, bnd0]
      dsimp only
      rw [e1, bnd0]
      refine ⟨_, _, rfl, h1, ?_, ?_⟩
      · unfold aQC
        rw [if_neg e, if_neg e6, aPr_n, aPu_n]
      · rw [aPu_pcv]; omega
/-- steps3: beside the class's branchOrStack, or (z = 6) its sum with the next byte -/
def aB3 (A : aS) (y z : Nat) : aS := if z = 6 then aCb (aNx A) y (A 0 (A 3 1 % 512)) else aBS A y z
theorem m_steps3 (h : CQ A σ) {y z : Nat} (hy : y < 8) (hz : z < 8) (hp : A 3 1 < 66000) : ∃ σ' B, x_M (d + 5) 158 [.ref 19, .int (nI y), .int (nI z)] σ = some (0, σ') ∧ CQ B σ' ∧ nrm B = aB3 (nrm A) y z ∧ B 3 1 < 66100 := by
  have b0 := h.2.1 (A 3 1 % 512) (by omega)
  have hw := aWd_lt h.2 (A 3 1)
  have hw0 := aWd_lt h.2 (A 3 0)
  have ho := aHo_lt A y
  have r0 : nrm A 3 0 = A 3 0 := nrm_r (by omega)
  rw [m158, mv_pc h, m_get (d + 3) h (by omega), bnd0]
  dsimp only
  rw [mv_pc h, m_word (d + 2) h (by omega), bnd0]
  dsimp only
  rw [m_holds (d + 3) h hy, bnd0]
  dsimp only
  have hz' : z = 0 ∨ z = 1 ∨ z = 2 ∨ z = 3 ∨ z = 4 ∨ z = 5 ∨ z = 6 ∨ z = 7 := by omega
  rcases hz' with rfl | rfl | rfl | rfl | rfl | rfl | rfl | rfl
  · rw [if_pos (show nI 0 = (0 : Int32) from rfl)]
    by_cases e : aHo A y = 0
    · rw [e, if_pos (show nI 0 = (0 : Int32) from rfl)]
      refine ⟨_, A, by rw [x_up_self], h, ?_, by omega⟩
      simp only [aB3, aBS, aHo_n, e, if_true, show ¬ (0 = 6) from by decide, if_false]
    · obtain ⟨σ1, e1, h1⟩ := m_pop (d + 1) h
      rw [if_neg (nz (by omega) e), e1, bnd0]
      refine ⟨_, _, rfl, mq_pc h1 (v := aWd A (A 3 0)) (by omega), ?_, ?_⟩
      · simp (disch := omega) only [aB3, aBS, aHo_n, e, show ¬ (0 = 6) from by decide, if_false, aP2_n, r0, aWd_n, nrm_pc]
      · rw [a_at]; omega
  · obtain ⟨σ1, e1, h1⟩ := m_pile1 d h (y := y) (v := aWd A (A 3 1)) hy hp
    rw [if_neg (by decide), if_pos (by decide), show nI 1 = (1 : Int32) from rfl, e1, bnd0]
    refine ⟨_, _, rfl, h1, ?_, ?_⟩
    · simp only [aB3, aBS, show ¬ (1 = 6) from by decide, if_false, aPO_n A h.2 hy]
    · have w1 := h1.2.2.2.2.1
      have hy' : y = 0 ∨ y = 1 ∨ y = 2 ∨ y = 3 ∨ y = 4 ∨ y = 5 ∨ y = 6 ∨ y = 7 := by omega
      have p2 := aPr_lt h.2 (p := 2) (by decide)
      rcases hy' with rfl | rfl | rfl | rfl | rfl | rfl | rfl | rfl
      · simp only [aPO, aSP_pcv, aP2_pcv]; omega
      · simp only [aPO, a_at]; omega
      · simp only [aPO, aSP_pcv, aP2_pcv]; omega
      · simp only [aPO, a_at]; omega
      · simp only [aPO, aSP_pcv, aP2_pcv]; omega
      · simp only [aPO, a_at]; omega
      · simp only [aPO, aSF_pcv]; rw [a_ne (by omega), aP2_pcv]; omega
      · simp only [aPO]; rw [a_ne (by omega)]; omega
  · rw [if_neg (by decide), if_neg (by decide), if_neg (by decide), if_pos (by decide)]
    by_cases e : aHo A y = 0
    · rw [e, if_pos (show nI 0 = (0 : Int32) from rfl), mv_pc h, show (2 : Int32) = nI 2 from rfl, nI_add]
      refine ⟨_, _, rfl, mq_pc h (v := A 3 1 + 2) (by omega), ?_, ?_⟩
      · simp only [aB3, aBS, aN2_n, aHo_n, aHo_p, e, if_true, show ¬ (2 = 6) from by decide, if_false]
      · rw [a_at]; omega
    · rw [if_neg (nz (by omega) e)]
      refine ⟨_, _, rfl, mq_pc h (v := aWd A (A 3 1)) (by omega), ?_, ?_⟩
      · simp only [aB3, aBS, aN2_n, aHo_n, aHo_p, e, show ¬ (2 = 6) from by decide, if_false, aWd_n, nrm_v, aWd_m]
        rw [nrm_pc hw, a_id]
      · rw [a_at]; omega
  · rw [if_neg (by decide), if_neg (by decide), if_neg (by decide), if_neg (by decide), if_pos (by decide)]
    by_cases g4 : 4 ≤ y
    · rw [if_pos (show (4 : Int32) ≤ nI y from (nI_leI (a := 4) (by decide) (by omega)).mpr g4), if_pos (by decide)]
      by_cases g6 : 6 ≤ y
      · rw [if_pos (show (6 : Int32) ≤ nI y from (nI_leI (a := 6) (by decide) (by omega)).mpr g6)]
        refine ⟨σ, A, (c158_158 (d + 4) 4998 _ _ _ _ _ _).trans ?_, h, ?_, by omega⟩
        · rw [if_neg (by decide), if_neg (by decide), if_neg (by decide)]
        · have hy67 : y = 6 ∨ y = 7 := by omega
          rcases hy67 with rfl | rfl
          · simp only [aB3, aBS, aGX, show ¬ (3 = 6) from by decide, if_false]
          · simp only [aB3, aBS, aGX, show ¬ (3 = 6) from by decide, if_false]
      · rw [if_neg (show ¬ (6 : Int32) ≤ nI y from fun z => g6 ((nI_leI (a := 6) (by decide) (by omega)).mp z))]
        obtain ⟨σ1, e1, h1⟩ := m_exch (d + 1) h (y := y) (by omega)
        rw [e1, bnd0]
        have hy45 : y = 4 ∨ y = 5 := by omega
        refine ⟨_, _, rfl, h1, ?_, ?_⟩
        · rcases hy45 with rfl | rfl
          · simp (disch := omega) only [aB3, aBS, aGX, show ¬ (3 = 6) from by decide, if_false, r0, aPr_n, aWd_n, nrm_up, aSP_n]
          · simp (disch := omega) only [aB3, aBS, aGX, show ¬ (3 = 6) from by decide, if_false, aPr_n, aSP_n]
        · rcases hy45 with rfl | rfl
          · simp only [aGX, aSP_pcv]; rw [a_ne (by omega), a_ne (by omega)]; omega
          · simp only [aGX, aSP_pcv]; omega
    · rw [if_neg (show ¬ (4 : Int32) ≤ nI y from fun z => g4 ((nI_leI (a := 4) (by decide) (by omega)).mp z))]
      by_cases g2 : 2 ≤ y
      · rw [if_pos (show (2 : Int32) ≤ nI y from (nI_leI (a := 2) (by decide) (by omega)).mpr g2), mv_pc h, show (1 : Int32) = nI 1 from rfl, nI_add]
        refine ⟨_, _, rfl, mq_pc h (v := A 3 1 + 1) (by omega), ?_, ?_⟩
        · have hy23 : y = 2 ∨ y = 3 := by omega
          rcases hy23 with rfl | rfl
          · simp only [aB3, aBS, aGX, show ¬ (3 = 6) from by decide, if_false, aNx_n]
          · simp only [aB3, aBS, aGX, show ¬ (3 = 6) from by decide, if_false, aNx_n]
        · rw [a_at]; omega
      · rw [if_neg (show ¬ (2 : Int32) ≤ nI y from fun z => g2 ((nI_leI (a := 2) (by decide) (by omega)).mp z))]
        refine ⟨_, _, rfl, mq_pc h (v := aWd A (A 3 1)) (by omega), ?_, ?_⟩
        · have hy01 : y = 0 ∨ y = 1 := by omega
          rcases hy01 with rfl | rfl
          · simp only [aB3, aBS, aGX, show ¬ (3 = 6) from by decide, if_false, aN2_n, aWd_n, nrm_v, aWd_m]
            rw [nrm_pc hw, a_id]
          · simp only [aB3, aBS, aGX, show ¬ (3 = 6) from by decide, if_false, aN2_n, aWd_n, nrm_v, aWd_m]
            rw [nrm_pc hw, a_id]
        · rw [a_at]; omega
  · rw [if_neg (by decide), if_neg (by decide), if_neg (by decide), if_neg (by decide), if_neg (by decide), if_neg (by decide)]
    by_cases e : aHo A y = 0
    · refine ⟨_, _, (c158_158 (d + 4) 4998 _ _ _ _ _ _).trans ?_, mq_pc h (v := A 3 1 + 2) (by omega), ?_, ?_⟩
      · rw [if_pos (by decide), e, if_pos (show nI 0 = (0 : Int32) from rfl), if_pos (show nI 0 = (0 : Int32) from rfl), mv_pc h, show (2 : Int32) = nI 2 from rfl, nI_add]
      · simp only [aB3, aBS, aN2_n, aHo_n, aHo_p, e, if_true, show ¬ (4 = 6) from by decide, if_false]
      · rw [a_at]; omega
    · obtain ⟨σ1, e1, h1⟩ := m_push (d + 1) h (w := (A 3 1 + 2) % 65536) (by omega)
      refine ⟨_, _, (c158_158 (d + 4) 4998 _ _ _ _ _ _).trans ?_, mq_pc h1 (v := aWd A (A 3 1)) (by omega), ?_, ?_⟩
      · rw [if_pos (by decide), if_neg (nz (by omega) e), mv_pc h, show (2 : Int32) = nI 2 from rfl, nI_add, n_and65535 (by omega), e1, bnd0, if_neg (nz (by omega) e)]
      · simp only [aB3, aBS, aN2_n, aHo_n, aHo_p, e, show ¬ (4 = 6) from by decide, if_false, aWd_n, nrm_v, aWd_m, a_at]
        rw [aPu_n, nrm_pc hw, aPu_p, a_id]
      · rw [a_at]; omega
  · obtain ⟨σ1, B, e1, h1, h2, h3⟩ := m_pile5 d h (y := y) hy hp
    rw [if_neg (by decide), if_neg (by decide), if_pos (by decide), show nI 5 = (5 : Int32) from rfl, e1, bnd0]
    refine ⟨_, B, rfl, h1, ?_, by omega⟩
    simp only [aB3, aBS, show ¬ (5 = 6) from by decide, if_false]
    exact h2
  · rw [if_neg (by decide), if_neg (by decide), if_neg (by decide), if_neg (by decide), if_neg (by decide), if_neg (by decide)]
    obtain ⟨σ1, e1, h1⟩ := m_reckons (d + 2) h (y := y) (v := A 0 (A 3 1 % 512)) hy b0
    refine ⟨_, _, (c158_158 (d + 4) 4998 _ _ _ _ _ _).trans ?_, mq_pc h1 (v := A 3 1 + 1) (by omega), ?_, ?_⟩
    · rw [if_neg (by decide), if_pos (by decide), e1, bnd0]
      dsimp only
      rw [mv_pc h1, aCb_pcv, show (1 : Int32) = nI 1 from rfl, nI_add]
    · have e : nrm A 0 (A 3 1 % 65536 % 512) = A 0 (A 3 1 % 512) := by
        rw [nrm_r (by omega)]
        exact congrArg (A 0) (by omega)
      simp only [aB3, if_true, nrm_v, e, aNx_n, aCb_n, aCb_p]
    · rw [a_at]; omega
  · rw [if_neg (by decide), if_neg (by decide), if_neg (by decide), if_neg (by decide), if_neg (by decide), if_neg (by decide)]
    obtain ⟨σ1, e1, h1⟩ := m_push (d + 1) h (w := A 3 1 % 65536) (by omega)
    refine ⟨_, _, (c158_158 (d + 4) 4998 _ _ _ _ _ _).trans ?_, mq_pc h1 (v := 8 * y) (by omega), ?_, ?_⟩
    · rw [if_neg (by decide), if_neg (by decide), if_pos (by decide), mv_pc h, n_and65535 (by omega), e1, bnd0, show (8 : Int32) = nI 8 from rfl, pk_mul]
    · simp only [aB3, aBS, show ¬ (7 = 6) from by decide, if_false, nrm_v]
      rw [aPu_n, nrm_pc (by omega)]
    · rw [a_at]; omega
end M7
