/-! The model's processor: turns, moves, an instruction; each against the class's numbers -/
section M5
variable {A : aS} {σ : xS} (d : Nat)
theorem n_rem2 {y : Nat} (hy : y < 2147483648) : nI y - nI y / 2 * 2 = nI (y % 2) := n_rem (d := 2) hy (by decide) (by decide)
theorem m_turnE {y v : Nat} (hy : y < 4) (n : Nat) : xr x_i151 d (n + 1) 109 [(0, .ref 19), (1, .int (nI y)), (2, .int (nI v))] [] σ = some (0, σ) := by
  rw [c151_109]
  simp (disch := omega) only [L0, L1, L2, L3, L4, L5, L6, L7, L8, L9, L10, L11, L13, L15, L16, L17, L18, L19, L20, L21, L22, L23, L26, L31, L32, L36, L40, L48, L62, L63, L64, L65, L67, L68, L69, L72, L73, L76, L79, L80, L82, L83, L84, L86, L87, L96, L118, L126, L128, L153, L229, L255, L256, L496, L511, L512, L1000, L65535, Lm1, N_and1, N_and7, N_and15, N_and31, N_and63, N_and255, N_and511, N_and65535, N_shr1, N_shr2, N_shr3, N_shr4, N_shr6, N_shr7, N_shr8, N_shr16, N_shl1, N_shl2, N_shl4, N_shl6, N_shl7, N_shl8, nI_add, pk_mul, n_sub, n_or8, n_or8', n_eq, n_lt, n_le, n_cl, n_div, Nat.reduceMod, if_neg, if_pos, bnd0, x_up_self]
theorem m_turn4 (h : CQ A σ) {y b : Nat} (hy : y < 4) (hb : b < 2) (n : Nat) : ∃ σ', xr x_i151 d (n + 2) 55 [(0, .ref 19), (1, .int (nI y)), (2, .int (nI (A 2 7))), (3, .int (nI (A 2 7 / 128))), (4, .int (nI (A 2 7 % 2)))] [.int (nI b)] σ = some (0, σ') ∧ CQ (if y % 2 = 0 then aTL A b else aTR A b) σ' := by
  have ha := h.2.2.1 7 (by decide)
  rw [c151_55, n_rem2 (by omega)]
  by_cases e : y % 2 = 0
  · rw [e, if_pos (show nI 0 = (0 : Int32) from rfl), if_pos (show nI 0 = (0 : Int32) from rfl), if_pos rfl, m_turnE d hy]
    refine ⟨_, rfl, ?_⟩
    have e1 : 2 * A 2 7 - 2 * A 2 7 / 256 * 256 + b = A 2 7 * 2 % 256 + b := by omega
    simp (disch := omega) only [L0, L1, L2, L3, L4, L5, L6, L7, L8, L9, L10, L11, L13, L15, L16, L17, L18, L19, L20, L21, L22, L23, L26, L31, L32, L36, L40, L48, L62, L63, L64, L65, L67, L68, L69, L72, L73, L76, L79, L80, L82, L83, L84, L86, L87, L96, L118, L126, L128, L153, L229, L255, L256, L496, L511, L512, L1000, L65535, Lm1, N_and1, N_and7, N_and15, N_and31, N_and63, N_and255, N_and511, N_and65535, N_shr1, N_shr2, N_shr3, N_shr4, N_shr6, N_shr7, N_shr8, N_shr16, N_shl1, N_shl2, N_shl4, N_shl6, N_shl7, N_shl8, nI_add, pk_mul, n_sub, n_or8, n_or8', n_eq, n_lt, n_le, n_cl, n_div, Nat.reduceMod, e1]
    refine mq_ca (mq_reg h ?_ ?_) ?_ <;> omega
  · rw [if_neg (nz (by omega) e), if_neg (nz (by omega) e), if_neg e, m_turnE d hy]
    refine ⟨_, rfl, ?_⟩
    have e1 : A 2 7 / 2 + 128 * b = b * 128 + A 2 7 / 2 := by omega
    simp (disch := omega) only [L0, L1, L2, L3, L4, L5, L6, L7, L8, L9, L10, L11, L13, L15, L16, L17, L18, L19, L20, L21, L22, L23, L26, L31, L32, L36, L40, L48, L62, L63, L64, L65, L67, L68, L69, L72, L73, L76, L79, L80, L82, L83, L84, L86, L87, L96, L118, L126, L128, L153, L229, L255, L256, L496, L511, L512, L1000, L65535, Lm1, N_and1, N_and7, N_and15, N_and31, N_and63, N_and255, N_and511, N_and65535, N_shr1, N_shr2, N_shr3, N_shr4, N_shr6, N_shr7, N_shr8, N_shr16, N_shl1, N_shl2, N_shl4, N_shl6, N_shl7, N_shl8, nI_add, pk_mul, n_sub, n_or8, n_or8', n_eq, n_lt, n_le, n_cl, n_div, Nat.reduceMod, e1]
    refine mq_ca (mq_reg h ?_ ?_) ?_ <;> omega
theorem m_turns (h : CQ A σ) {y : Nat} (hy : y < 8) : ∃ σ', x_M (d + 3) 151 [.ref 19, .int (nI y)] σ = some (0, σ') ∧ CQ (aCA A y) σ' := by
  have ha := h.2.2.1 7 (by decide)
  have hc := h.2.2.2.2.2 6 (by decide) (by decide)
  have t7 : nI (A 2 7) >>> ((7 : Int32) &&& 31) = nI (A 2 7 / 128) := n_shr7 (by omega)
  have t1 : nI (A 2 7) &&& 1 = nI (A 2 7 % 2) := n_and1 (by omega)
  have hy' : y = 0 ∨ y = 1 ∨ y = 2 ∨ y = 3 ∨ y = 4 ∨ y = 5 ∨ y = 6 ∨ y = 7 := by omega
  rw [m151]
  rcases hy' with rfl | rfl | rfl | rfl | rfl | rfl | rfl | rfl
  · rw [if_neg (by decide), if_neg (by decide), if_pos (by decide), mv_A h, t7, t1]
    exact m_turn4 (d + 2) h (y := 0) (by decide) (b := A 2 7 / 128) (by omega) 4997
  · rw [if_neg (by decide), if_neg (by decide), if_neg (by decide), if_pos (by decide), mv_A h, t7, t1]
    exact m_turn4 (d + 2) h (y := 1) (by decide) (b := A 2 7 % 2) (by omega) 4997
  · rw [if_neg (by decide), if_neg (by decide), if_neg (by decide), if_neg (by decide), mv_A h, t7, t1, mv_ca h]
    exact m_turn4 (d + 2) h (y := 2) (by decide) (b := A 3 6) (by omega) 4997
  · rw [if_neg (by decide), if_neg (by decide), if_neg (by decide), if_neg (by decide), mv_A h, t7, t1, mv_ca h]
    exact m_turn4 (d + 2) h (y := 3) (by decide) (b := A 3 6) (by omega) 4997
  · obtain ⟨σ1, e1, h1⟩ := m_adjusts d h
    rw [if_pos (by decide), e1, bnd0]
    exact ⟨_, rfl, h1⟩
  · rw [if_neg (by decide), if_pos (by decide), mv_A h]
    refine ⟨_, (c151_109 (d + 2) 4998 _ _ _).trans ?_, mq_reg h (i := 7) (v := 255 - A 2 7) (by decide) (by omega)⟩
    rw [if_pos (by decide), if_neg (by decide), if_neg (by decide), show (255 : Int32) - nI (A 2 7) = nI (255 - A 2 7) from n_sub (a := 255) (by omega), x_up_self]
  · rw [if_neg (by decide), if_pos (by decide), mv_A h]
    refine ⟨_, (c151_109 (d + 2) 4998 _ _ _).trans ?_, mq_ca h (v := 1) (by decide)⟩
    rw [if_neg (by decide), if_pos (by decide), x_up_self]
    rfl
  · rw [if_neg (by decide), if_pos (by decide), mv_A h]
    refine ⟨_, (c151_109 (d + 2) 4998 _ _ _).trans ?_, mq_ca h (v := 1 - A 3 6) (by omega)⟩
    rw [if_neg (by decide), if_neg (by decide), if_pos (by decide), x_up_self, mv_ca h, show (1 : Int32) - nI (A 3 6) = nI (1 - A 3 6) from n_sub (a := 1) (by omega)]
/-- behind a move: the two bytes of a word are passed -/
theorem m_movE (h : CQ A σ) {y : Nat} (hy : y < 8) (hp : A 3 1 < 69990) (n : Nat) : ∃ σ', xr x_i145 d (n + 1) 101 [(0, .ref 19), (1, .int (nI y))] [] σ = some (0, σ') ∧ CQ (a_up A 3 1 (A 3 1 + (if y ≤ 3 then 0 else 2))) σ' := by
  rw [c145_101, mv_pc h]
  by_cases e : y ≤ 3
  · simp (disch := omega) only [L0, L1, L2, L3, L4, L5, L6, L7, L8, L9, L10, L11, L13, L15, L16, L17, L18, L19, L20, L21, L22, L23, L26, L31, L32, L36, L40, L48, L62, L63, L64, L65, L67, L68, L69, L72, L73, L76, L79, L80, L82, L83, L84, L86, L87, L96, L118, L126, L128, L153, L229, L255, L256, L496, L511, L512, L1000, L65535, Lm1, N_and1, N_and7, N_and15, N_and31, N_and63, N_and255, N_and511, N_and65535, N_shr1, N_shr2, N_shr3, N_shr4, N_shr6, N_shr7, N_shr8, N_shr16, N_shl1, N_shl2, N_shl4, N_shl6, N_shl7, N_shl8, nI_add, pk_mul, n_sub, n_or8, n_or8', n_eq, n_lt, n_le, n_cl, n_div, Nat.reduceMod, if_neg, if_pos, bnd0]
    exact ⟨_, rfl, mq_pc h (by omega)⟩
  · simp (disch := omega) only [L0, L1, L2, L3, L4, L5, L6, L7, L8, L9, L10, L11, L13, L15, L16, L17, L18, L19, L20, L21, L22, L23, L26, L31, L32, L36, L40, L48, L62, L63, L64, L65, L67, L68, L69, L72, L73, L76, L79, L80, L82, L83, L84, L86, L87, L96, L118, L126, L128, L153, L229, L255, L256, L496, L511, L512, L1000, L65535, Lm1, N_and1, N_and7, N_and15, N_and31, N_and63, N_and255, N_and511, N_and65535, N_shr1, N_shr2, N_shr3, N_shr4, N_shr6, N_shr7, N_shr8, N_shr16, N_shl1, N_shl2, N_shl4, N_shl6, N_shl7, N_shl8, nI_add, pk_mul, n_sub, n_or8, n_or8', n_eq, n_lt, n_le, n_cl, n_div, Nat.reduceMod, if_neg, if_pos, bnd0]
    exact ⟨_, rfl, mq_pc h (by omega)⟩
theorem m_moves (h : CQ A σ) {y : Nat} (hy : y < 8) (hp : A 3 1 < 66000) : ∃ σ' B, x_M (d + 3) 145 [.ref 19, .int (nI y), .int (nI (aWd A (A 3 1)))] σ = some (0, σ') ∧ CQ B σ' ∧ nrm B = aMA (nrm A) y ∧ B 3 1 < 66010 := by
  have ha := h.2.2.1 7 (by decide)
  have hw := aWd_lt h.2 (A 3 1)
  have p0 := aPr_lt h.2 (p := 0) (by decide)
  have p1 := aPr_lt h.2 (p := 1) (by decide)
  have p2 := aPr_lt h.2 (p := 2) (by decide)
  have q0 := m_pair (d + 1) h (p := 0) (by decide)
  have q1 := m_pair (d + 1) h (p := 1) (by decide)
  have q2 := m_pair (d + 1) h (p := 2) (by decide)
  have r7 : nrm A 2 7 = A 2 7 := nrm_r (by omega)
  have hy' : y = 0 ∨ y = 1 ∨ y = 2 ∨ y = 3 ∨ y = 4 ∨ y = 5 ∨ y = 6 ∨ y = 7 := by omega
  rw [m145]
  rcases hy' with rfl | rfl | rfl | rfl | rfl | rfl | rfl | rfl
  · obtain ⟨σ1, e1, h1⟩ := m_put (d + 1) h (a := aPr A 0) (v := A 2 7) (by omega) (by omega)
    obtain ⟨σ2, e2, h2⟩ := m_movE (d + 2) h1 (y := 0) (by decide) (by rw [a_ne (by omega)]; omega) 4997
    refine ⟨σ2, _, ?_, h2, ?_, ?_⟩
    · rw [if_neg (by decide), show (0 : Int32) = nI 0 from rfl, q0, bnd0]
      dsimp only
      refine (c145_27 (d + 2) 4998 _ _ _ _).trans ?_
      rw [if_neg (by decide), if_neg (by decide), n_rem2 (by decide), if_pos (by decide), mv_A h, e1, bnd0]
      exact e2
    · rw [if_pos (by decide), Nat.add_zero, a_self _ rfl]
      simp (disch := omega) only [aMA, aPr_n, r7, nrm_up]
    · rw [if_pos (by decide), a_at, a_ne (by omega)]; omega
  · have b := h.2.1 (aPr A 0 % 512) (by omega)
    have g := m_get (d + 1) h (a := aPr A 0) (by omega)
    obtain ⟨σ2, e2, h2⟩ := m_movE (d + 2) (mq_reg h (i := 7) (v := A 0 (aPr A 0 % 512)) (by decide) b) (y := 1) (by decide) (by rw [a_ne (by omega)]; omega) 4997
    refine ⟨σ2, _, ?_, h2, ?_, ?_⟩
    · rw [if_neg (by decide), show (0 : Int32) = nI 0 from rfl, q0, bnd0]
      dsimp only
      refine (c145_27 (d + 2) 4998 _ _ _ _).trans ?_
      rw [if_neg (by decide), if_neg (by decide), n_rem2 (by decide), if_neg (by decide), g, bnd0]
      exact e2
    · rw [if_pos (by decide), Nat.add_zero, a_self _ rfl]
      simp (disch := omega) only [aMA, aPr_n, nrm_r, nrm_up]
    · rw [if_pos (by decide), a_at, a_ne (by omega)]; omega
  · obtain ⟨σ1, e1, h1⟩ := m_put (d + 1) h (a := aPr A 1) (v := A 2 7) (by omega) (by omega)
    obtain ⟨σ2, e2, h2⟩ := m_movE (d + 2) h1 (y := 2) (by decide) (by rw [a_ne (by omega)]; omega) 4997
    refine ⟨σ2, _, ?_, h2, ?_, ?_⟩
    · rw [if_pos (by decide), if_neg (by decide), show (1 : Int32) = nI 1 from rfl, q1, bnd0]
      dsimp only
      refine (c145_27 (d + 2) 4998 _ _ _ _).trans ?_
      rw [if_neg (by decide), if_neg (by decide), n_rem2 (by decide), if_pos (by decide), mv_A h, e1, bnd0]
      exact e2
    · rw [if_pos (by decide), Nat.add_zero, a_self _ rfl]
      simp (disch := omega) only [aMA, aPr_n, r7, nrm_up]
    · rw [if_pos (by decide), a_at, a_ne (by omega)]; omega
  · have b := h.2.1 (aPr A 1 % 512) (by omega)
    have g := m_get (d + 1) h (a := aPr A 1) (by omega)
    obtain ⟨σ2, e2, h2⟩ := m_movE (d + 2) (mq_reg h (i := 7) (v := A 0 (aPr A 1 % 512)) (by decide) b) (y := 3) (by decide) (by rw [a_ne (by omega)]; omega) 4997
    refine ⟨σ2, _, ?_, h2, ?_, ?_⟩
    · rw [if_pos (by decide), if_neg (by decide), show (1 : Int32) = nI 1 from rfl, q1, bnd0]
      dsimp only
      refine (c145_27 (d + 2) 4998 _ _ _ _).trans ?_
      rw [if_neg (by decide), if_neg (by decide), show nI 3 - nI 3 / 2 * 2 = nI 1 from by decide, if_neg (by decide), g, bnd0]
      exact e2
    · rw [if_pos (by decide), Nat.add_zero, a_self _ rfl]
      simp (disch := omega) only [aMA, aPr_n, nrm_r, nrm_up]
    · rw [if_pos (by decide), a_at, a_ne (by omega)]; omega
  · obtain ⟨σ1, e1, h1⟩ := m_putWord d h (a := aWd A (A 3 1)) (v := aPr A 2) (by omega) (by omega)
    obtain ⟨σ2, e2, h2⟩ := m_movE (d + 2) h1 (y := 4) (by decide) (by rw [a_ne (by omega), a_ne (by omega)]; omega) 4997
    refine ⟨σ2, _, ?_, h2, ?_, ?_⟩
    · rw [if_pos (by decide), if_pos (by decide)]
      refine (c145_27 (d + 2) 4998 _ _ _ _).trans ?_
      rw [if_pos (by decide), show (2 : Int32) = nI 2 from rfl, q2, bnd0]
      dsimp only
      rw [e1, bnd0]
      exact e2
    · rw [if_neg (by decide), a_ne (by omega), a_ne (by omega)]
      simp (disch := omega) only [aMA, aPr_n, aN2_n, aWd_n, nrm_v, aWd_m, nrm_up]
      rw [a_cm _ (by omega), a_cm A (by omega)]
      simp only [aPr, a_up]
      simp
    · rw [if_neg (by decide), a_at, a_ne (by omega), a_ne (by omega)]; omega
  · have g := m_word d h (a := aWd A (A 3 1)) (by omega)
    have b2 := aWd_lt h.2 (aWd A (A 3 1))
    obtain ⟨σ1, e1, h1⟩ := m_setPair (d + 1) h (p := 2) (w := aWd A (aWd A (A 3 1))) (by decide) (by omega)
    have hpc : aSP A 2 (aWd A (aWd A (A 3 1))) 3 1 = A 3 1 := by
      unfold aSP
      rw [if_neg (by decide), a_ne (by omega), a_ne (by omega)]
    obtain ⟨σ2, e2, h2⟩ := m_movE (d + 2) h1 (y := 5) (by decide) (by omega) 4997
    refine ⟨σ2, _, ?_, h2, ?_, ?_⟩
    · rw [if_pos (by decide), if_pos (by decide)]
      refine (c145_27 (d + 2) 4998 _ _ _ _).trans ?_
      rw [if_neg (by decide), if_pos (by decide), g, bnd0]
      dsimp only
      rw [show (2 : Int32) = nI 2 from rfl, e1, bnd0]
      exact e2
    · rw [if_neg (by decide), hpc]
      have ew : aWd (a_up A 3 1 (A 3 1 + 2)) (aWd A (A 3 1)) = aWd A (aWd A (A 3 1)) := by
        simp only [aWd, a_up]
        simp
      simp only [aMA, aN2_n, aWd_n, nrm_v, aWd_m, aSP_n, ew]
      unfold aSP
      rw [if_neg (by decide), if_neg (by decide), a_cm _ (by omega), a_cm A (by omega)]
    · rw [if_neg (by decide), a_at, hpc]; omega
  · obtain ⟨σ1, e1, h1⟩ := m_put (d + 1) h (a := aWd A (A 3 1)) (v := A 2 7) (by omega) (by omega)
    obtain ⟨σ2, e2, h2⟩ := m_movE (d + 2) h1 (y := 6) (by decide) (by rw [a_ne (by omega)]; omega) 4997
    refine ⟨σ2, _, ?_, h2, ?_, ?_⟩
    · rw [if_pos (by decide), if_pos (by decide)]
      refine (c145_27 (d + 2) 4998 _ _ _ _).trans ?_
      rw [if_neg (by decide), if_neg (by decide), show nI 6 - nI 6 / 2 * 2 = nI 0 from by decide, if_pos (by decide), mv_A h, e1, bnd0]
      exact e2
    · rw [if_neg (by decide), a_ne (by omega)]
      have e7 : nrm (a_up A 3 1 (A 3 1 + 2)) 2 7 = A 2 7 := by rw [nrm_r (by omega), a_ne (by omega)]
      simp (disch := omega) only [aMA, aN2_n, aWd_n, nrm_v, aWd_m, e7, nrm_up]
      rw [a_cm A (by omega)]
    · rw [if_neg (by decide), a_at, a_ne (by omega)]; omega
  · have b := h.2.1 (aWd A (A 3 1) % 512) (by omega)
    have g := m_get (d + 1) h (a := aWd A (A 3 1)) (by omega)
    obtain ⟨σ2, e2, h2⟩ := m_movE (d + 2) (mq_reg h (i := 7) (v := A 0 (aWd A (A 3 1) % 512)) (by decide) b) (y := 7) (by decide) (by rw [a_ne (by omega)]; omega) 4997
    refine ⟨σ2, _, ?_, h2, ?_, ?_⟩
    · rw [if_pos (by decide), if_pos (by decide)]
      refine (c145_27 (d + 2) 4998 _ _ _ _).trans ?_
      rw [if_neg (by decide), if_neg (by decide), show nI 7 - nI 7 / 2 * 2 = nI 1 from by decide, if_neg (by decide), g, bnd0]
      exact e2
    · rw [if_neg (by decide), a_ne (by omega)]
      have e7 : ∀ i, nrm (a_up A 3 1 (A 3 1 + 2)) 0 i = A 0 i := fun i => by rw [nrm_r (by omega), a_ne (by omega)]
      simp (disch := omega) only [aMA, aN2_n, aWd_n, nrm_v, aWd_m, e7, nrm_up]
      rw [a_cm A (by omega)]
    · rw [if_neg (by decide), a_at, a_ne (by omega)]; omega
end M5
