/-! A program's step, calls of the system among them -/
section P2
variable {A : aS} {σ τ : xS} (d : Nat)
/-- after the answer r: into register A, back to the caller -/
theorem back_ok {R : aS} (s : XC R σ) (t : XM R τ) (kr : KR R) (lr : LR R) {r : Nat} (hr : r < 256) (h7 : R 7 4 = 1) : ∃ B σ' τ', ((x_M (d + 7) 70 [.ref 3] (x_up σ 4 7 (nI r))).bind fun r3 => some ((0 : Int32), x_up r3.2 3 3 r3.1)) = some ((0 : Int32), σ') ∧ ((x_M (d + 8) 142 [.ref 19] (x_up (x_up τ 19 12 (1 : Int32)) 22 7 (nI r))).bind fun r3 => some ((1 : Int32), x_up r3.2 19 5 r3.1)) = some ((1 : Int32), τ') ∧ XC B σ' ∧ XM B τ' ∧ KR B ∧ LR B ∧ B 3 1 < 65536 ∧ (B 7 3 = R 7 3 ∧ B 7 5 = R 7 5) ∧ B 16 0 = R 16 0 ∧ (B 16 2 = R 16 2 ∧ B 16 4 = R 16 4) ∧ B 4 0 = R 4 0 ∧ B 7 4 = 1 ∧ B 16 3 = 1 := by
  have t1 : XM (aMo R 1) (x_up τ 19 12 (nI 1)) := mo_M t (by decide)
  have e1 : aMo R 1 = a_up R 16 3 1 := by
    unfold aMo
    rw [a_self _ (by rw [a_ne (by omega), h7])]
  have s1 : XC (aMo R 1) σ := by
    rw [e1]
    exact xc_oth s rfl (show 1 < 3 by decide)
  have kr1 := mo_KR kr 1
  have lr1 := mo_LR lr 1
  have z3 : aMo R 1 7 3 = R 7 3 := mo_r (by omega) (by omega)
  have z35 : aMo R 1 7 5 = R 7 5 := mo_r (by omega) (by omega)
  have z24 : aMo R 1 16 4 = R 16 4 := mo_r (by omega) (by omega)
  have z0 : aMo R 1 16 0 = R 16 0 := mo_r (by omega) (by omega)
  have z2 : aMo R 1 16 2 = R 16 2 := mo_r (by omega) (by omega)
  have z4 : aMo R 1 4 0 = R 4 0 := mo_r (by omega) (by omega)
  have z74 : aMo R 1 7 4 = 1 := mo_7 R 1
  have z163 : aMo R 1 16 3 = 1 := mo_16 R 1
  generalize aMo R 1 = B at t1 s1 kr1 lr1 z3 z35 z24 z0 z2 z4 z74 z163 e1
  have s2 : XC (a_up B 2 7 r) (x_up σ 4 7 (nI r)) := xc_up s1 2 7 (by decide) hr
  have t2 : XM (a_up B 2 7 r) (x_up (x_up τ 19 12 (nI 1)) 22 7 (nI r)) := xm_up t1 2 7 (by decide) hr
  have q := c_popX (d + 5) s2
  have p := y_popX (d + 5) t2
  have hw := aWd_lt (wx_wq s2.2) (a_up B 2 7 r 3 0)
  generalize hC : a_up B 2 7 r = C at s2 t2 q p hw
  have s3 : XC (a_up C 3 0 ((C 3 0 + 2) % 65536)) (x_up (x_up σ 4 7 (nI r)) 3 2 (nI ((C 3 0 + 2) % 65536))) := xc_up s2 3 0 (by decide) (show (C 3 0 + 2) % 65536 < 65536 by omega)
  have t3 : XM (a_up C 3 0 ((C 3 0 + 2) % 65536)) (x_up (x_up (x_up τ 19 12 (nI 1)) 22 7 (nI r)) 19 4 (nI ((C 3 0 + 2) % 65536))) := xm_up t2 3 0 (by decide) (show (C 3 0 + 2) % 65536 < 65536 by omega)
  have s4 : XC (a_up (a_up C 3 0 ((C 3 0 + 2) % 65536)) 3 1 (aWd C (C 3 0))) (x_up (x_up (x_up σ 4 7 (nI r)) 3 2 (nI ((C 3 0 + 2) % 65536))) 3 3 (nI (aWd C (C 3 0)))) := xc_up s3 3 1 (by decide) (show aWd C (C 3 0) < 70000 by omega)
  have t4 : XM (a_up (a_up C 3 0 ((C 3 0 + 2) % 65536)) 3 1 (aWd C (C 3 0))) (x_up (x_up (x_up (x_up τ 19 12 (nI 1)) 22 7 (nI r)) 19 4 (nI ((C 3 0 + 2) % 65536))) 19 5 (nI (aWd C (C 3 0)))) := xm_up t3 3 1 (by decide) (show aWd C (C 3 0) < 70000 by omega)
  have row : ∀ {o : Nat}, ¬ o = 2 → ¬ o = 3 → a_up (a_up C 3 0 ((C 3 0 + 2) % 65536)) 3 1 (aWd C (C 3 0)) o = B o := fun h2 h3 => by rw [a_row h3, a_row h3, ← hC, a_row h2]
  refine ⟨_, _, _, ?_, ?_, s4, t4, ?_, ?_, by rw [a_at]; omega, ⟨by rw [row (by decide) (by decide)]; exact z3, by rw [row (by decide) (by decide)]; exact z35⟩, by rw [row (by decide) (by decide)]; exact z0, ⟨by rw [row (by decide) (by decide)]; exact z2, by rw [row (by decide) (by decide)]; exact z24⟩, by rw [row (by decide) (by decide)]; exact z4, by rw [row (by decide) (by decide)]; exact z74, by rw [row (by decide) (by decide)]; exact z163⟩
  · rw [q, bnd0]
  · rw [show (1 : Int32) = nI 1 from rfl, p, bnd0]
  · intro i hi
    rw [row (by decide) (by decide)] at hi
    rw [row (o := 10) (by decide) (by decide), row (o := 9) (by decide) (by decide), row (o := 7) (by decide) (by decide)]
    exact kr1 i hi
  · unfold LR
    rw [row (o := 16) (by decide) (by decide), row (o := 7) (by decide) (by decide)]
    exact lr1
theorem call_ok (h : XC A σ) (k : XM A τ) (j : J A) (hc : ¬ A 2 1 = 0) (h1 : A 2 1 = 1 → 0 < A 4 2) (ht : A 4 0 + 200 < 2147483648) : ∃ B σ' τ', x_M (d + 8) 93 [.ref 0] σ = some (0, σ') ∧ x_M (d + 9) 143 [.ref 19] τ = some (1, τ') ∧ XC B σ' ∧ XM B τ' ∧ KR B ∧ LR B ∧ B 3 1 < 65536 ∧ (B 7 3 = A 7 3 ∧ B 7 5 = A 7 5) ∧ B 16 0 = A 16 0 ∧ (B 16 2 = A 16 2 ∧ B 16 4 = A 16 4) ∧ B 4 0 ≤ A 4 0 + 64 ∧ B 7 4 = 1 ∧ B 16 3 = 1 := by
  obtain ⟨kr, lr, -, -, -⟩ := j
  have hcc : A 2 1 < 256 := h.2 2 1 (by decide)
  have r1 : σ 4 1 = nI (A 2 1) := (xc_cp h).1.2.1 1 (by decide)
  have r2 : τ 22 1 = nI (A 2 1) := (xm_cq k).1.2.1 1 (by decide)
  have h0 : XC (a_up A 7 4 1) (x_up σ 0 7 (nI 1)) := xc_up h 7 4 (by decide) (show 1 < 3 by decide)
  have k0 : XM (a_up A 7 4 1) τ := xm_oth k rfl (show 1 < 3 by decide)
  have kr0 : KR (a_up A 7 4 1) := fun i hi => by
    rw [a_row (by decide)] at hi
    rw [a_row (by decide), a_row (o := 7) (a := 9) (by decide), a_ne (by omega)]
    exact kr i hi
  have lr0 : LR (a_up A 7 4 1) := by
    unfold LR
    rw [a_row (a := 16) (by decide), a_ne (by omega)]
    exact lr
  have e2 : a_up A 7 4 1 2 1 = A 2 1 := a_ne (by omega)
  have e4 : a_up A 7 4 1 4 2 = A 4 2 := a_ne (by omega)
  have e43 : a_up A 7 4 1 4 0 = A 4 0 := a_ne (by omega)
  have e73 : a_up A 7 4 1 7 3 = A 7 3 := a_ne (by omega)
  have e75 : a_up A 7 4 1 7 5 = A 7 5 := a_ne (by omega)
  have e164 : a_up A 7 4 1 16 4 = A 16 4 := a_ne (by omega)
  have e74 : a_up A 7 4 1 7 4 = 1 := a_at _ _ _ _
  have e160 : a_up A 7 4 1 16 0 = A 16 0 := a_ne (by omega)
  have e162 : a_up A 7 4 1 16 2 = A 16 2 := a_ne (by omega)
  generalize a_up A 7 4 1 = A1 at h0 k0 kr0 lr0 e2 e4 e43 e73 e74 e160 e162 e75 e164
  obtain ⟨r, R, σ1, τ1, hr, q1, p1, s1, t1, k1, l1, ka⟩ := ans_ok (d + 2) h0 k0 kr0 lr0 hcc (fun e => by rw [e4]; exact h1 e) (by rw [e43]; omega)
  obtain ⟨B, σ2, τ2, q2, p2, s2, t2, k2, l2, b31, b73, b160, b162, b43, b74, b163⟩ := back_ok d s1 t1 k1 l1 hr (by rw [ka.2.2.2.1, e74])
  refine ⟨B, σ2, τ2, ?_, ?_, s2, t2, k2, l2, b31, ⟨by rw [b73.1, ka.2.2.1.1, e73], by rw [b73.2, ka.2.2.1.2, e75]⟩, by rw [b160, ka.2.2.2.2.1 0 (by decide), e160], ⟨by rw [b162.1, ka.2.2.2.2.1 2 (by decide), e162], by rw [b162.2, ka.2.2.2.2.1 4 (by decide), e164]⟩, by rw [b43, ← e43]; exact ka.2.2.2.2.2, b74, b163⟩
  · have qp := c_pair2 (d + 6) (xc_cp h0) (p := 1) (by decide)
    rw [m93, r1, if_neg (by exact nz (by omega) hc), show (1 : Int32) = nI 1 from rfl, qp, bnd0]
    dsimp only
    by_cases g : 15 ≤ A 2 1 ∧ A 2 1 ≤ 23
    · rw [if_pos g] at q1
      rw [if_neg (by intro z; have := (nI_ltI (b := 15) (by omega) (by omega)).mp z; omega), if_neg (by intro z; have := (nI_ltI (a := 23) (by omega) (by omega)).mp z; omega), if_neg (by decide), q1, bnd0]
      exact q2
    · rw [if_neg g] at q1
      by_cases g1 : A 2 1 < 15
      · rw [if_pos (by exact (nI_ltI (b := 15) (by omega) (by omega)).mpr g1), if_pos rfl, q1, bnd0]
        exact q2
      · rw [if_neg (by intro z; exact g1 ((nI_ltI (b := 15) (by omega) (by omega)).mp z)), if_pos (by exact (nI_ltI (a := 23) (by omega) (by omega)).mpr (by omega)), if_pos rfl, q1, bnd0]
        exact q2
  · have pp : x_M (d + 8) 134 [.ref 19, .int (1 : Int32)] τ = some (nI (aPr A1 1), τ) := m_pair (d + 7) (xm_cq k0) (p := 1) (by decide)
    rw [m143, r2, if_neg (by exact nz (by omega) hc), pp, bnd0]
    dsimp only
    have p1 : x_M (d + 8) 140 [.ref 19, .int (nI (A 2 1)), .int (nI (aPr A1 1))] τ = some (nI r, τ1) := p1
    rw [p1, bnd0]
    dsimp only
    rw [if_neg (by exact n_m1 (by omega)), if_neg (by exact n_m1 (by omega))]
    exact p2
/-- a step of a program: both go on, or both wait -/
theorem prog_ok (h : XC A σ) (k : XM A τ) (j : J A) (hm : ¬ A 7 4 = 0) (ht : A 4 0 + 200 < 2147483648) : ∃ b R σ' τ', x_M (d + 9) 94 [.ref 0] σ = some (nI (bN b), σ') ∧ x_M (d + 10) 160 [.ref 19] τ = some (nI (bN b), τ') ∧ XC R σ' ∧ XM R τ' ∧ St A R := by
  have hm3 : A 7 4 < 3 := h.2 7 4 (by decide)
  by_cases h5 : A 3 1 = 5
  · have j' := j
    obtain ⟨kr, lr, jm, jp, jw⟩ := j'
    have hcc : A 2 1 < 256 := h.2 2 1 (by decide)
    have hcn := x_cnt_lt h.2
    have r1 : σ 4 1 = nI (A 2 1) := (xc_cp h).1.2.1 1 (by decide)
    have r2 : τ 22 1 = nI (A 2 1) := (xm_cq k).1.2.1 1 (by decide)
    have i5 : σ 3 3 = (5 : Int32) := by rw [cv_pc (xc_cp h), h5]; rfl
    have i5' : τ 19 5 = (5 : Int32) := by rw [mv_pc (xm_cq k), h5]; rfl
    have ns : ¬ τ 19 12 = 0 := by
      rw [yv_mod k, ← jm]
      exact nz (by omega) hm
    have so : ∀ m, St A (aMo A m) := fun m => ⟨mo_J kr lr jp (fun _ => h5), ⟨mo_r (by omega) (by omega), mo_r (by omega) (by omega)⟩, mo_r (by omega) (by omega), ⟨mo_r (by omega) (by omega), mo_r (by omega) (by omega)⟩, by rw [mo_r (by omega) (by omega)]; omega⟩
    rw [m94, if_pos i5, m160, if_neg ns, if_pos i5']
    by_cases c0 : A 2 1 = 0
    · refine ⟨true, aMo A 0, x_up σ 0 7 (nI 0), x_up (x_up τ 19 12 (nI 0)) 19 12 (nI 0), ?_, ?_, mo_C h (by decide), ?_, so 0⟩
      · rw [r1, c0, if_neg (by decide), m93, r1, c0, if_pos (by decide), bnd0]
        dsimp only
        rw [if_neg (by rw [x_up_oth (by decide), i5]; decide)]
        rfl
      · rw [m143, r2, c0, if_pos (by decide), bnd0]
        dsimp only
        rw [if_neg (by decide), if_neg (by rw [x_up_off (by decide), i5']; decide), x_up_at]
        rfl
      · have := mo_M (mo_M k (m := 0) (by decide)) (m := 0) (by decide)
        rw [mo_mo] at this
        exact this
    · by_cases cw : A 2 1 = 1 ∧ A 4 2 = 0
      · refine ⟨false, aMo A 2, x_up σ 0 7 (nI 2), x_up τ 19 12 (nI 2), ?_, ?_, mo_C h (by decide), mo_M k (by decide), so 2⟩
        · rw [r1, cw.1, if_pos (by decide), m5, xv_cnt h, cw.2, if_pos (by decide), bnd0]
          dsimp only
          rw [if_neg (by decide)]
          rfl
        · have pp : x_M (d + 8) 134 [.ref 19, .int (1 : Int32)] τ = some (nI (aPr A 1), τ) := m_pair (d + 7) (xm_cq k) (p := 1) (by decide)
          rw [m143, r2, cw.1, if_neg (by decide), pp, bnd0]
          dsimp only
          rw [m140, if_pos (by decide), yv_cnt k, cw.2, if_pos (by decide), bnd0]
          dsimp only
          rw [if_pos rfl, if_pos rfl, bnd0]
          rfl
      · obtain ⟨B, σ1, τ1, q1, p1, s1, t1, k1, l1, b31, b73, b160, b162, b43, b74, b163⟩ := call_ok d h k j c0 (fun e => by omega) ht
        have pcC : σ1 3 3 = nI (B 3 1) := s1.1 3 1 (by decide)
        have pcM : τ1 19 5 = nI (B 3 1) := t1.1 3 1 (by decide)
        have st : ∀ m, (m = 2 → False) → St A (aMo B m) := fun m hm2 => ⟨mo_J k1 l1 b31 (fun e => (hm2 e).elim), ⟨by rw [mo_r (by omega) (by omega)]; exact b73.1, by rw [mo_r (by omega) (by omega)]; exact b73.2⟩, by rw [mo_r (by omega) (by omega)]; exact b160, ⟨by rw [mo_r (by omega) (by omega)]; exact b162.1, by rw [mo_r (by omega) (by omega)]; exact b162.2⟩, by rw [mo_r (by omega) (by omega)]; omega⟩
        have stB : St A B := ⟨⟨k1, l1, by rw [b74, b163], b31, fun e => by omega⟩, b73, b160, b162, by omega⟩
        have fin : ∀ X, X = (if (σ1 3 3) = 0 then some ((1 : Int32), (x_up σ1 0 7 (0 : Int32))) else some ((1 : Int32), σ1)) → ∃ b R σ' τ', X = some (nI (bN b), σ') ∧ (if (τ1 19 5) = 0 then some ((1 : Int32), (x_up τ1 19 12 (0 : Int32))) else some ((1 : Int32), (x_up τ1 19 12 (τ1 19 12)))) = some (nI (bN b), τ') ∧ XC R σ' ∧ XM R τ' ∧ St A R := by
          rintro X rfl
          by_cases g0 : B 3 1 = 0
          · rw [if_pos (by rw [pcC, g0]; rfl), if_pos (by rw [pcM, g0]; rfl)]
            exact ⟨true, aMo B 0, _, _, rfl, rfl, mo_C s1 (by decide), mo_M t1 (by decide), st 0 (by decide)⟩
          · rw [if_neg (by rw [pcC]; exact nz (by omega) g0), if_neg (by rw [pcM]; exact nz (by omega) g0), x_up_self]
            exact ⟨true, B, _, _, rfl, rfl, s1, t1, stB⟩
        rw [p1, bnd0]
        dsimp only
        rw [if_neg (show ¬ (1 : Int32) = 0 by decide)]
        by_cases c1 : A 2 1 = 1
        · refine fin _ ?_
          rw [r1, c1, if_pos (by decide), m5, xv_cnt h, if_neg (by exact nz (by omega) (by omega)), bnd0]
          dsimp only
          rw [if_pos rfl, q1, bnd0]
        · refine fin _ ?_
          rw [r1, if_neg (by intro z; exact c1 ((nI_eq (b := 1) (by omega) (by omega)).mp z)), q1, bnd0]
  · have h1 : A 7 4 = 1 := by
      have := j.2.2.2.2
      omega
    obtain ⟨R, σ1, τ1, q1, p1, s1, t1, st⟩ := instr_ok (d + 2) (d + 3) h k j h1 h5
    exact ⟨true, R, σ1, τ1, q1, p1, s1, t1, st⟩
end P2
