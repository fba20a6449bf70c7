/-! A step at the desk -/
theorem lk_of {A B R0 : aS} (rB : ∀ o, ¬ o = 7 → ¬ o = 14 → ¬ o = 15 → B o = A o) (b7 : ∀ k, ¬ k = 2 → ¬ k = 5 → B 7 k = A 7 k) (b75 : B 7 5 = 0) (K : Kd 163 B R0) : LK A (a_up R0 16 4 0) := by
  refine ⟨⟨?_, ?_, ?_⟩, fun k h2 h5 => ?_, fun k h4 => ?_, fun k h0 => ?_, ?_, ?_, a_at _ _ _ _⟩
  · rw [a_row (by decide), K.1 3 (by decide), rB 3 (by decide) (by decide) (by decide)]
  · rw [a_row (by decide), K.1 9 (by decide), rB 9 (by decide) (by decide) (by decide)]
  · rw [a_row (by decide), K.1 10 (by decide), rB 10 (by decide) (by decide) (by decide)]
  · rw [a_row (by decide), K.1 7 (by decide), b7 k h2 h5]
  · rw [a_ne (by omega), K.1 16 (by decide), rB 16 (by decide) (by decide) (by decide)]
  · rw [a_row (by decide), K.2.1 k h0, rB 4 (by decide) (by decide) (by decide)]
  · have := K.2.2
    rw [a_row (by decide), ← rB 4 (by decide) (by decide) (by decide)]
    exact this
  · rw [a_row (by decide), K.1 7 (by decide), b75]
section DK
variable {A : aS} {σ τ : xS} (d : Nat)
theorem line_ok (d2 : Nat) (h : XC A σ) (k : XM A τ) (hl : A 7 5 = A 16 4) (hm : A 16 3 = 0) (ht : A 4 0 + 300 < 2147483648) : ∃ (b : Bool) (R : aS) (σ' τ' : xS), x_M (d + 6) 41 [.ref 14] σ = some (nI (bN b), σ') ∧ x_M (d2 + 6) 133 [.ref 19, .int (13 : Int32)] τ = some ((0 : Int32), τ') ∧ XC R σ' ∧ XM (if b = true then aBg R else R) τ' ∧ LK A R := by
  have hL := x_lenM k.2
  obtain ⟨σ1, q1, h1⟩ := c_words (d + 3) h
  rw [hl] at h1
  have f3 := fw_3 A (A 6) (A 16 4) (by omega)
  have hB : XC (a_up (fw A (A 6) (A 16 4) 3) 7 5 0) (x_up σ1 14 7 (0 : Int32)) := xc_up h1 7 5 (by decide) (show 0 < 21 by decide)
  have rB : ∀ o, ¬ o = 7 → ¬ o = 14 → ¬ o = 15 → a_up (fw A (A 6) (A 16 4) 3) 7 5 0 o = A o := fun o h7 h14 h15 => by rw [a_row h7, fw_row A _ _ h7 h14 h15]
  have kB : XM (a_up (fw A (A 6) (A 16 4) 3) 7 5 0) τ := xm_congr k (fun o j hj => by
    rw [rB o (fun z => by subst z; exact absurd (show j < 0 from hj) (by omega)) (fun z => by subst z; exact absurd (show j < 0 from hj) (by omega)) (fun z => by subst z; exact absurd (show j < 0 from hj) (by omega))]) hB.2
  have b75 : a_up (fw A (A 6) (A 16 4) 3) 7 5 0 7 5 = 0 := a_at _ _ _ _
  have b7 : ∀ k, ¬ k = 2 → ¬ k = 5 → a_up (fw A (A 6) (A 16 4) 3) 7 5 0 7 k = A 7 k := fun k h2 h5 => by rw [a_ne (by omega), fw_7 A _ _ h2]
  have w : Wd (a_up (fw A (A 6) (A 16 4) 3) 7 5 0) (A 6) (A 16 4) := ⟨rB 6 (by decide) (by decide) (by decide), by rw [rB 16 (by decide) (by decide) (by decide)], by omega, by rw [a_ne (by omega)]; exact f3.1, fun i hi hp => by rw [a_row (a := 14) (by decide), a_row (a := 15) (by decide)]; exact f3.2 i hi hp⟩
  have M := m41 (d + 5) σ
  rw [q1, bnd0] at M
  dsimp only at M
  generalize x_up σ1 14 7 (0 : Int32) = σ2 at M hB
  generalize a_up (fw A (A 6) (A 16 4) 3) 7 5 0 = B at hB kB rB b75 b7 w
  have t4 : B 4 0 = A 4 0 := by rw [rB 4 (by decide) (by decide) (by decide)]
  have b163 : B 16 3 = 0 := by rw [rB 16 (by decide) (by decide) (by decide)]; exact hm
  have M2 := m133 (d2 + 5) (13 : Int32) τ
  rw [if_pos (show (13 : Int32) = 13 from rfl)] at M2
  have vw := xv_wds hB
  have wl : B 7 2 < 4 := hB.2 7 2 (by decide)
  -- no run begins
  have fin : ∀ {R0 : aS} {σ3 τ3 : xS} {v1 v2 : Int32}, XC R0 σ3 → XM R0 τ3 → Kd 161 B R0 → (v2 = 0 ∨ ¬ v1 = (5 : Int32)) → x_M (d + 6) 41 [.ref 14] σ = xr x_i41 (d + 5) 4999 53 [(0, .ref 14), (1, .int v1), (2, .int v2)] [] σ3 → x_M (d2 + 6) 133 [.ref 19, .int (13 : Int32)] τ = ((x_M (d2 + 5) 113 [.ref 19, .int (13 : Int32)] τ3).bind fun r2 => (if (r2.2 19 12) = 0 then ((x_M (d2 + 5) 113 [.ref 19, .int (62 : Int32)] r2.2).bind fun r3 => some ((0 : Int32), (x_up r3.2 19 15 (0 : Int32)))) else some ((0 : Int32), (x_up r2.2 19 15 (0 : Int32))))) → ∃ (b : Bool) (R : aS) (σ' τ' : xS), x_M (d + 6) 41 [.ref 14] σ = some (nI (bN b), σ') ∧ x_M (d2 + 6) 133 [.ref 19, .int (13 : Int32)] τ = some ((0 : Int32), τ') ∧ XC R σ' ∧ XM (if b = true then aBg R else R) τ' ∧ LK A R := fun {R0 σ3 τ3 v1 v2} x1 x2 K hv e1 e2 => by
    have k0 := K.2.2
    obtain ⟨σ4, q4, h4⟩ := c_tail (d + 4) x1 (by omega) hv
    obtain ⟨τ4, p4, k4⟩ := y_tail (d2 + 4) x2 (by rw [K.1 16 (by decide)]; exact b163) (by omega)
    refine ⟨false, a_up (aSh (aSh R0 13) 62) 16 4 0, σ4, τ4, e1.trans q4, e2.trans p4, xc_oth h4 rfl (show 0 < 21 by decide), k4, lk_of rB b7 b75 (kd_le (kd_trans K (sh_Kd (sh_trans (sh_one R0 13) (sh_one _ 62)))) (by decide))⟩
  -- refused
  have ref : ∀ {R0 : aS} {σ3 τ3 : xS} {v1 : Int32}, XC R0 σ3 → XM R0 τ3 → Kd 160 B R0 → x_M (d + 6) 41 [.ref 14] σ = ((x_M (d + 5) 14 [.ref 10, .int (63 : Int32)] σ3).bind fun r3 => xr x_i41 (d + 5) 4999 53 [(0, .ref 14), (1, .int v1), (2, .int (0 : Int32))] [] r3.2) → x_M (d2 + 5) 132 [.ref 19] τ = some ((0 : Int32), τ3) → ∃ (b : Bool) (R : aS) (σ' τ' : xS), x_M (d + 6) 41 [.ref 14] σ = some (nI (bN b), σ') ∧ x_M (d2 + 6) 133 [.ref 19, .int (13 : Int32)] τ = some ((0 : Int32), τ') ∧ XC R σ' ∧ XM (if b = true then aBg R else R) τ' ∧ LK A R := fun {R0 σ3 τ3 v1} x1 x2 K e1 e2 => by
    have k0 := K.2.2
    obtain ⟨σ4, q4, h4⟩ := c_show (d + 4) x1 (v := 63) (by decide) (by omega)
    obtain ⟨τ4, p4, k4⟩ := y_show (d2 + 4) x2 (v := 63) (by decide) (by omega)
    have q4 : x_M (d + 5) 14 [.ref 10, .int (63 : Int32)] σ3 = some (0, σ4) := q4
    have p4 : x_M (d2 + 5) 113 [.ref 19, .int (63 : Int32)] τ3 = some (0, τ4) := p4
    rw [q4, bnd0] at e1
    rw [e2, bnd0] at M2
    dsimp only at M2
    rw [if_pos (show (0 : Int32) = 0 from rfl), p4, bnd0] at M2
    exact fin h4 k4 (kd_le (kd_trans K (sh_Kd (sh_one R0 63))) (by decide)) (Or.inl rfl) e1 M2
  by_cases h0 : wS (A 6) (A 16 4) 0 < A 16 4
  · obtain ⟨hm6, c⟩ := cmd_ok d d2 hB kB w h0 (by omega)
    rw [c_cmd (d + 3) hB w h0, bnd0] at M
    dsimp only at M
    rw [if_neg (n_ok (n := 7) (by omega) (by decide))] at M
    have ndl : nd (cmdN (A 6) (A 16 4)) < 4 := by
      generalize cmdN (A 6) (A 16 4) = m at hm6
      have e : m = 0 ∨ m = 1 ∨ m = 2 ∨ m = 3 ∨ m = 4 ∨ m = 5 := by omega
      rcases e with rfl | rfl | rfl | rfl | rfl | rfl <;> decide
    rcases c with ⟨c1, c2⟩ | ⟨c1, b, R0, σ3, τ3, q3, p3, x1, x2, K⟩
    · rw [if_pos (show (σ2 14 8) < (([1, 2, 2, 3, 3, 1, 0] : List Int32).getD (nI (cmdN (A 6) (A 16 4))).toNatClampNeg 0) from by rw [nd_eq (by omega), vw]; exact (nI_ltI (by omega) (by omega)).mpr c1), if_pos (show (0 : Int32) = 0 from rfl)] at M
      exact ref hB kB ⟨fun _ _ => rfl, fun _ _ => rfl, by omega⟩ M c2
    · rw [if_neg (show ¬ (σ2 14 8) < (([1, 2, 2, 3, 3, 1, 0] : List Int32).getD (nI (cmdN (A 6) (A 16 4))).toNatClampNeg 0) from by rw [nd_eq (by omega), vw]; exact fun z => absurd ((nI_ltI (by omega) (by omega)).mp z) (by omega)), q3, bnd0] at M
      dsimp only at M
      cases b
      · rw [if_pos (show nI (bN false) = (0 : Int32) from rfl), if_pos (show (0 : Int32) = 0 from rfl)] at M
        exact ref x1 x2 K M p3
      · rw [if_neg (show ¬ nI (bN true) = (0 : Int32) by decide), if_neg (show ¬ (1 : Int32) = 0 by decide)] at M
        rw [p3, bnd0] at M2
        dsimp only at M2
        rw [if_neg (show ¬ nI (bN true) = (0 : Int32) by decide)] at M2
        by_cases g5 : cmdN (A 6) (A 16 4) = 5
        · rw [g5] at x2 M
          have x2 : XM (aBg R0) τ3 := x2
          have k0 := K.2.2
          have e4 : aBg R0 4 0 = R0 4 0 := by
            unfold aBg
            rw [a_row (by decide), a_ne (by omega), aMg_r _ _ (by decide)]
          have e16 : aBg R0 16 3 = 1 := a_at _ _ _ _
          obtain ⟨σ4, q4, h4⟩ := c_show (d + 4) x1 (v := 13) (by decide) (by omega)
          obtain ⟨τ4, p4, k4⟩ := y_show (d2 + 4) x2 (v := 13) (by decide) (by omega)
          have q4 : x_M (d + 5) 14 [.ref 10, .int (13 : Int32)] σ3 = some (0, σ4) := q4
          have p4 : x_M (d2 + 5) 113 [.ref 19, .int (13 : Int32)] τ3 = some (0, τ4) := p4
          have k5 : XM (a_up (aSh (aBg R0) 13) 16 4 0) (x_up τ4 19 15 (nI 0)) := xm_up k4 16 4 (by decide) (show 0 < 21 by decide)
          rw [bg_sh] at k5
          refine ⟨true, a_up (aSh R0 13) 16 4 0, σ4, x_up τ4 19 15 (nI 0), M.trans ((c41_53 (d + 5) 4998 _ _ _).trans ?_), M2.trans ?_, xc_oth h4 rfl (show 0 < 21 by decide), k5, lk_of rB b7 b75 (kd_le (kd_trans K (sh_Kd (sh_one R0 13))) (by decide))⟩
          · rw [q4, bnd0]
            dsimp only
            rw [if_neg (show ¬ (1 : Int32) = 0 by decide), if_pos (show nI 5 = (5 : Int32) from rfl), if_neg (show ¬ (1 : Int32) = 0 by decide)]
            rfl
          · rw [p4, bnd0]
            dsimp only
            rw [if_neg (by rw [yv_mod k4, aSh_row _ _ (by decide) (by decide), e16]; decide)]
            rfl
        · rw [if_neg (by rw [decide_eq_false g5]; decide)] at x2
          exact fin x1 x2 (kd_le K (by decide)) (Or.inr (fun z => g5 ((nI_eq (b := 5) (by omega) (by omega)).mp z))) M M2
  · have t0 : x_M (d2 + 4) 109 [.ref 19, .int (0 : Int32)] τ = some (nI (bN false), τ) := by
      have q := y_there (d2 + 2) kB (w := 0) (by decide)
      rw [w.1, w.2.1, decide_eq_false h0] at q
      exact q
    have p3 : x_M (d2 + 5) 132 [.ref 19] τ = some ((1 : Int32), τ) := by
      rw [m132, t0, bnd0]
      dsimp only
      rw [if_pos (show nI (bN false) = (0 : Int32) from rfl)]
    have q3 : x_M (d + 5) 40 [.ref 14, .int (nI 6)] σ2 = some ((1 : Int32), σ2) := by
      rw [m40, if_neg (show ¬ nI 6 = (0 : Int32) by decide), if_neg (show ¬ nI 6 = (1 : Int32) by decide), if_neg (show ¬ nI 6 = (2 : Int32) by decide), if_neg (show ¬ nI 6 = (3 : Int32) by decide), if_neg (show ¬ nI 6 = (4 : Int32) by decide), if_neg (show ¬ nI 6 = (5 : Int32) by decide)]
    rw [c_cmd6 (d + 4) hB w h0, bnd0] at M
    dsimp only at M
    rw [if_neg (n_ok (n := 7) (by omega) (by decide)), if_neg (show ¬ (σ2 14 8) < (([1, 2, 2, 3, 3, 1, 0] : List Int32).getD (nI 6).toNatClampNeg 0) from by rw [nd_eq (by omega), vw]; exact fun z => absurd ((nI_ltI (b := 0) (by omega) (by omega)).mp z) (by omega)), q3, bnd0] at M
    dsimp only at M
    rw [if_neg (show ¬ (1 : Int32) = 0 by decide), if_neg (show ¬ (1 : Int32) = 0 by decide)] at M
    rw [p3, bnd0] at M2
    dsimp only at M2
    rw [if_neg (show ¬ (1 : Int32) = 0 by decide)] at M2
    exact fin hB kB ⟨fun _ _ => rfl, fun _ _ => rfl, by omega⟩ (Or.inr (by decide)) M M2
/-- what a step keeps -/
def Sd (A R : aS) : Prop := J R ∧ R 7 5 = R 16 4 ∧ R 7 3 = A 7 3 ∧ R 16 0 = A 16 0 ∧ R 16 2 = A 16 2 ∧ R 4 0 ≤ A 4 0 + 170
theorem lr_of {A R : aS} (h1 : R 16 1 = A 16 1) (h2 : R 7 1 = A 7 1) (l : LR A) : LR R := by
  unfold LR
  rw [h1, h2]
  exact l
theorem kr_of {A R : aS} (h4 : R 4 2 = A 4 2) (h9 : R 9 = A 9) (h10 : R 10 = A 10) (h7 : R 7 0 = A 7 0) (k : KR A) : KR R := fun i hi => by
  rw [h9, h10, h7]
  exact k i (by rw [← h4]; exact hi)
theorem desk_ok (d2 : Nat) (h : XC A σ) (k : XM A τ) (j : J A) (hm : A 7 4 = 0) (hl : A 7 5 = A 16 4) (ht : A 4 0 + 300 < 2147483648) : ∃ (b : Bool) (R : aS) (σ' τ' : xS), x_M (d + 7) 46 [.ref 0] σ = some (nI (bN b), σ') ∧ x_M (d2 + 7) 160 [.ref 19] τ = some (nI (bN b), τ') ∧ XC R σ' ∧ XM R τ' ∧ Sd A R := by
  have j' := j
  obtain ⟨kr, lr, jm, jp, -⟩ := j
  have hm2 : A 16 3 = 0 := by rw [← jm]; exact hm
  have hc := x_cnt_lt h.2
  have M := m46 (d + 6) σ
  have M2 := m160 (d2 + 6) τ
  rw [if_pos (by rw [yv_mod k, hm2]; rfl), yv_cnt k] at M2
  rw [m5, xv_cnt h] at M
  by_cases g : A 4 2 = 0
  · rw [g, if_pos (show nI 0 = (0 : Int32) from rfl), bnd0] at M
    dsimp only at M
    rw [if_neg (show ¬ (1 : Int32) = 0 by decide)] at M
    rw [g, if_pos (show nI 0 = (0 : Int32) from rfl)] at M2
    exact ⟨false, A, σ, τ, M, M2, h, k, j', hl, rfl, rfl, rfl, by omega⟩
  · obtain ⟨v, σ1, τ1, hv, q1, p1, h1, k1, kr1⟩ := take_ok (d + 5) (d2 + 5) h k kr (by omega)
    have tv : ∀ {o k : Nat}, ¬ o = 10 → ¬ (o = 4 ∧ k = 2) → ¬ (o = 7 ∧ k = 0) → aTk A o k = A o k := fun a b c => by rw [aTk_v, if_neg (fun z => a z.1), if_neg b, if_neg c]
    have t75 : aTk A 7 5 = A 7 5 := tv (by decide) (by omega) (by omega)
    have t164 : aTk A 16 4 = A 16 4 := tv (by decide) (by omega) (by omega)
    have t163 : aTk A 16 3 = A 16 3 := tv (by decide) (by omega) (by omega)
    have t161 : aTk A 16 1 = A 16 1 := tv (by decide) (by omega) (by omega)
    have t162 : aTk A 16 2 = A 16 2 := tv (by decide) (by omega) (by omega)
    have t160 : aTk A 16 0 = A 16 0 := tv (by decide) (by omega) (by omega)
    have t71 : aTk A 7 1 = A 7 1 := tv (by decide) (by omega) (by omega)
    have t73 : aTk A 7 3 = A 7 3 := tv (by decide) (by omega) (by omega)
    have t74 : aTk A 7 4 = A 7 4 := tv (by decide) (by omega) (by omega)
    have t40 : aTk A 4 0 = A 4 0 := tv (by decide) (by omega) (by omega)
    have t31 : aTk A 3 1 = A 3 1 := tv (by decide) (by omega) (by omega)
    have lr1 : LR (aTk A) := lr_of t161 t71 lr
    generalize aTk A = T at h1 k1 kr1 t75 t164 t163 t161 t162 t160 t71 t73 t74 t40 t31 lr1
    rw [if_neg (nI_ne0 (by omega) (by omega)), bnd0] at M
    dsimp only at M
    rw [if_pos (show (0 : Int32) = 0 from rfl), q1, bnd0] at M
    dsimp only at M
    rw [if_neg (nI_ne0 (by omega) (by omega)), p1, bnd0] at M2
    dsimp only at M2
    by_cases g13 : v = 13
    · subst g13
      obtain ⟨b, R, σ2, τ2, q2, p2, h2, k2, LKs⟩ := line_ok d d2 h1 k1 (by omega) (by omega) (by omega)
      have p2 : x_M (d2 + 6) 133 [.ref 19, .int (nI 13)] τ1 = some ((0 : Int32), τ2) := p2
      rw [p2, bnd0] at M2
      dsimp only at M2
      rw [if_pos (show nI 13 = (13 : Int32) from rfl), q2, bnd0] at M
      dsimp only at M
      obtain ⟨⟨r3, r9, r10⟩, r7, r16, r4, r40, r75, r164⟩ := LKs
      have krR : KR R := kr_of (r4 2 (by decide)) r9 r10 (r7 0 (by decide) (by decide)) kr1
      have lrR : LR R := lr_of (r16 1 (by decide)) (r7 1 (by decide) (by decide)) lr1
      have x74 : R 7 4 = 0 := by rw [r7 4 (by decide) (by decide)]; omega
      have x163 : R 16 3 = 0 := by rw [r16 3 (by decide)]; omega
      have x73 : R 7 3 = A 7 3 := by rw [r7 3 (by decide) (by decide)]; exact t73
      have x160 : R 16 0 = A 16 0 := by rw [r16 0 (by decide)]; exact t160
      have x162 : R 16 2 = A 16 2 := by rw [r16 2 (by decide)]; exact t162
      cases b
      · rw [if_pos (show nI (bN false) = (0 : Int32) from rfl)] at M
        exact ⟨true, R, σ2, τ2, M, M2, h2, k2, ⟨krR, lrR, by rw [x74, x163], by rw [r3, t31]; exact jp, by rw [x74]; intro z; cases z⟩, by rw [r75, r164], x73, x160, x162, by omega⟩
      · have k2 : XM (aBg R) τ2 := k2
        obtain ⟨σ3, q3, h3⟩ := c_start (d + 3) h2
        rw [if_neg (show ¬ nI (bN true) = (0 : Int32) by decide), q3, bnd0] at M
        dsimp only at M
        have h4 : XC (a_up (aMg R (aBeg R)) 4 1 128) (x_up σ3 12 3 (nI 128)) := xc_up h3 4 1 (by decide) (show 128 < 65536 by decide)
        have h5 : XC (aMo (a_up (aMg R (aBeg R)) 4 1 128) 1) (x_up (x_up σ3 12 3 (nI 128)) 0 7 (nI 1)) := mo_C h4 (by decide)
        have k5 : XM (aMo (a_up (aMg R (aBeg R)) 4 1 128) 1) τ2 := xm_oth k2 rfl (show 1 < 3 by decide)
        have rr : ∀ {o k : Nat}, ¬ (o = 0 ∨ o = 2 ∨ o = 3) → ¬ (o = 4 ∧ k = 1) → ¬ (o = 7 ∧ k = 4) → ¬ (o = 16 ∧ k = 3) → aMo (a_up (aMg R (aBeg R)) 4 1 128) 1 o k = R o k := fun a b c e => by rw [mo_r c e, a_ne b, aMg_r _ _ a]
        have rw_ : ∀ {o : Nat}, ¬ (o = 0 ∨ o = 2 ∨ o = 3) → ¬ o = 4 → ¬ o = 7 → ¬ o = 16 → aMo (a_up (aMg R (aBeg R)) 4 1 128) 1 o = R o := fun {o} a b c e => by
          funext j
          exact rr a (fun z => b z.1) (fun z => c z.1) (fun z => e z.1)
        have e31 : aMo (a_up (aMg R (aBeg R)) 4 1 128) 1 3 1 = 256 := by
          rw [mo_r (by omega) (by omega), a_ne (by omega), aMg_p _ _ (by decide)]
          exact a_at _ _ _ _
        refine ⟨true, _, _, τ2, M, M2, h5, k5, ⟨kr_of (rr (by decide) (by omega) (by omega) (by omega)) (rw_ (by decide) (by decide) (by decide) (by decide)) (rw_ (by decide) (by decide) (by decide) (by decide)) (rr (by decide) (by omega) (by omega) (by omega)) krR, lr_of (rr (by decide) (by omega) (by omega) (by omega)) (rr (by decide) (by omega) (by omega) (by omega)) lrR, by rw [mo_7, mo_16], by rw [e31]; decide, by rw [mo_7]; intro z; cases z⟩, ?_, ?_, ?_, ?_, ?_⟩
        · rw [rr (by decide) (by omega) (by omega) (by omega), rr (by decide) (by omega) (by omega) (by omega), r75, r164]
        · rw [rr (by decide) (by omega) (by omega) (by omega), x73]
        · rw [rr (by decide) (by omega) (by omega) (by omega), x160]
        · rw [rr (by decide) (by omega) (by omega) (by omega), x162]
        · rw [rr (by decide) (by omega) (by omega) (by omega)]
          omega
    · have n13 : ¬ nI v = (13 : Int32) := fun z => g13 ((nI_eq (b := 13) (by omega) (by omega)).mp z)
      have hl1 := x_lenC h1.2
      rw [if_neg n13, m7, xv_len h1] at M
      rw [m133, if_neg n13, yv_len k1] at M2
      have len : T 16 4 = T 7 5 := by omega
      rw [len] at M2
      have stay : x_M (d + 7) 46 [.ref 0] σ = some ((1 : Int32), σ1) → x_M (d2 + 7) 160 [.ref 19] τ = some ((1 : Int32), τ1) → ∃ (b : Bool) (R : aS) (σ' τ' : xS), x_M (d + 7) 46 [.ref 0] σ = some (nI (bN b), σ') ∧ x_M (d2 + 7) 160 [.ref 19] τ = some (nI (bN b), τ') ∧ XC R σ' ∧ XM R τ' ∧ Sd A R := fun a b => ⟨true, T, σ1, τ1, a, b, h1, k1, ⟨kr1, lr1, by omega, by omega, by rw [t74, hm]; intro z; cases z⟩, by omega, t73, t160, t162, by omega⟩
      by_cases g1 : v < 32
      · rw [if_pos (show nI v < (32 : Int32) from (nI_ltI (b := 32) (by omega) (by omega)).mpr g1), bnd0] at M M2
        exact stay M M2
      · rw [if_neg (show ¬ nI v < (32 : Int32) from fun z => g1 ((nI_ltI (b := 32) (by omega) (by omega)).mp z))] at M M2
        by_cases g2 : 126 < v
        · rw [if_pos (show (126 : Int32) < nI v from (nI_ltI (a := 126) (by omega) (by omega)).mpr g2), bnd0] at M M2
          exact stay M M2
        · rw [if_neg (show ¬ (126 : Int32) < nI v from fun z => g2 ((nI_ltI (a := 126) (by omega) (by omega)).mp z))] at M M2
          by_cases g3 : 20 ≤ T 7 5
          · rw [if_pos (show (20 : Int32) ≤ nI (T 7 5) from (nI_leI (a := 20) (by omega) (by omega)).mpr g3), bnd0] at M M2
            exact stay M M2
          · rw [if_neg (show ¬ (20 : Int32) ≤ nI (T 7 5) from fun z => g3 ((nI_leI (a := 20) (by omega) (by omega)).mp z)), if_neg (n_ok (n := 20) (by omega) (by decide)), n_cl (by omega), bnd0] at M M2
            dsimp only at M M2
            have s1 : XC (a_up T 6 (T 7 5) v) (x_up σ1 15 (T 7 5) (nI v)) := xc_up h1 6 (T 7 5) (show T 7 5 < 20 by omega) (show v < 256 by omega)
            have s2 : XC (a_up (a_up T 6 (T 7 5) v) 7 5 (T 7 5 + 1)) (x_up (x_up σ1 15 (T 7 5) (nI v)) 14 7 (nI (T 7 5 + 1))) := xc_up s1 7 5 (by decide) (show T 7 5 + 1 < 21 by omega)
            have u1 : XM (a_up T 6 (T 7 5) v) (x_up τ1 24 (T 7 5) (nI v)) := xm_up k1 6 (T 7 5) (show T 7 5 < 20 by omega) (show v < 256 by omega)
            have u2 : XM (a_up (a_up T 6 (T 7 5) v) 7 5 (T 7 5 + 1)) (x_up τ1 24 (T 7 5) (nI v)) := xm_oth u1 rfl (show T 7 5 + 1 < 21 by omega)
            have u3 : XM (a_up (a_up (a_up T 6 (T 7 5) v) 7 5 (T 7 5 + 1)) 16 4 (T 7 5 + 1)) (x_up (x_up τ1 24 (T 7 5) (nI v)) 19 15 (nI (T 7 5 + 1))) := xm_up u2 16 4 (by decide) (show T 7 5 + 1 < 21 by omega)
            have s3 : XC (a_up (a_up (a_up T 6 (T 7 5) v) 7 5 (T 7 5 + 1)) 16 4 (T 7 5 + 1)) (x_up (x_up σ1 15 (T 7 5) (nI v)) 14 7 (nI (T 7 5 + 1))) := xc_oth s2 rfl (show T 7 5 + 1 < 21 by omega)
            have rr : ∀ {o k : Nat}, ¬ o = 6 → ¬ (o = 7 ∧ k = 5) → ¬ (o = 16 ∧ k = 4) → a_up (a_up (a_up T 6 (T 7 5) v) 7 5 (T 7 5 + 1)) 16 4 (T 7 5 + 1) o k = T o k := fun a b c => by rw [a_ne c, a_ne b, a_row a]
            have rw_ : ∀ {o : Nat}, ¬ o = 6 → ¬ o = 7 → ¬ o = 16 → a_up (a_up (a_up T 6 (T 7 5) v) 7 5 (T 7 5 + 1)) 16 4 (T 7 5 + 1) o = T o := fun a b c => by rw [a_row c, a_row b, a_row a]
            refine ⟨true, _, _, _, ?_, ?_, s3, u3, ⟨kr_of (rr (by decide) (by omega) (by omega)) (rw_ (by decide) (by decide) (by decide)) (rw_ (by decide) (by decide) (by decide)) (rr (by decide) (by omega) (by omega)) kr1, lr_of (rr (by decide) (by omega) (by omega)) (rr (by decide) (by omega) (by omega)) lr1, ?_, ?_, ?_⟩, ?_, ?_, ?_, ?_, ?_⟩
            · rw [M, x_up_oth (by decide), xv_len h1, nI_1]
              rfl
            · rw [M2, x_up_oth (by decide), yv_len k1, len, nI_1]
              rfl
            · rw [rr (by decide) (by omega) (by omega), rr (by decide) (by omega) (by omega)]
              omega
            · rw [rr (by decide) (by omega) (by omega)]
              omega
            · rw [rr (by decide) (by omega) (by omega), t74, hm]
              intro z
              cases z
            · rw [a_at, a_row (by decide), a_at]
            · rw [rr (by decide) (by omega) (by omega)]
              exact t73
            · rw [rr (by decide) (by omega) (by omega)]
              exact t160
            · rw [rr (by decide) (by omega) (by omega)]
              exact t162
            · rw [rr (by decide) (by omega) (by omega)]
              omega
end DK
