/-! A step of a running program, class beside model -/
/-- what holds between calls, beside the tables: keys, search, mode, program counter -/
def J (A : aS) : Prop := KR A ∧ LR A ∧ A 7 4 = A 16 3 ∧ A 3 1 < 65536 ∧ (A 7 4 = 2 → A 3 1 = 5)
def St (A R : aS) : Prop := J R ∧ (R 7 3 = A 7 3 ∧ R 7 5 = A 7 5) ∧ R 16 0 = A 16 0 ∧ (R 16 2 = A 16 2 ∧ R 16 4 = A 16 4) ∧ R 4 0 ≤ A 4 0 + 170
theorem xm_mg {A B : aS} {σ τ : xS} {m : Nat} (h : XM A σ) (hb : CQ B τ) (hk : mKeep σ τ) (hm : τ 19 12 = nI m) (h3 : m < 3) : XM (a_up (aMg A B) 16 3 m) τ := by
  refine ⟨fun o k hj => ?_, wx_up (wx_mg h.2 hb.2) h3⟩
  by_cases e : o = 16 ∧ k = 3
  · obtain ⟨rfl, rfl⟩ := e
    rw [a_at]
    exact hm
  · rw [a_ne e]
    by_cases e0 : o = 0 ∨ o = 2 ∨ o = 3
    · rw [aMg_p A B e0]
      rcases e0 with rfl | rfl | rfl
      · exact hb.1.1 k hj
      · exact hb.1.2.1 k hj
      · exact hb.1.2.2 k hj
    · rw [aMg_r A B e0, ← h.1 o k hj]
      have ho : o = 1 ∨ o = 4 ∨ o = 6 ∨ o = 8 ∨ o = 10 ∨ o = 12 ∨ o = 16 := by
        match o, hj with
        | 0, _ => omega
        | 1, _ => omega
        | 2, _ => omega
        | 3, _ => omega
        | 4, _ => omega
        | 5, hj => exact absurd (show k < 0 from hj) (by omega)
        | 6, _ => omega
        | 7, hj => exact absurd (show k < 0 from hj) (by omega)
        | 8, _ => omega
        | 9, hj => exact absurd (show k < 0 from hj) (by omega)
        | 10, _ => omega
        | 11, hj => exact absurd (show k < 0 from hj) (by omega)
        | 12, _ => omega
        | 13, hj => exact absurd (show k < 0 from hj) (by omega)
        | 14, hj => exact absurd (show k < 0 from hj) (by omega)
        | 15, hj => exact absurd (show k < 0 from hj) (by omega)
        | 16, _ => omega
        | o + 17, hj => exact absurd (show k < 0 from hj) (by omega)
      rcases ho with rfl | rfl | rfl | rfl | rfl | rfl | rfl
      · exact congrFun (hk.2 21 (by decide)) k
      · have hj : k < 3 := hj
        have hk4 : k = 0 ∨ k = 1 ∨ k = 2 := by omega
        rcases hk4 with rfl | rfl | rfl
        · exact hk.1 17 (by decide)
        · exact hk.1 6 (by decide)
        · exact hk.1 13 (by decide)
      · exact congrFun (hk.2 24 (by decide)) k
      · exact congrFun (hk.2 25 (by decide)) k
      · exact congrFun (hk.2 23 (by decide)) k
      · exact congrFun (hk.2 26 (by decide)) k
      · have hj : k < 5 := hj
        have hk4 : k = 0 ∨ k = 1 ∨ k = 2 ∨ k = 4 := by omega
        rcases hk4 with rfl | rfl | rfl | rfl
        · exact hk.1 0 (by decide)
        · exact hk.1 20 (by decide)
        · exact hk.1 19 (by decide)
        · exact hk.1 15 (by decide)
theorem mg_KR {A B : aS} (h : KR A) : KR (aMg A B) := by
  intro i hi
  rw [aMg_r _ _ (by decide)] at hi
  rw [aMg_r _ _ (by decide), aMg_r _ _ (by decide), aMg_r _ _ (by decide)]
  exact h i hi
theorem mg_LR {A B : aS} (h : LR A) : LR (aMg A B) := by
  unfold LR
  rw [aMg_r _ _ (by decide), aMg_r _ _ (by decide)]
  exact h
/-- the two modes anew -/
def aMo (A : aS) (m : Nat) : aS := a_up (a_up A 16 3 m) 7 4 m
theorem mo_KR {A : aS} (h : KR A) (m : Nat) : KR (aMo A m) := by
  intro i hi
  unfold aMo at hi ⊢
  rw [a_row (by decide), a_row (by decide)] at hi
  rw [a_row (by decide), a_row (by decide), a_row (o := 7) (a := 9) (by decide), a_row (by decide), a_ne (by omega), a_row (by decide)]
  exact h i hi
theorem mo_LR {A : aS} (h : LR A) (m : Nat) : LR (aMo A m) := by
  unfold LR aMo
  rw [a_row (a := 16) (by decide), a_ne (A := A) (by omega), a_ne (by omega), a_row (a := 7) (by decide)]
  exact h
theorem mo_r {A : aS} {m o k : Nat} (h : ¬ (o = 7 ∧ k = 4)) (h2 : ¬ (o = 16 ∧ k = 3)) : aMo A m o k = A o k := by
  unfold aMo
  rw [a_ne h, a_ne h2]
theorem mo_7 (A : aS) (m : Nat) : aMo A m 7 4 = m := a_at _ _ _ _
theorem mo_16 (A : aS) (m : Nat) : aMo A m 16 3 = m := by
  unfold aMo
  rw [a_ne (by omega), a_at]
theorem mo_J {A : aS} (k : KR A) (l : LR A) (hp : A 3 1 < 65536) {m : Nat} (hm : m = 2 → A 3 1 = 5) : J (aMo A m) := by
  refine ⟨mo_KR k m, mo_LR l m, by rw [mo_7, mo_16], by rw [mo_r (by omega) (by omega)]; exact hp, fun e => ?_⟩
  rw [mo_7] at e
  rw [mo_r (by omega) (by omega)]
  exact hm e
theorem mo_C {A : aS} {σ : xS} (h : XC A σ) {m : Nat} (hm : m < 3) : XC (aMo A m) (x_up σ 0 7 (nI m)) := xc_up (xc_oth h (o := 16) (k := 3) (v := m) rfl hm) 7 4 (by decide) hm
theorem mo_M {A : aS} {σ : xS} (h : XM A σ) {m : Nat} (hm : m < 3) : XM (aMo A m) (x_up σ 19 12 (nI m)) := xm_oth (xm_up h 16 3 (by decide) hm) rfl hm
/-- the mode once more: what an earlier change left does not matter -/
theorem mo_mo (A : aS) (m n : Nat) : aMo (aMo A m) n = aMo A n := by
  unfold aMo
  rw [a_cm _ (by omega), a_id, a_cm _ (by omega), a_id]
section P1
variable {A : aS} {σ τ : xS} (d : Nat)
theorem instr_ok (d2 : Nat) (h : XC A σ) (k : XM A τ) (j : J A) (hm : A 7 4 = 1) (h5 : ¬ A 3 1 = 5) : ∃ R σ' τ', x_M (d + 7) 94 [.ref 0] σ = some (nI 1, σ') ∧ x_M (d2 + 7) 160 [.ref 19] τ = some (nI 1, τ') ∧ XC R σ' ∧ XM R τ' ∧ St A R := by
  obtain ⟨kr, lr, jm, jp, -⟩ := j
  obtain ⟨σ1, q1, s1⟩ := c_step d (xc_cp h)
  obtain ⟨τ1, p1, t1, m1, b1⟩ := m_instr d2 (xm_cq k) jp
  have hkeep := cpuM_keep p1
  have hfr := cpuC_keep q1 (fun v hv => by
    rcases List.mem_cons.mp hv with rfl | hv
    · intro a ha; cases ha; rfl
    · cases hv)
  have s2 := xc_mg h s1 hfr
  generalize hB : aSt A (A 0 (A 3 1 % 512)) = B at s1 t1 b1 s2
  have n5 : ¬ σ 3 3 = (5 : Int32) := by
    rw [cv_pc (xc_cp h)]
    exact fun z => h5 ((nI_eq (b := 5) (by omega) (by omega)).mp z)
  have n5' : ¬ τ 19 5 = (5 : Int32) := by
    rw [mv_pc (xm_cq k)]
    exact fun z => h5 ((nI_eq (b := 5) (by omega) (by omega)).mp z)
  have ns : ¬ τ 19 12 = 0 := by
    rw [yv_mod k, ← jm, hm]
    decide
  have pcC : σ1 3 3 = nI (B 3 1) := s1.1.2.2 1 (by decide)
  have pcM : τ1 19 5 = nI (B 3 1) := t1.1.2.2 1 (by decide)
  have st : ∀ m, (m = 2 → False) → St A (aMo (aMg A B) m) := fun m hm2 => ⟨mo_J (mg_KR kr) (mg_LR lr) (by rw [aMg_p _ _ (by decide)]; exact b1) (fun e => (hm2 e).elim), ⟨by rw [mo_r (by omega) (by omega), aMg_r _ _ (by decide)], by rw [mo_r (by omega) (by omega), aMg_r _ _ (by decide)]⟩, by rw [mo_r (by omega) (by omega), aMg_r _ _ (by decide)], ⟨by rw [mo_r (by omega) (by omega), aMg_r _ _ (by decide)], by rw [mo_r (by omega) (by omega), aMg_r _ _ (by decide)]⟩, by rw [mo_r (by omega) (by omega), aMg_r _ _ (by decide)]; omega⟩
  rw [m94, if_neg n5, q1, bnd0, m160, if_neg ns, if_neg n5', p1, bnd0]
  dsimp only
  rw [x_up_oth (by decide), x_up_oth (by decide), pcC]
  by_cases g : A 0 (A 3 1 % 512) = 118
  · rw [if_pos g] at m1
    have t2 : XM (a_up (aMg A B) 16 3 0) τ1 := xm_mg k t1 hkeep m1 (by decide)
    have t3 : XM (aMo (aMg A B) 0) (x_up τ1 19 12 (nI 0)) := by
      have := mo_M t2 (m := 0) (by decide)
      unfold aMo at this ⊢
      rw [a_id] at this
      exact this
    rw [if_pos g, if_pos (show nI 0 = (0 : Int32) from rfl)]
    have s3 : XC (aMo (aMg A B) 0) (x_up σ1 0 7 (nI 0)) := mo_C s2 (by decide)
    have s4 : XC (aMo (aMg A B) 0) (x_up (x_up σ1 0 7 (nI 0)) 0 7 (nI 0)) := by
      have := mo_C s3 (m := 0) (by decide)
      rw [mo_mo] at this
      exact this
    by_cases g0 : B 3 1 = 0
    · rw [g0, if_pos (by decide), if_pos (by rw [pcM, g0]; rfl)]
      exact ⟨_, _, _, rfl, rfl, s4, t3, st 0 (by decide)⟩
    · rw [if_neg (by exact nz (by omega) g0), if_neg (by rw [pcM]; exact nz (by omega) g0), m1]
      exact ⟨_, _, _, rfl, rfl, s3, t3, st 0 (by decide)⟩
  · rw [if_neg g, yv_mod k, ← jm, hm] at m1
    have t2 : XM (a_up (aMg A B) 16 3 1) τ1 := xm_mg k t1 hkeep m1 (by decide)
    have tm : ∀ m, m < 3 → XM (aMo (aMg A B) m) (x_up τ1 19 12 (nI m)) := fun m hm3 => by
      have := mo_M t2 hm3
      unfold aMo at this ⊢
      rw [a_id] at this
      exact this
    rw [if_neg g, if_neg (show ¬ nI 1 = (0 : Int32) by decide)]
    have s3 : XC (aMo (aMg A B) 1) (x_up σ1 0 7 (nI 1)) := mo_C s2 (by decide)
    have s4 : XC (aMo (aMg A B) 0) (x_up (x_up σ1 0 7 (nI 1)) 0 7 (nI 0)) := by
      have := mo_C s3 (m := 0) (by decide)
      rw [mo_mo] at this
      exact this
    by_cases g0 : B 3 1 = 0
    · rw [g0, if_pos (by decide), if_pos (by rw [pcM, g0]; rfl)]
      exact ⟨_, _, _, rfl, rfl, s4, tm 0 (by decide), st 0 (by decide)⟩
    · rw [if_neg (by exact nz (by omega) g0), if_neg (by rw [pcM]; exact nz (by omega) g0), m1]
      exact ⟨_, _, _, rfl, rfl, s3, tm 1 (by decide), st 1 (by decide)⟩
end P1
