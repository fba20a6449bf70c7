/-! A call of the system, class beside model -/
def Ka (A R : aS) : Prop := R 2 = A 2 ∧ R 3 = A 3 ∧ (R 7 3 = A 7 3 ∧ R 7 5 = A 7 5) ∧ R 7 4 = A 7 4 ∧ (∀ k, ¬ k = 1 → R 16 k = A 16 k) ∧ R 4 0 ≤ A 4 0 + 64
theorem sh_KR {A R : aS} {n : Nat} (h : Sh n A R) (k : KR A) : KR R := by
  intro i hi
  rw [h.2.1 2 (by decide)] at hi
  rw [h.1 10 (by decide), h.1 9 (by decide), h.1 7 (by decide)]
  exact k i hi
theorem sh_LR {A R : aS} {n : Nat} (h : Sh n A R) (k : LR A) : LR R := by
  unfold LR
  rw [h.1 16 (by decide), h.1 7 (by decide)]
  exact k
theorem sh_Ka {A R : aS} (h : Sh 64 A R) : Ka A R := ⟨h.1 2 (by decide), h.1 3 (by decide), ⟨by rw [h.1 7 (by decide)], by rw [h.1 7 (by decide)]⟩, by rw [h.1 7 (by decide)], fun k _ => by rw [h.1 16 (by decide)], h.2.2⟩
theorem kp_KR {A R : aS} (h : Kp A R) (k : KR A) : KR R := by
  intro i hi
  rw [h.1 4 (by decide)] at hi
  rw [h.1 10 (by decide), h.1 9 (by decide), h.2.1 0 (by decide)]
  exact k i hi
theorem kp_Ka {A R : aS} (h : Kp A R) : Ka A R := ⟨h.1 2 (by decide), h.1 3 (by decide), ⟨h.2.1 3 (by decide), h.2.1 5 (by decide)⟩, h.2.1 4 (by decide), h.2.2.1, by rw [h.1 4 (by decide)]; omega⟩
section S1
variable {A : aS} {σ τ : xS} (d : Nat)
theorem ans_ok (h : XC A σ) (k : XM A τ) (kr : KR A) (lr : LR A) {c : Nat} (hc : c < 256) (h1 : c = 1 → 0 < A 4 2) (ht : A 4 0 + 100 < 2147483648) : ∃ r R σ' τ', r < 256 ∧ (if 15 ≤ c ∧ c ≤ 23 then x_M (d + 5) 90 [.ref 12, .int (nI c), .int (nI (aPr A 1))] σ else x_M (d + 5) 92 [.ref 0, .int (nI c), .int (nI (aPr A 1))] σ) = some (nI r, σ') ∧ x_M (d + 6) 140 [.ref 19, .int (nI c), .int (nI (aPr A 1))] τ = some (nI r, τ') ∧ XC R σ' ∧ XM R τ' ∧ KR R ∧ LR R ∧ Ka A R := by
  have hde : aPr A 1 < 65536 := aPr_lt (wx_wq h.2) (by decide)
  have hcn := x_cnt_lt h.2
  rw [m140]
  by_cases c1 : c = 1
  · subst c1
    obtain ⟨v, σ1, τ1, hv, q1, p1, s1, t1, k1⟩ := take_ok (d + 3) (d + 4) h k kr (h1 rfl)
    refine ⟨v, aTk A, σ1, τ1, hv, ?_, ?_, s1, t1, k1, ?_, ?_⟩
    · rw [if_neg (by omega), m92, if_pos (by decide), q1, bnd0]
    · have p2 : x_M (d + 5) 107 [.ref 19] τ = some (nI v, τ1) := p1
      rw [if_pos (by decide), yv_cnt k, if_neg (by exact nz (by omega) (by have := h1 rfl; omega)), p2, bnd0]
    · unfold LR
      rw [aTk_v, if_neg (by omega), if_neg (by omega), if_neg (by omega), aTk_v, if_neg (by omega), if_neg (by omega), if_neg (by omega)]
      exact lr
    · refine ⟨?_, ?_, ⟨?_, ?_⟩, ?_, ?_, ?_⟩
      · funext j; rw [aTk_v, if_neg (by omega), if_neg (by omega), if_neg (by omega)]
      · funext j; rw [aTk_v, if_neg (by omega), if_neg (by omega), if_neg (by omega)]
      · rw [aTk_v, if_neg (by omega), if_neg (by omega), if_neg (by omega)]
      · rw [aTk_v, if_neg (by omega), if_neg (by omega), if_neg (by omega)]
      · rw [aTk_v, if_neg (by omega), if_neg (by omega), if_neg (by omega)]
      · intro j _; rw [aTk_v, if_neg (by omega), if_neg (by omega), if_neg (by omega)]
      · rw [aTk_v, if_neg (by omega), if_neg (by omega), if_neg (by omega)]; omega
  · have n1 : ¬ nI c = (1 : Int32) := fun z => c1 ((nI_eq (b := 1) (by omega) (by omega)).mp z)
    rw [if_neg n1]
    by_cases c2 : c = 2
    · subst c2
      have h3 : A 2 3 < 256 := h.2 2 3 (by decide)
      have e3 : aPr A 1 % 256 = A 2 3 := by
        unfold aPr
        rw [if_neg (by decide)]
        show (A 2 2 * 256 + A 2 3) % 256 = A 2 3
        omega
      obtain ⟨σ1, q1, s1⟩ := c_show (d + 3) h h3 (by omega)
      obtain ⟨τ1, p1, t1⟩ := y_show (d + 4) k h3 (by omega)
      have g3 : τ 22 3 = nI (A 2 3) := (xm_cq k).1.2.1 3 (by decide)
      refine ⟨0, _, σ1, τ1, by decide, ?_, ?_, s1, t1, sh_KR (sh_one A _) kr, sh_LR (sh_one A _) lr, sh_Ka (sh_le (sh_one A _) (by decide))⟩
      · rw [if_neg (by omega), m92, if_neg n1, if_pos (by decide), n_and255 (by omega), e3, q1, bnd0]
        rfl
      · rw [if_pos (by decide), g3, p1, bnd0]
        rfl
    · have n2 : ¬ nI c = (2 : Int32) := fun z => c2 ((nI_eq (b := 2) (by omega) (by omega)).mp z)
      rw [if_neg n2]
      by_cases c9 : c = 9
      · subst c9
        obtain ⟨σ1, q1, s1⟩ := c_tx (d + 2) hde 64 (by omega) A σ 4999 h (by omega) (by omega)
        obtain ⟨τ1, p1, t1⟩ := y_tx (d + 4) hde 64 (by omega) A τ 4999 k (by omega) (by omega)
        have q2 : x_M (d + 4) 91 [.ref 0, .int (nI (aPr A 1))] σ = some (0, σ1) := (m91 (d + 3) _ _).trans q1
        refine ⟨0, _, σ1, τ1, by decide, ?_, ?_, s1, t1, sh_KR (sh_tx _ 64 A) kr, sh_LR (sh_tx _ 64 A) lr, sh_Ka (sh_tx _ 64 A)⟩
        · rw [if_neg (by omega), m92, if_neg n1, if_neg n2, if_pos (by decide), q2, bnd0]
          rfl
        · rw [if_pos (by decide)]
          exact p1
      · have n9 : ¬ nI c = (9 : Int32) := fun z => c9 ((nI_eq (b := 9) (by omega) (by omega)).mp z)
        rw [if_neg n9]
        by_cases c11 : c = 11
        · subst c11
          by_cases g : A 4 2 = 0
          · refine ⟨0, A, σ, τ, by decide, ?_, ?_, h, k, kr, lr, sh_Ka (sh_refl A _)⟩
            · rw [if_neg (by omega), m92, if_neg n1, if_neg n2, if_neg n9, if_pos (by decide), m5, xv_cnt h, g, if_pos (by decide), bnd0]
              rfl
            · rw [if_pos (by decide), yv_cnt k, g, if_pos (by decide)]
              rfl
          · refine ⟨255, A, σ, τ, by decide, ?_, ?_, h, k, kr, lr, sh_Ka (sh_refl A _)⟩
            · rw [if_neg (by omega), m92, if_neg n1, if_neg n2, if_neg n9, if_pos (by decide), m5, xv_cnt h, if_neg (by exact nz (by omega) g), bnd0]
              rfl
            · rw [if_pos (by decide), yv_cnt k, if_neg (by intro z; have := (nI_leI (b := 0) (by omega) (by omega)).mp z; omega)]
              rfl
        · have n11 : ¬ nI c = (11 : Int32) := fun z => c11 ((nI_eq (b := 11) (by omega) (by omega)).mp z)
          rw [if_neg n11]
          by_cases c26 : c = 26
          · subst c26
            have s1 : XC (a_up A 4 1 (aPr A 1)) (x_up σ 12 3 (nI (aPr A 1))) := xc_up h 4 1 (by decide) hde
            have t1 : XM (a_up A 4 1 (aPr A 1)) (x_up τ 19 6 (nI (aPr A 1))) := xm_up k 4 1 (by decide) hde
            refine ⟨0, _, _, _, by decide, ?_, ?_, s1, t1, ?_, ?_, ?_⟩
            · rw [if_neg (by omega), m92, if_neg n1, if_neg n2, if_neg n9, if_neg n11, if_pos (by decide)]
              rfl
            · rw [if_pos (by decide)]
              rfl
            · intro i hi
              rw [a_ne (by omega)] at hi
              rw [a_row (by decide), a_row (by decide), a_row (by decide)]
              exact kr i hi
            · unfold LR
              rw [a_row (by decide), a_row (by decide)]
              exact lr
            · exact ⟨a_row (by decide), a_row (by decide), ⟨by rw [a_row (by decide)], by rw [a_row (by decide)]⟩, by rw [a_row (by decide)], fun j _ => by rw [a_row (by decide)], by rw [a_ne (by omega)]; omega⟩
          · have n26 : ¬ nI c = (26 : Int32) := fun z => c26 ((nI_eq (b := 26) (by omega) (by omega)).mp z)
            rw [if_neg n26]
            by_cases c15 : 15 ≤ c ∧ c ≤ 23
            · obtain ⟨r, R, σ1, τ1, q1, p1, s1, t1, hr, kp⟩ := files_ok d h k hde lr c15.1 c15.2
              refine ⟨r, R, σ1, τ1, hr, ?_, ?_, s1, t1, kp_KR kp kr, kp.2.2.2, kp_Ka kp⟩
              · rw [if_pos c15, q1]
              · rw [if_neg (by intro z; have := (nI_ltI (b := 15) (by omega) (by omega)).mp z; omega), if_neg (by intro z; have := (nI_ltI (a := 23) (by omega) (by omega)).mp z; omega), p1, bnd0]
            · refine ⟨0, A, σ, τ, by decide, ?_, ?_, h, k, kr, lr, sh_Ka (sh_refl A _)⟩
              · rw [if_neg c15, m92, if_neg n1, if_neg n2, if_neg n9, if_neg n11, if_neg n26]
                rfl
              · by_cases g : c < 15
                · rw [if_pos (by exact (nI_ltI (b := 15) (by omega) (by omega)).mpr g)]
                  rfl
                · rw [if_neg (by intro z; exact g ((nI_ltI (b := 15) (by omega) (by omega)).mp z)), if_pos (by exact (nI_ltI (a := 23) (by omega) (by omega)).mpr (by omega))]
                  rfl
theorem c_popX (h : XC A σ) : x_M (d + 2) 70 [.ref 3] σ = some (nI (aWd A (A 3 0)), x_up σ 3 2 (nI ((A 3 0 + 2) % 65536))) := by
  have hs := (xc_cp h).2.2.2.1
  rw [m70, cv_sp (xc_cp h), c_word2 d (xc_cp h) (by omega), bnd0]
  dsimp only
  rw [cv_sp (xc_cp h), show (2 : Int32) = nI 2 from rfl, nI_add, n_and65535 (by omega)]
theorem y_popX (h : XM A σ) : x_M (d + 3) 142 [.ref 19] σ = some (nI (aWd A (A 3 0)), x_up σ 19 4 (nI ((A 3 0 + 2) % 65536))) := by
  have hs := (xm_cq h).2.2.2.1
  rw [m142, mv_sp (xm_cq h), m_word d (xm_cq h) (by omega), bnd0]
  dsimp only
  rw [mv_sp (xm_cq h), show (2 : Int32) = nI 2 from rfl, nI_add, n_and65535 (by omega)]
end S1
