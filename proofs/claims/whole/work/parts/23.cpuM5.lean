/-! The model's instruction -/
theorem p_up (B : aS) (x : Nat) {o k v : Nat} (h : ¬ (o = 3 ∧ k = 1)) : a_up (a_up B 3 1 x) o k v = a_up (a_up B o k v) 3 1 x := a_cm B (by omega)
theorem p_r (B : aS) (x : Nat) {a j : Nat} (h : ¬ (a = 3 ∧ j = 1)) : a_up B 3 1 x a j = B a j := a_ne h
theorem aPr_p (B : aS) (x p : Nat) : aPr (a_up B 3 1 x) p = aPr B p := by
  unfold aPr
  rw [p_r B x (by omega), p_r B x (by omega), p_r B x (by omega)]
theorem aWd_p (B : aS) (x a : Nat) : aWd (a_up B 3 1 x) a = aWd B a := by
  unfold aWd
  rw [p_r B x (by omega), p_r B x (by omega)]
theorem aHo_p (B : aS) (x y : Nat) : aHo (a_up B 3 1 x) y = aHo B y := by
  unfold aHo
  rw [p_r B x (by omega), p_r B x (by omega), p_r B x (by omega), p_r B x (by omega)]
theorem aGr_p (B : aS) (x r : Nat) : aGr (a_up B 3 1 x) r = aGr B r := by
  unfold aGr
  rw [aPr_p, p_r B x (by omega), p_r B x (by omega)]
theorem aSP_p (B : aS) (x p w : Nat) : aSP (a_up B 3 1 x) p w = a_up (aSP B p w) 3 1 x := by
  unfold aSP
  split
  · rw [p_up B x (by omega)]
  · rw [p_up B x (by omega), p_up _ x (by omega)]
theorem aPR_p (B : aS) (x r v : Nat) : aPR (a_up B 3 1 x) r v = a_up (aPR B r v) 3 1 x := by
  unfold aPR
  rw [aPr_p]
  split
  · rw [p_up B x (by omega)]
  · rw [p_up B x (by omega)]
theorem aPu_p (B : aS) (x w : Nat) : aPu (a_up B 3 1 x) w = a_up (aPu B w) 3 1 x := by
  unfold aPu
  rw [p_r B x (by omega), p_up B x (by omega), p_up _ x (by omega), p_up _ x (by omega)]
theorem aJu_p (B : aS) (x v : Nat) : aJu (a_up B 3 1 x) v = a_up (aJu B v) 3 1 x := by
  unfold aJu
  rw [p_up B x (by omega), p_up _ x (by omega), p_up _ x (by omega)]
theorem aPl_p (B : aS) (x s c : Nat) : aPl (a_up B 3 1 x) s c = a_up (aPl B s c) 3 1 x := by
  unfold aPl
  rw [p_r B x (show ¬ (2 = 3 ∧ 7 = 1) by omega), p_up B x (by omega), p_up _ x (by omega), aJu_p]
theorem aMi_p (B : aS) (x s b : Nat) : aMi (a_up B 3 1 x) s b = a_up (aMi B s b) 3 1 x := by
  unfold aMi
  rw [aPl_p, p_r _ x (by omega), p_up _ x (by omega)]
theorem aSB_p (B : aS) (x r : Nat) : aSB (a_up B 3 1 x) r = a_up (aSB B r) 3 1 x := by
  unfold aSB
  rw [p_up B x (by omega), p_up _ x (by omega), aJu_p]
theorem aCb_p (B : aS) (x y v : Nat) : aCb (a_up B 3 1 x) y v = a_up (aCb B y v) 3 1 x := by
  have r1 : a_up B 3 1 x 2 7 = B 2 7 := p_r B x (by omega)
  have r2 : a_up B 3 1 x 3 6 = B 3 6 := p_r B x (by omega)
  unfold aCb
  split <;> simp (disch := omega) only [r1, r2, aPl_p, aMi_p, aSB_p, p_up]
theorem aSP_c (B : aS) (w x : Nat) : a_up (aSP B 2 w) 3 6 x = aSP (a_up B 3 6 x) 2 w := by
  unfold aSP
  rw [if_neg (by decide), if_neg (by decide), a_cm _ (by omega), a_cm B (by omega)]
theorem aSF_m (B : aS) (v : Nat) : aSF B (v % 256) = aSF B v := by
  have e1 : v % 256 / 128 % 2 = v / 128 % 2 := by omega
  have e2 : v % 256 / 64 % 2 = v / 64 % 2 := by omega
  have e3 : v % 256 / 16 % 2 = v / 16 % 2 := by omega
  have e4 : v % 256 / 4 % 2 = v / 4 % 2 := by omega
  have e5 : v % 256 % 2 = v % 2 := by omega
  unfold aSF
  rw [e1, e2, e3, e4, e5]
theorem aSP_x (A : aS) (a b : Nat) : aSP (aSP A 2 b) 1 a = aSP (aSP A 1 a) 2 b := by
  unfold aSP
  simp only [show ¬ (2 = 3) from by decide, show ¬ (1 = 3) from by decide, if_false, Nat.reduceMul, Nat.reduceAdd]
  funext i j
  unfold a_up
  by_cases e : i = 2
  · by_cases e2 : j = 2 <;> by_cases e3 : j = 3 <;> by_cases e4 : j = 4 <;> by_cases e5 : j = 5 <;> simp_all
  · simp [e]
theorem aSP_pcv (B : aS) (p w : Nat) : aSP B p w 3 1 = B 3 1 := by
  unfold aSP
  split
  · rw [a_ne (by omega)]
  · rw [a_ne (by omega), a_ne (by omega)]
theorem aPR_pcv (B : aS) (r v : Nat) : aPR B r v 3 1 = B 3 1 := by
  unfold aPR
  split
  · rw [a_ne (by omega)]
  · rw [a_ne (by omega)]
theorem aPu_pcv (B : aS) (w : Nat) : aPu B w 3 1 = B 3 1 := by
  unfold aPu
  rw [a_ne (by omega), a_ne (by omega), a_ne (by omega)]
theorem aJu_pcv (B : aS) (v : Nat) : aJu B v 3 1 = B 3 1 := aJu_at B (by omega)
theorem aP2_pcv (B : aS) : aP2 B 3 1 = B 3 1 := a_ne (by omega)
theorem aCb_pcv (B : aS) (y v : Nat) : aCb B y v 3 1 = B 3 1 := by
  have h1 := congrFun (congrFun (aCb_p B (B 3 1) y v) 3) 1
  rw [a_self B rfl, a_at] at h1
  exact h1
theorem aCA_pcv (B : aS) (y : Nat) : aCA B y 3 1 = B 3 1 := by
  have hT : ∀ b, aTL B b 3 1 = B 3 1 := fun b => by unfold aTL; rw [a_ne (by omega), a_ne (by omega)]
  have hR : ∀ b, aTR B b 3 1 = B 3 1 := fun b => by unfold aTR; rw [a_ne (by omega), a_ne (by omega)]
  have hA : ∀ m, aAd B m 3 1 = B 3 1 := fun m => by
    unfold aAd
    split
    · rw [aJu_pcv, a_ne (by omega), a_ne (by omega), a_ne (by omega)]
    · rw [aJu_pcv, a_ne (by omega), a_ne (by omega)]
  unfold aCA
  split
  · exact hT _
  · exact hR _
  · exact hT _
  · exact hR _
  · exact hA _
  · rw [a_ne (by omega)]
  · rw [a_ne (by omega)]
  · rw [a_ne (by omega)]
section M6
variable {A : aS} {σ : xS} (d : Nat)
theorem n_rem8 {y : Nat} (hy : y < 2147483648) : nI y - nI y / 8 * 8 = nI (y % 8) := n_rem (d := 8) hy (by decide) (by decide)
theorem n_div2 {y : Nat} (hy : y < 2147483648) : nI y / 2 = nI (y / 2) := n_div (d := 2) hy (by decide) (by decide)
/-- one more, one less, of a register or of the byte at HL -/
theorem m_one (h : CQ A σ) {y z s : Nat} (hy : y < 8) (hz : z = 4 ∨ z = 5) (hs : s = if z = 4 then 1 else 255) (n : Nat) : ∃ σ', xr x_i152 (d + 3) (n + 1) 175 [(0, .ref 19), (1, .int (nI y)), (2, .int (nI z))] [.int (nI s), .int (nI (aGr A y))] σ = some (0, σ') ∧ CQ (if z = 4 then aGw A y else aFa A y) σ' := by
  have hg := aGr_lt h.2 hy
  have hs2 : s < 256 := by rw [hs]; split <;> omega
  obtain ⟨σ1, e1, h1⟩ := m_putR (d + 1) h (r := y) (v := (aGr A y + s) % 256) hy (by omega)
  have ev : (nI (aGr A y) + nI s) &&& 255 = nI ((aGr A y + s) % 256) := by rw [nI_add, n_and255 (by omega)]
  have er : nI ((aGr A y + s) % 256) - nI ((aGr A y + s) % 256) / 16 * 16 = nI ((aGr A y + s) % 256 % 16) := n_rem (d := 16) (by omega) (by decide) (by decide)
  rw [c152_175, ev, er, e1, bnd0]
  dsimp only
  rcases hz with rfl | rfl
  · rw [if_pos rfl] at hs
    subst hs
    rw [if_pos rfl]
    unfold aGw
    by_cases g : (aGr A y + 1) % 256 % 16 = 0
    · obtain ⟨σ2, e2, h2⟩ := m_tells (d + 2) (mq_ha h1 (v := 1) (by decide)) (v := (aGr A y + 1) % 256) (by omega)
      rw [if_pos g, aJu_cm _ (by omega)]
      rw [if_pos (by decide), g, if_pos (show nI 0 = (0 : Int32) from rfl), show (1 : Int32) = nI 1 from rfl, e2, bnd0]
      exact ⟨_, rfl, h2⟩
    · obtain ⟨σ2, e2, h2⟩ := m_tells (d + 2) (mq_ha h1 (v := 0) (by decide)) (v := (aGr A y + 1) % 256) (by omega)
      rw [if_neg g, aJu_cm _ (by omega)]
      rw [if_pos (by decide), if_neg (nz (by omega) g), show (0 : Int32) = nI 0 from rfl, e2, bnd0]
      exact ⟨_, rfl, h2⟩
  · rw [if_neg (by decide)] at hs
    subst hs
    rw [if_neg (show ¬ (5 = 4) from by decide)]
    unfold aFa
    by_cases g : (aGr A y + 255) % 256 % 16 = 15
    · obtain ⟨σ2, e2, h2⟩ := m_tells (d + 2) (mq_ha h1 (v := 0) (by decide)) (v := (aGr A y + 255) % 256) (by omega)
      rw [if_pos g, aJu_cm _ (by omega)]
      rw [if_neg (by decide), g, if_pos (show nI 15 = (15 : Int32) from rfl), show (0 : Int32) = nI 0 from rfl, e2, bnd0]
      exact ⟨_, rfl, h2⟩
    · obtain ⟨σ2, e2, h2⟩ := m_tells (d + 2) (mq_ha h1 (v := 1) (by decide)) (v := (aGr A y + 255) % 256) (by omega)
      rw [if_neg g, aJu_cm _ (by omega)]
      rw [if_neg (by decide), if_neg (show ¬ nI _ = (15 : Int32) from fun q => g ((nI_eq (by omega) (by omega)).mp q)), show (1 : Int32) = nI 1 from rfl, e2, bnd0]
      exact ⟨_, rfl, h2⟩
theorem aGw_pcv (B : aS) (r : Nat) : aGw B r 3 1 = B 3 1 := by
  unfold aGw
  rw [a_ne (by omega), aJu_pcv, aPR_pcv]
theorem aFa_pcv (B : aS) (r : Nat) : aFa B r 3 1 = B 3 1 := by
  unfold aFa
  rw [a_ne (by omega), aJu_pcv, aPR_pcv]
theorem m_steps0 (h : CQ A σ) {y z : Nat} (hy : y < 8) (hz : z < 8) (hp : A 3 1 < 66000) : ∃ σ' B, x_M (d + 4) 152 [.ref 19, .int (nI y), .int (nI z)] σ = some (0, σ') ∧ CQ B σ' ∧ nrm B = aMC (nrm A) y z ∧ B 3 1 < 66010 := by
  have b0 := h.2.1 (A 3 1 % 512) (by omega)
  have hw := aWd_lt h.2 (A 3 1)
  have pp := aPr_lt h.2 (p := y / 2) (by omega)
  have p2 := aPr_lt h.2 (p := 2) (by decide)
  have q := m_pair (d + 2) h (p := y / 2) (by omega)
  have q2 := m_pair (d + 2) h (p := 2) (by decide)
  rw [m152, mv_pc h, m_get (d + 2) h (by omega), bnd0]
  dsimp only
  rw [mv_pc h, m_word (d + 1) h (by omega), bnd0]
  dsimp only
  rw [n_rem2 (by omega), n_div2 (by omega)]
  have hz' : z = 0 ∨ z = 1 ∨ z = 2 ∨ z = 3 ∨ z = 4 ∨ z = 5 ∨ z = 6 ∨ z = 7 := by omega
  rcases hz' with rfl | rfl | rfl | rfl | rfl | rfl | rfl | rfl
  · refine ⟨σ, A, ?_, h, rfl, by omega⟩
    rw [if_neg (by decide)]
    refine (c152_56 (d + 3) 4998 _ _ _ _ _ _).trans ?_
    rw [if_neg (by decide), if_neg (by decide), if_neg (by decide), if_neg (by decide), if_neg (by decide), if_neg (by decide), if_neg (by decide)]
  · by_cases e : y % 2 = 0
    · obtain ⟨σ1, e1, h1⟩ := m_setPair (d + 2) h (p := y / 2) (w := aWd A (A 3 1)) (by omega) (by omega)
      refine ⟨_, _, ?_, mq_pc h1 (v := A 3 1 + 2) (by omega), ?_, ?_⟩
      · rw [if_pos (by decide), e, if_pos (by decide), e1, bnd0]
        dsimp only
        rw [mv_pc h1, aSP_pcv, show (2 : Int32) = nI 2 from rfl, nI_add]
      · simp only [aMC, e, if_true, aN2_n, aWd_n, nrm_v, aWd_m, aSP_n, aSP_p]
      · rw [a_at]; omega
    · rw [if_pos (by decide), if_neg (nz (by omega) e)]
      by_cases g : aPr A 2 + aPr A (y / 2) ≤ 65535
      · have gd : (aPr A 2 + aPr A (y / 2)) / 65536 = 0 := by omega
        obtain ⟨σ1, e1, h1⟩ := m_setPair (d + 2) (mq_ca h (v := 0) (by decide)) (p := 2) (w := aPr A 2 + aPr A (y / 2)) (by decide) (by omega)
        refine ⟨σ1, _, ?_, h1, ?_, ?_⟩
        · refine (c152_56 (d + 3) 4998 _ _ _ _ _ _).trans ?_
          rw [if_pos (by decide), show (2 : Int32) = nI 2 from rfl, q2, bnd0]
          dsimp only
          rw [q, bnd0]
          dsimp only
          rw [nI_add, if_pos (show nI _ ≤ Int32.ofNat 65535 from (nI_leI (by omega) (by decide)).mpr g), show (0 : Int32) = nI 0 from rfl, e1, bnd0]
        · simp only [aMC, e, if_false, aPr_n, aAH_n]
          unfold aAH
          rw [gd, aSP_c]
        · rw [aSP_pcv, a_ne (by omega)]; omega
      · have gd : (aPr A 2 + aPr A (y / 2)) / 65536 = 1 := by omega
        obtain ⟨σ1, e1, h1⟩ := m_setPair (d + 2) (mq_ca h (v := 1) (by decide)) (p := 2) (w := aPr A 2 + aPr A (y / 2)) (by decide) (by omega)
        refine ⟨σ1, _, ?_, h1, ?_, ?_⟩
        · refine (c152_56 (d + 3) 4998 _ _ _ _ _ _).trans ?_
          rw [if_pos (by decide), show (2 : Int32) = nI 2 from rfl, q2, bnd0]
          dsimp only
          rw [q, bnd0]
          dsimp only
          rw [nI_add, if_neg (show ¬ nI _ ≤ Int32.ofNat 65535 from fun z => g ((nI_leI (by omega) (by decide)).mp z)), show (1 : Int32) = nI 1 from rfl, e1, bnd0]
        · simp only [aMC, e, if_false, aPr_n, aAH_n]
          unfold aAH
          rw [gd, aSP_c]
        · rw [aSP_pcv, a_ne (by omega)]; omega
  · obtain ⟨σ1, B, e1, h1, h2, h3⟩ := m_moves d h hy hp
    refine ⟨σ1, B, ?_, h1, h2, h3⟩
    rw [if_neg (by decide)]
    refine (c152_56 (d + 3) 4998 _ _ _ _ _ _).trans ?_
    rw [if_neg (by decide), if_pos (by decide), e1, bnd0]
  · rw [if_neg (by decide)]
    by_cases e : y % 2 = 0
    · obtain ⟨σ1, e1, h1⟩ := m_setPair (d + 2) h (p := y / 2) (w := aPr A (y / 2) + 1) (by omega) (by omega)
      refine ⟨σ1, _, ?_, h1, ?_, ?_⟩
      · refine (c152_56 (d + 3) 4998 _ _ _ _ _ _).trans ?_
        rw [if_neg (by decide), if_neg (by decide), if_pos (by decide), q, bnd0]
        dsimp only
        rw [n_rem2 (by omega), e, if_pos (by decide), show (1 : Int32) = nI 1 from rfl, nI_add, e1, bnd0]
      · simp only [aMC, e, if_true, aPr_n, aSP_n]
      · rw [aSP_pcv]; omega
    · obtain ⟨σ1, e1, h1⟩ := m_pairDec (d + 2) h (p := y / 2) (by omega)
      refine ⟨σ1, _, ?_, h1, ?_, ?_⟩
      · refine (c152_56 (d + 3) 4998 _ _ _ _ _ _).trans ?_
        rw [if_neg (by decide), if_neg (by decide), if_pos (by decide), q, bnd0]
        dsimp only
        rw [n_rem2 (by omega), if_neg (nz (by omega) e), e1, bnd0]
      · simp only [aMC, e, if_false, aPr_n, aSP_n]
      · rw [aSP_pcv]; omega
  · obtain ⟨σ1, e1, h1⟩ := m_one d h (y := y) (z := 4) (s := 1) hy (Or.inl rfl) rfl 4997
    refine ⟨σ1, _, ?_, h1, ?_, ?_⟩
    · rw [if_neg (by decide)]
      refine (c152_56 (d + 3) 4998 _ _ _ _ _ _).trans ?_
      rw [if_neg (by decide), if_neg (by decide), if_neg (by decide), if_pos (by decide), m_getR (d + 1) h hy, bnd0, if_pos (by decide)]
      exact e1
    · rw [if_pos rfl]
      exact (aGw_n A y).symm
    · rw [if_pos rfl, aGw_pcv]; omega
  · obtain ⟨σ1, e1, h1⟩ := m_one d h (y := y) (z := 5) (s := 255) hy (Or.inr rfl) rfl 4997
    refine ⟨σ1, _, ?_, h1, ?_, ?_⟩
    · rw [if_neg (by decide)]
      refine (c152_56 (d + 3) 4998 _ _ _ _ _ _).trans ?_
      rw [if_neg (by decide), if_neg (by decide), if_neg (by decide), if_neg (by decide), if_pos (by decide), m_getR (d + 1) h hy, bnd0, if_neg (by decide)]
      exact e1
    · rw [if_neg (by decide)]
      exact (aFa_n A y).symm
    · rw [if_neg (by decide), aFa_pcv]; omega
  · obtain ⟨σ1, e1, h1⟩ := m_putR (d + 1) h (r := y) (v := A 0 (A 3 1 % 512)) hy b0
    refine ⟨_, _, ?_, mq_pc h1 (v := A 3 1 + 1) (by omega), ?_, ?_⟩
    · rw [if_neg (by decide)]
      refine (c152_56 (d + 3) 4998 _ _ _ _ _ _).trans ?_
      rw [if_neg (by decide), if_neg (by decide), if_neg (by decide), if_neg (by decide), if_neg (by decide), if_pos (by decide), e1, bnd0]
      dsimp only
      rw [mv_pc h1, aPR_pcv, show (1 : Int32) = nI 1 from rfl, nI_add]
    · have e : nrm A 0 (A 3 1 % 65536 % 512) = A 0 (A 3 1 % 512) := by
        rw [nrm_r (by omega)]
        exact congrArg (A 0) (by omega)
      simp only [aMC, aNx_n, nrm_v, e, aPR_n, aPR_p]
    · rw [a_at]; omega
  · obtain ⟨σ1, e1, h1⟩ := m_turns d h hy
    refine ⟨σ1, _, ?_, h1, (aCA_n A y).symm, ?_⟩
    · rw [if_neg (by decide)]
      refine (c152_56 (d + 3) 4998 _ _ _ _ _ _).trans ?_
      rw [if_neg (by decide), if_neg (by decide), if_neg (by decide), if_neg (by decide), if_neg (by decide), if_neg (by decide), if_pos (by decide), e1, bnd0]
    · rw [aCA_pcv]; omega
end M6
