/-! The program counter brought back into 65536: it passes through all that doesn't read it -/
theorem x_up_self (σ : xS) (o k : Nat) : x_up σ o k (σ o k) = σ := by
  funext a j
  unfold x_up upd
  by_cases e1 : a = o <;> by_cases e2 : j = k <;> simp_all
def nrm (B : aS) : aS := a_up B 3 1 (B 3 1 % 65536)
theorem nrm_r {B : aS} {a j : Nat} (h : ¬ (a = 3 ∧ j = 1)) : nrm B a j = B a j := a_ne h
theorem nrm_v (B : aS) : nrm B 3 1 = B 3 1 % 65536 := a_at _ _ _ _
theorem nrm_up {B : aS} {o k v : Nat} (h : ¬ (o = 3 ∧ k = 1)) : a_up (nrm B) o k v = nrm (a_up B o k v) := by
  unfold nrm
  rw [a_cm _ (by omega), a_ne (show ¬ (3 = o ∧ 1 = k) by omega)]
theorem nrm_pc {B : aS} {w : Nat} (hw : w < 65536) : a_up (nrm B) 3 1 w = nrm (a_up B 3 1 w) := by
  unfold nrm
  rw [a_id, a_at, a_id, Nat.mod_eq_of_lt hw]
theorem nrm_pm (B : aS) (w : Nat) : a_up (nrm B) 3 1 (w % 65536) = nrm (a_up B 3 1 w) := by
  unfold nrm
  rw [a_id, a_at, a_id]
theorem nrm_id {B : aS} (h : B 3 1 < 65536) : nrm B = B := a_self _ (Nat.mod_eq_of_lt h)
theorem aPr_n (B : aS) (p : Nat) : aPr (nrm B) p = aPr B p := by
  unfold aPr
  rw [nrm_r (by omega), nrm_r (by omega), nrm_r (by omega)]
theorem aWd_n (B : aS) (a : Nat) : aWd (nrm B) a = aWd B a := by
  unfold aWd
  rw [nrm_r (by omega), nrm_r (by omega)]
theorem aWd_m (B : aS) (a : Nat) : aWd B (a % 65536) = aWd B a := by
  have e1 : (a % 65536 + 1) % 512 = (a + 1) % 512 := by omega
  have e2 : a % 65536 % 512 = a % 512 := by omega
  unfold aWd
  rw [e1, e2]
theorem aNx_n (B : aS) : aNx (nrm B) = nrm (a_up B 3 1 (B 3 1 + 1)) := by
  have e : (B 3 1 % 65536 + 1) % 65536 = (B 3 1 + 1) % 65536 := by omega
  unfold aNx
  rw [nrm_v, e, nrm_pm]
theorem aN2_n (B : aS) : aN2 (nrm B) = nrm (a_up B 3 1 (B 3 1 + 2)) := by
  unfold aN2
  rw [aNx_n, aNx_n, a_at, a_id]
theorem aGr_n (B : aS) (r : Nat) : aGr (nrm B) r = aGr B r := by
  unfold aGr
  rw [aPr_n, nrm_r (by omega), nrm_r (by omega)]
theorem aFg_n (B : aS) : aFg (nrm B) = aFg B := by
  unfold aFg
  rw [nrm_r (by omega), nrm_r (by omega), nrm_r (by omega), nrm_r (by omega), nrm_r (by omega)]
theorem aHo_n (B : aS) (y : Nat) : aHo (nrm B) y = aHo B y := by
  unfold aHo
  rw [nrm_r (by omega), nrm_r (by omega), nrm_r (by omega), nrm_r (by omega)]
theorem aSP_n (B : aS) (p w : Nat) : aSP (nrm B) p w = nrm (aSP B p w) := by
  unfold aSP
  split
  · rw [nrm_up (by omega)]
  · rw [nrm_up (by omega), nrm_up (by omega)]
theorem aPR_n (B : aS) (r v : Nat) : aPR (nrm B) r v = nrm (aPR B r v) := by
  unfold aPR
  rw [aPr_n]
  split
  · rw [nrm_up (by omega)]
  · rw [nrm_up (by omega)]
theorem aPu_n (B : aS) (w : Nat) : aPu (nrm B) w = nrm (aPu B w) := by
  unfold aPu
  rw [nrm_r (by omega), nrm_up (by omega), nrm_up (by omega), nrm_up (by omega)]
theorem aJu_n (B : aS) (v : Nat) : aJu (nrm B) v = nrm (aJu B v) := by
  unfold aJu
  rw [nrm_up (by omega), nrm_up (by omega), nrm_up (by omega)]
theorem aSF_n (B : aS) (f : Nat) : aSF (nrm B) f = nrm (aSF B f) := by
  unfold aSF
  rw [nrm_up (by omega), nrm_up (by omega), nrm_up (by omega), nrm_up (by omega), nrm_up (by omega)]
theorem aP2_n (B : aS) : aP2 (nrm B) = nrm (aP2 B) := by
  unfold aP2
  rw [nrm_r (by omega), nrm_up (by omega)]
theorem aPl_n (B : aS) (s c : Nat) : aPl (nrm B) s c = nrm (aPl B s c) := by
  unfold aPl
  rw [nrm_r (show ¬ (2 = 3 ∧ 7 = 1) by omega), nrm_up (by omega), nrm_up (by omega), aJu_n]
theorem aMi_n (B : aS) (s b : Nat) : aMi (nrm B) s b = nrm (aMi B s b) := by
  unfold aMi
  rw [aPl_n, nrm_r (by omega), nrm_up (by omega)]
theorem aSB_n (B : aS) (r : Nat) : aSB (nrm B) r = nrm (aSB B r) := by
  unfold aSB
  rw [nrm_up (by omega), nrm_up (by omega), aJu_n]
theorem aCb_n (B : aS) (y v : Nat) : aCb (nrm B) y v = nrm (aCb B y v) := by
  have r1 : nrm B 2 7 = B 2 7 := nrm_r (by omega)
  have r2 : nrm B 3 6 = B 3 6 := nrm_r (by omega)
  unfold aCb
  split <;> simp (disch := omega) only [r1, r2, aPl_n, aMi_n, aSB_n, nrm_up]
theorem aTL_n (B : aS) (b : Nat) : aTL (nrm B) b = nrm (aTL B b) := by
  unfold aTL
  rw [nrm_r (show ¬ (2 = 3 ∧ 7 = 1) by omega), nrm_up (by omega), nrm_up (by omega)]
theorem aTR_n (B : aS) (b : Nat) : aTR (nrm B) b = nrm (aTR B b) := by
  unfold aTR
  rw [nrm_r (show ¬ (2 = 3 ∧ 7 = 1) by omega), nrm_up (by omega), nrm_up (by omega)]
theorem aAd_n (B : aS) (m : Nat) : aAd (nrm B) m = nrm (aAd B m) := by
  unfold aAd
  rw [nrm_r (show ¬ (2 = 3 ∧ 7 = 1) by omega), nrm_r (show ¬ (3 = 3 ∧ 6 = 1) by omega)]
  split <;> simp (disch := omega) only [nrm_up, aJu_n]
theorem aDA_n (B : aS) : aDA (nrm B) = nrm (aDA B) := by
  unfold aDA
  rw [nrm_r (show ¬ (2 = 3 ∧ 7 = 1) by omega), nrm_r (show ¬ (3 = 3 ∧ 4 = 1) by omega), aAd_n]
theorem aCA_n (B : aS) (y : Nat) : aCA (nrm B) y = nrm (aCA B y) := by
  have r1 : nrm B 2 7 = B 2 7 := nrm_r (by omega)
  have r2 : nrm B 3 6 = B 3 6 := nrm_r (by omega)
  unfold aCA
  split <;> simp (disch := omega) only [r1, r2, aTL_n, aTR_n, aDA_n, nrm_up]
theorem aGw_n (B : aS) (r : Nat) : aGw (nrm B) r = nrm (aGw B r) := by
  unfold aGw
  rw [aGr_n, aPR_n, aJu_n, nrm_up (by omega)]
theorem aFa_n (B : aS) (r : Nat) : aFa (nrm B) r = nrm (aFa B r) := by
  unfold aFa
  rw [aGr_n, aPR_n, aJu_n, nrm_up (by omega)]
theorem aAH_n (B : aS) (w : Nat) : aAH (nrm B) w = nrm (aAH B w) := by
  unfold aAH
  rw [aPr_n, aSP_n, nrm_up (by omega)]
section M4
variable {A : aS} {σ : xS} (d : Nat)
theorem m_holds (h : CQ A σ) {y : Nat} (hy : y < 8) : x_M (d + 1) 154 [.ref 19, .int (nI y)] σ = some (nI (aHo A y), σ) := by
  have w2 := h.2.2.2.2.2 2 (by decide) (by decide)
  have w3 := h.2.2.2.2.2 3 (by decide) (by decide)
  have w5 := h.2.2.2.2.2 5 (by decide) (by decide)
  have w6 := h.2.2.2.2.2 6 (by decide) (by decide)
  rw [m154]
  unfold aHo
  have hz : y / 2 = 0 ∨ y / 2 = 1 ∨ y / 2 = 2 ∨ y / 2 = 3 := by omega
  rcases hz with e | e | e | e
  · by_cases g : A 3 3 = y % 2 <;> simp (disch := omega) only [L0, L1, L2, L3, L4, L5, L6, L7, L8, L9, L10, L11, L13, L15, L16, L17, L18, L19, L20, L21, L22, L23, L26, L31, L32, L36, L40, L48, L62, L63, L64, L65, L67, L68, L69, L72, L73, L76, L79, L80, L82, L83, L84, L86, L87, L96, L118, L126, L128, L153, L229, L255, L256, L496, L511, L512, L1000, L65535, Lm1, N_and1, N_and7, N_and15, N_and31, N_and63, N_and255, N_and511, N_and65535, N_shr1, N_shr2, N_shr3, N_shr4, N_shr6, N_shr7, N_shr8, N_shr16, N_shl1, N_shl2, N_shl4, N_shl6, N_shl7, N_shl8, nI_add, pk_mul, n_sub, n_or8, n_or8', n_eq, n_lt, n_le, n_cl, n_div, Nat.reduceMod, if_neg, if_pos, bnd0, mv_ze h]
  · by_cases g : A 3 6 = y % 2 <;> simp (disch := omega) only [L0, L1, L2, L3, L4, L5, L6, L7, L8, L9, L10, L11, L13, L15, L16, L17, L18, L19, L20, L21, L22, L23, L26, L31, L32, L36, L40, L48, L62, L63, L64, L65, L67, L68, L69, L72, L73, L76, L79, L80, L82, L83, L84, L86, L87, L96, L118, L126, L128, L153, L229, L255, L256, L496, L511, L512, L1000, L65535, Lm1, N_and1, N_and7, N_and15, N_and31, N_and63, N_and255, N_and511, N_and65535, N_shr1, N_shr2, N_shr3, N_shr4, N_shr6, N_shr7, N_shr8, N_shr16, N_shl1, N_shl2, N_shl4, N_shl6, N_shl7, N_shl8, nI_add, pk_mul, n_sub, n_or8, n_or8', n_eq, n_lt, n_le, n_cl, n_div, Nat.reduceMod, if_neg, if_pos, bnd0, mv_ca h]
  · by_cases g : A 3 5 = y % 2 <;> simp (disch := omega) only [L0, L1, L2, L3, L4, L5, L6, L7, L8, L9, L10, L11, L13, L15, L16, L17, L18, L19, L20, L21, L22, L23, L26, L31, L32, L36, L40, L48, L62, L63, L64, L65, L67, L68, L69, L72, L73, L76, L79, L80, L82, L83, L84, L86, L87, L96, L118, L126, L128, L153, L229, L255, L256, L496, L511, L512, L1000, L65535, Lm1, N_and1, N_and7, N_and15, N_and31, N_and63, N_and255, N_and511, N_and65535, N_shr1, N_shr2, N_shr3, N_shr4, N_shr6, N_shr7, N_shr8, N_shr16, N_shl1, N_shl2, N_shl4, N_shl6, N_shl7, N_shl8, nI_add, pk_mul, n_sub, n_or8, n_or8', n_eq, n_lt, n_le, n_cl, n_div, Nat.reduceMod, if_neg, if_pos, bnd0, mv_pa h]
  · by_cases g : A 3 2 = y % 2 <;> simp (disch := omega) only [L0, L1, L2, L3, L4, L5, L6, L7, L8, L9, L10, L11, L13, L15, L16, L17, L18, L19, L20, L21, L22, L23, L26, L31, L32, L36, L40, L48, L62, L63, L64, L65, L67, L68, L69, L72, L73, L76, L79, L80, L82, L83, L84, L86, L87, L96, L118, L126, L128, L153, L229, L255, L256, L496, L511, L512, L1000, L65535, Lm1, N_and1, N_and7, N_and15, N_and31, N_and63, N_and255, N_and511, N_and65535, N_shr1, N_shr2, N_shr3, N_shr4, N_shr6, N_shr7, N_shr8, N_shr16, N_shl1, N_shl2, N_shl4, N_shl6, N_shl7, N_shl8, nI_add, pk_mul, n_sub, n_or8, n_or8', n_eq, n_lt, n_le, n_cl, n_div, Nat.reduceMod, if_neg, if_pos, bnd0, mv_sg h]
theorem m_adj2 (h : CQ A σ) {m : Nat} (hm : m = 0 ∨ m = 6) (n : Nat) : ∃ σ', xr x_i150 (d + 1) (n + 1) 31 [(0, .ref 19), (1, .int (nI (A 2 7)))] [.int (nI m)] σ = some (0, σ') ∧ CQ (aAd A m) σ' := by
  have ha := h.2.2.1 7 (by decide)
  have hc := h.2.2.2.2.2 6 (by decide) (by decide)
  have hm7 : m < 7 := by omega
  obtain ⟨σ1, e1, h1⟩ := m_added d h (s := m + 96) (c := 0) (by omega) (by decide)
  obtain ⟨σ2, e2, h2⟩ := m_added d h (s := m) (c := 0) (by omega) (by decide)
  obtain ⟨σ3, e3, h3⟩ := m_tells d (mq_reg (mq_ca h1 (v := 1) (by decide)) (i := 7) (v := (A 2 7 + (m + 96) + 0) % 256) (by decide) (by omega)) (v := (A 2 7 + (m + 96) + 0) % 256) (by omega)
  obtain ⟨σ4, e4, h4⟩ := m_tells d (mq_reg (mq_ca h2 (v := 0) (by decide)) (i := 7) (v := (A 2 7 + m + 0) % 256) (by decide) (by omega)) (v := (A 2 7 + m + 0) % 256) (by omega)
  have k1 : (A 2 7 % 16 + (m + 96) % 16 + 0) / 16 = (A 2 7 % 16 + m) / 16 := by rcases hm with rfl | rfl <;> omega
  have k2 : (A 2 7 % 16 + m % 16 + 0) / 16 = (A 2 7 % 16 + m) / 16 := by rcases hm with rfl | rfl <;> omega
  rw [c150_31]
  unfold aAd
  by_cases g : 153 < A 2 7 ∨ A 3 6 = 1
  · rw [if_pos g]
    refine ⟨σ3, ?_, ?_⟩
    · by_cases g1 : 153 < A 2 7
      · simp (disch := omega) only [L0, L1, L2, L3, L4, L5, L6, L7, L8, L9, L10, L11, L13, L15, L16, L17, L18, L19, L20, L21, L22, L23, L26, L31, L32, L36, L40, L48, L62, L63, L64, L65, L67, L68, L69, L72, L73, L76, L79, L80, L82, L83, L84, L86, L87, L96, L118, L126, L128, L153, L229, L255, L256, L496, L511, L512, L1000, L65535, Lm1, N_and1, N_and7, N_and15, N_and31, N_and63, N_and255, N_and511, N_and65535, N_shr1, N_shr2, N_shr3, N_shr4, N_shr6, N_shr7, N_shr8, N_shr16, N_shl1, N_shl2, N_shl4, N_shl6, N_shl7, N_shl8, nI_add, pk_mul, n_sub, n_or8, n_or8', n_eq, n_lt, n_le, n_cl, n_div, Nat.reduceMod, if_neg, if_pos, bnd0, Nat.reduceMul, e1, e3]
      · have g2 : A 3 6 = 1 := g.elim (fun q => absurd q g1) id
        simp (disch := omega) only [L0, L1, L2, L3, L4, L5, L6, L7, L8, L9, L10, L11, L13, L15, L16, L17, L18, L19, L20, L21, L22, L23, L26, L31, L32, L36, L40, L48, L62, L63, L64, L65, L67, L68, L69, L72, L73, L76, L79, L80, L82, L83, L84, L86, L87, L96, L118, L126, L128, L153, L229, L255, L256, L496, L511, L512, L1000, L65535, Lm1, N_and1, N_and7, N_and15, N_and31, N_and63, N_and255, N_and511, N_and65535, N_shr1, N_shr2, N_shr3, N_shr4, N_shr6, N_shr7, N_shr8, N_shr16, N_shl1, N_shl2, N_shl4, N_shl6, N_shl7, N_shl8, nI_add, pk_mul, n_sub, n_or8, n_or8', n_eq, n_lt, n_le, n_cl, n_div, Nat.reduceMod, if_neg, if_pos, bnd0, Nat.reduceMul, mv_ca h, e1, e3]
    · unfold aAdd at h3
      rw [a_id, k1, Nat.add_zero] at h3
      exact h3
  · rw [if_neg g]
    have g1 : ¬ 153 < A 2 7 := fun q => g (Or.inl q)
    have g2 : ¬ A 3 6 = 1 := fun q => g (Or.inr q)
    refine ⟨σ4, ?_, ?_⟩
    · simp (disch := omega) only [L0, L1, L2, L3, L4, L5, L6, L7, L8, L9, L10, L11, L13, L15, L16, L17, L18, L19, L20, L21, L22, L23, L26, L31, L32, L36, L40, L48, L62, L63, L64, L65, L67, L68, L69, L72, L73, L76, L79, L80, L82, L83, L84, L86, L87, L96, L118, L126, L128, L153, L229, L255, L256, L496, L511, L512, L1000, L65535, Lm1, N_and1, N_and7, N_and15, N_and31, N_and63, N_and255, N_and511, N_and65535, N_shr1, N_shr2, N_shr3, N_shr4, N_shr6, N_shr7, N_shr8, N_shr16, N_shl1, N_shl2, N_shl4, N_shl6, N_shl7, N_shl8, nI_add, pk_mul, n_sub, n_or8, n_or8', n_eq, n_lt, n_le, n_cl, n_div, Nat.reduceMod, if_neg, if_pos, bnd0, Nat.reduceMul, Nat.add_zero, mv_ca h, e2, e4]
      simp (disch := omega) only [Nat.add_zero] at e2 e4
      simp only [e2, e4, bnd0]
    · unfold aAdd at h4
      rw [a_id, k2, Nat.add_zero, a_self (o := 3) (k := 6) (a_up A 3 4 ((A 2 7 % 16 + m) / 16)) (by rw [a_ne (by omega)]; omega)] at h4
      exact h4
theorem m_adjusts (h : CQ A σ) : ∃ σ', x_M (d + 2) 150 [.ref 19] σ = some (0, σ') ∧ CQ (aDA A) σ' := by
  have ha := h.2.2.1 7 (by decide)
  have hh := h.2.2.2.2.2 4 (by decide) (by decide)
  have er : nI (A 2 7) - nI (A 2 7) / 16 * 16 = nI (A 2 7 % 16) := n_rem (d := 16) (by omega) (by decide) (by decide)
  rw [m150, mv_A h, er]
  unfold aDA
  by_cases g1 : 9 < A 2 7 % 16
  · rw [if_pos (Or.inl g1), if_pos (show (9 : Int32) < nI _ from (nI_ltI (a := 9) (by decide) (by omega)).mpr g1)]
    exact m_adj2 d h (m := 6) (by decide) 4998
  · rw [if_neg (show ¬ (9 : Int32) < nI _ from fun q => g1 ((nI_ltI (a := 9) (by decide) (by omega)).mp q)), mv_ha h]
    by_cases g2 : A 3 4 = 1
    · rw [if_pos (show 9 < A 2 7 % 16 ∨ A 3 4 = 1 from Or.inr g2), g2, if_pos (show nI 1 = (1 : Int32) from rfl)]
      exact m_adj2 d h (m := 6) (by decide) 4998
    · rw [if_neg (show ¬ (9 < A 2 7 % 16 ∨ A 3 4 = 1) from fun q => q.elim g1 g2), if_neg (show ¬ nI _ = (1 : Int32) from fun q => g2 ((nI_eq (by omega) (by omega)).mp q))]
      exact m_adj2 d h (m := 0) (by decide) 4998
end M4
