/-! The class's processor: moves, jumps, the stack, a step -/
theorem nz {a : Nat} (ha : a < 2147483648) (e : ¬ a = 0) : ¬ nI a = (0 : Int32) := fun q => e ((nI_eq (by omega) (by omega)).mp q)
section C4
variable {A : aS} {σ : xS} (d : Nat)
def aN2 (A : aS) : aS := aNx (aNx A)
def aAH (A : aS) (w : Nat) : aS := a_up (aSP A 2 (aPr A 2 + w)) 3 6 ((aPr A 2 + w) / 65536)
theorem c_addHL (h : CP A σ) {w : Nat} (hw : w < 65536) : ∃ σ', x_M (d + 2) 51 [.ref 3, .int (nI w)] σ = some (0, σ') ∧ CP (aAH A w) σ' := by
  have hp := aPr_lt h.2 (p := 2) (by decide)
  obtain ⟨σ1, e1, h1⟩ := c_setPair d h (p := 2) (w := aPr A 2 + w) (by decide) (by omega)
  have e0 := c_pair2 d h (p := 2) (by decide)
  rw [m51, show (2 : Int32) = nI 2 from rfl, e0]
  simp only [bnd0]
  rw [nI_add, e1]
  simp only [bnd0]
  rw [n_shr16 (by omega)]
  have h2 := cp_fl h1 6 (v := (aPr A 2 + w) / 65536) (by decide) (by decide) (by omega)
  exact ⟨_, rfl, h2⟩
def aMA (A : aS) (y : Nat) : aS := match y with
  | 0 => a_up A 0 (aPr A 0 % 512) (A 2 7 % 256)
  | 1 => a_up A 2 7 (A 0 (aPr A 0 % 512))
  | 2 => a_up A 0 (aPr A 1 % 512) (A 2 7 % 256)
  | 3 => a_up A 2 7 (A 0 (aPr A 1 % 512))
  | 4 => a_up (a_up (aN2 A) 0 (aWd A (A 3 1) % 512) (aPr (aN2 A) 2 % 256)) 0 ((aWd A (A 3 1) + 1) % 512) (aPr (aN2 A) 2 / 256 % 256)
  | 5 => aSP (aN2 A) 2 (aWd (aN2 A) (aWd A (A 3 1)))
  | 6 => a_up (aN2 A) 0 (aWd A (A 3 1) % 512) (aN2 A 2 7 % 256)
  | _ => a_up (aN2 A) 2 7 (aN2 A 0 (aWd A (A 3 1) % 512))
theorem c_moveA (h : CP A σ) {y : Nat} (hy : y < 8) : ∃ σ', x_M (d + 4) 53 [.ref 3, .int (nI y)] σ = some (0, σ') ∧ CP (aMA A y) σ' := by
  have ha := h.2.2.1 7 (by decide)
  have hw := aWd_lt h.2 (A 3 1)
  have p0 := aPr_lt h.2 (p := 0) (by decide)
  have p1 := aPr_lt h.2 (p := 1) (by decide)
  have q0 := c_pair2 (d + 2) h (p := 0) (by decide)
  have q1 := c_pair2 (d + 2) h (p := 1) (by decide)
  obtain ⟨σ1, e1, h1⟩ := c_nextWord d h
  have hy' : y = 0 ∨ y = 1 ∨ y = 2 ∨ y = 3 ∨ y = 4 ∨ y = 5 ∨ y = 6 ∨ y = 7 := by omega
  rw [m53]
  rcases hy' with rfl | rfl | rfl | rfl | rfl | rfl | rfl | rfl
  · obtain ⟨σ2, e2, h2⟩ := c_put2 (d + 2) h (a := aPr A 0) (v := A 2 7) (by omega) (by omega)
    simp (disch := omega) only [L0, L1, L2, L3, L4, L5, L6, L7, L8, L9, L10, L11, L13, L15, L16, L17, L18, L19, L20, L21, L22, L23, L26, L31, L32, L36, L40, L48, L62, L63, L64, L65, L67, L68, L69, L72, L73, L76, L79, L80, L82, L83, L84, L86, L87, L96, L118, L126, L128, L153, L229, L255, L256, L496, L511, L512, L1000, L65535, Lm1, N_and1, N_and7, N_and15, N_and31, N_and63, N_and255, N_and511, N_and65535, N_shr1, N_shr2, N_shr3, N_shr4, N_shr6, N_shr7, N_shr8, N_shr16, N_shl1, N_shl2, N_shl4, N_shl6, N_shl7, N_shl8, nI_add, pk_mul, n_sub, n_or8, n_or8', n_eq, n_lt, n_le, n_cl, n_div, Nat.reduceMod, if_neg, if_pos, bnd0, Nat.zero_div, q0, cv_A h, e2]
    exact ⟨_, rfl, h2⟩
  · have g := c_get (d + 2) h.1 (a := aPr A 0) (by omega)
    have b := h.2.1 (aPr A 0 % 512) (by omega)
    simp (disch := omega) only [L0, L1, L2, L3, L4, L5, L6, L7, L8, L9, L10, L11, L13, L15, L16, L17, L18, L19, L20, L21, L22, L23, L26, L31, L32, L36, L40, L48, L62, L63, L64, L65, L67, L68, L69, L72, L73, L76, L79, L80, L82, L83, L84, L86, L87, L96, L118, L126, L128, L153, L229, L255, L256, L496, L511, L512, L1000, L65535, Lm1, N_and1, N_and7, N_and15, N_and31, N_and63, N_and255, N_and511, N_and65535, N_shr1, N_shr2, N_shr3, N_shr4, N_shr6, N_shr7, N_shr8, N_shr16, N_shl1, N_shl2, N_shl4, N_shl6, N_shl7, N_shl8, nI_add, pk_mul, n_sub, n_or8, n_or8', n_eq, n_lt, n_le, n_cl, n_div, Nat.reduceMod, if_neg, if_pos, bnd0, Nat.reduceDiv, q0, g]
    exact ⟨_, rfl, cp_reg h (by decide) b⟩
  · obtain ⟨σ2, e2, h2⟩ := c_put2 (d + 2) h (a := aPr A 1) (v := A 2 7) (by omega) (by omega)
    simp (disch := omega) only [L0, L1, L2, L3, L4, L5, L6, L7, L8, L9, L10, L11, L13, L15, L16, L17, L18, L19, L20, L21, L22, L23, L26, L31, L32, L36, L40, L48, L62, L63, L64, L65, L67, L68, L69, L72, L73, L76, L79, L80, L82, L83, L84, L86, L87, L96, L118, L126, L128, L153, L229, L255, L256, L496, L511, L512, L1000, L65535, Lm1, N_and1, N_and7, N_and15, N_and31, N_and63, N_and255, N_and511, N_and65535, N_shr1, N_shr2, N_shr3, N_shr4, N_shr6, N_shr7, N_shr8, N_shr16, N_shl1, N_shl2, N_shl4, N_shl6, N_shl7, N_shl8, nI_add, pk_mul, n_sub, n_or8, n_or8', n_eq, n_lt, n_le, n_cl, n_div, Nat.reduceMod, if_neg, if_pos, bnd0, Nat.reduceDiv, q1, cv_A h, e2]
    exact ⟨_, rfl, h2⟩
  · have g := c_get (d + 2) h.1 (a := aPr A 1) (by omega)
    have b := h.2.1 (aPr A 1 % 512) (by omega)
    simp (disch := omega) only [L0, L1, L2, L3, L4, L5, L6, L7, L8, L9, L10, L11, L13, L15, L16, L17, L18, L19, L20, L21, L22, L23, L26, L31, L32, L36, L40, L48, L62, L63, L64, L65, L67, L68, L69, L72, L73, L76, L79, L80, L82, L83, L84, L86, L87, L96, L118, L126, L128, L153, L229, L255, L256, L496, L511, L512, L1000, L65535, Lm1, N_and1, N_and7, N_and15, N_and31, N_and63, N_and255, N_and511, N_and65535, N_shr1, N_shr2, N_shr3, N_shr4, N_shr6, N_shr7, N_shr8, N_shr16, N_shl1, N_shl2, N_shl4, N_shl6, N_shl7, N_shl8, nI_add, pk_mul, n_sub, n_or8, n_or8', n_eq, n_lt, n_le, n_cl, n_div, Nat.reduceMod, if_neg, if_pos, bnd0, Nat.reduceDiv, q1, g]
    exact ⟨_, rfl, cp_reg h (by decide) b⟩
  · have q2 := c_pair2 (d + 2) h1 (p := 2) (by decide)
    have b2 := aPr_lt h1.2 (p := 2) (by decide)
    obtain ⟨σ2, e2, h2⟩ := c_putWord2 (d + 2) h1 (a := aWd A (A 3 1)) (v := aPr (aNx (aNx A)) 2) (by omega) (by omega)
    simp (disch := omega) only [L0, L1, L2, L3, L4, L5, L6, L7, L8, L9, L10, L11, L13, L15, L16, L17, L18, L19, L20, L21, L22, L23, L26, L31, L32, L36, L40, L48, L62, L63, L64, L65, L67, L68, L69, L72, L73, L76, L79, L80, L82, L83, L84, L86, L87, L96, L118, L126, L128, L153, L229, L255, L256, L496, L511, L512, L1000, L65535, Lm1, N_and1, N_and7, N_and15, N_and31, N_and63, N_and255, N_and511, N_and65535, N_shr1, N_shr2, N_shr3, N_shr4, N_shr6, N_shr7, N_shr8, N_shr16, N_shl1, N_shl2, N_shl4, N_shl6, N_shl7, N_shl8, nI_add, pk_mul, n_sub, n_or8, n_or8', n_eq, n_lt, n_le, n_cl, n_div, Nat.reduceMod, if_neg, if_pos, bnd0, e1, q2, e2]
    exact ⟨_, rfl, h2⟩
  · have q2 := c_word2 (d + 2) h1 (a := aWd A (A 3 1)) (by omega)
    have b2 := aWd_lt h1.2 (aWd A (A 3 1))
    obtain ⟨σ2, e2, h2⟩ := c_setPair (d + 2) h1 (p := 2) (w := aWd (aNx (aNx A)) (aWd A (A 3 1))) (by decide) (by omega)
    rw [if_neg (by decide), if_neg (by decide), if_neg (by decide), if_neg (by decide), if_neg (by decide), if_pos (by decide), e1]
    simp only [bnd0]
    rw [q2]
    simp only [bnd0]
    rw [show (2 : Int32) = nI 2 from rfl, e2]
    exact ⟨_, rfl, h2⟩
  · have b2 := h1.2.2.1 7 (by decide)
    obtain ⟨σ2, e2, h2⟩ := c_put2 (d + 2) h1 (a := aWd A (A 3 1)) (v := aNx (aNx A) 2 7) (by omega) (by omega)
    simp (disch := omega) only [L0, L1, L2, L3, L4, L5, L6, L7, L8, L9, L10, L11, L13, L15, L16, L17, L18, L19, L20, L21, L22, L23, L26, L31, L32, L36, L40, L48, L62, L63, L64, L65, L67, L68, L69, L72, L73, L76, L79, L80, L82, L83, L84, L86, L87, L96, L118, L126, L128, L153, L229, L255, L256, L496, L511, L512, L1000, L65535, Lm1, N_and1, N_and7, N_and15, N_and31, N_and63, N_and255, N_and511, N_and65535, N_shr1, N_shr2, N_shr3, N_shr4, N_shr6, N_shr7, N_shr8, N_shr16, N_shl1, N_shl2, N_shl4, N_shl6, N_shl7, N_shl8, nI_add, pk_mul, n_sub, n_or8, n_or8', n_eq, n_lt, n_le, n_cl, n_div, Nat.reduceMod, if_neg, if_pos, bnd0, e1, cv_A h1, e2]
    exact ⟨_, rfl, h2⟩
  · have g := c_get (d + 2) h1.1 (a := aWd A (A 3 1)) (by omega)
    have b := h1.2.1 (aWd A (A 3 1) % 512) (by omega)
    simp (disch := omega) only [L0, L1, L2, L3, L4, L5, L6, L7, L8, L9, L10, L11, L13, L15, L16, L17, L18, L19, L20, L21, L22, L23, L26, L31, L32, L36, L40, L48, L62, L63, L64, L65, L67, L68, L69, L72, L73, L76, L79, L80, L82, L83, L84, L86, L87, L96, L118, L126, L128, L153, L229, L255, L256, L496, L511, L512, L1000, L65535, Lm1, N_and1, N_and7, N_and15, N_and31, N_and63, N_and255, N_and511, N_and65535, N_shr1, N_shr2, N_shr3, N_shr4, N_shr6, N_shr7, N_shr8, N_shr16, N_shl1, N_shl2, N_shl4, N_shl6, N_shl7, N_shl8, nI_add, pk_mul, n_sub, n_or8, n_or8', n_eq, n_lt, n_le, n_cl, n_div, Nat.reduceMod, if_neg, if_pos, bnd0, e1, g]
    exact ⟨_, rfl, cp_reg h1 (by decide) b⟩
def aAd (A : aS) (m : Nat) : aS := if 153 < A 2 7 ∨ A 3 6 = 1 then aJu (a_up (a_up (a_up A 3 4 ((A 2 7 % 16 + m) / 16)) 3 6 1) 2 7 ((A 2 7 + (m + 96)) % 256)) ((A 2 7 + (m + 96)) % 256) else aJu (a_up (a_up A 3 4 ((A 2 7 % 16 + m) / 16)) 2 7 ((A 2 7 + m) % 256)) ((A 2 7 + m) % 256)
theorem c_adj2 (h : CP A σ) {m : Nat} (hm : m < 7) (n : Nat) : ∃ σ', xr x_i62 (d + 2) (n + 1) 31 [(0, .ref 3), (1, .int (nI (A 2 7)))] [.int (nI m)] σ = some (0, σ') ∧ CP (aAd A m) σ' := by
  have ha := h.2.2.1 7 (by decide)
  have hc := h.2.2.2.2.2 6 (by decide) (by decide)
  have h0 := cp_fl h 4 (v := (A 2 7 % 16 + m) / 16) (by decide) (by decide) (by omega)
  obtain ⟨σ1, e1, h1⟩ := c_judge d (cp_reg (cp_fl h0 6 (v := 1) (by decide) (by decide) (by decide)) (i := 7) (v := (A 2 7 + (m + 96)) % 256) (by decide) (by omega)) (v := (A 2 7 + (m + 96)) % 256) (by omega)
  obtain ⟨σ2, e2, h2⟩ := c_judge d (cp_reg h0 (i := 7) (v := (A 2 7 + m) % 256) (by decide) (by omega)) (v := (A 2 7 + m) % 256) (by omega)
  rw [c62_31]
  unfold aAd
  by_cases g1 : 153 < A 2 7
  · rw [if_pos (Or.inl g1)]
    simp (disch := omega) only [L0, L1, L2, L3, L4, L5, L6, L7, L8, L9, L10, L11, L13, L15, L16, L17, L18, L19, L20, L21, L22, L23, L26, L31, L32, L36, L40, L48, L62, L63, L64, L65, L67, L68, L69, L72, L73, L76, L79, L80, L82, L83, L84, L86, L87, L96, L118, L126, L128, L153, L229, L255, L256, L496, L511, L512, L1000, L65535, Lm1, N_and1, N_and7, N_and15, N_and31, N_and63, N_and255, N_and511, N_and65535, N_shr1, N_shr2, N_shr3, N_shr4, N_shr6, N_shr7, N_shr8, N_shr16, N_shl1, N_shl2, N_shl4, N_shl6, N_shl7, N_shl8, nI_add, pk_mul, n_sub, n_or8, n_or8', n_eq, n_lt, n_le, n_cl, n_div, Nat.reduceMod, if_neg, if_pos, bnd0, x_up_at]
    exact ⟨_, by rw [e1]; rfl, h1⟩
  · by_cases g2 : A 3 6 = 1
    · rw [if_pos (Or.inr g2)]
      simp (disch := omega) only [L0, L1, L2, L3, L4, L5, L6, L7, L8, L9, L10, L11, L13, L15, L16, L17, L18, L19, L20, L21, L22, L23, L26, L31, L32, L36, L40, L48, L62, L63, L64, L65, L67, L68, L69, L72, L73, L76, L79, L80, L82, L83, L84, L86, L87, L96, L118, L126, L128, L153, L229, L255, L256, L496, L511, L512, L1000, L65535, Lm1, N_and1, N_and7, N_and15, N_and31, N_and63, N_and255, N_and511, N_and65535, N_shr1, N_shr2, N_shr3, N_shr4, N_shr6, N_shr7, N_shr8, N_shr16, N_shl1, N_shl2, N_shl4, N_shl6, N_shl7, N_shl8, nI_add, pk_mul, n_sub, n_or8, n_or8', n_eq, n_lt, n_le, n_cl, n_div, Nat.reduceMod, if_neg, if_pos, bnd0, x_up_at, x_up_off, cv_ca h]
      exact ⟨_, by rw [e1]; rfl, h1⟩
    · rw [if_neg (show ¬ (153 < A 2 7 ∨ A 3 6 = 1) from fun q => q.elim g1 g2)]
      simp (disch := omega) only [L0, L1, L2, L3, L4, L5, L6, L7, L8, L9, L10, L11, L13, L15, L16, L17, L18, L19, L20, L21, L22, L23, L26, L31, L32, L36, L40, L48, L62, L63, L64, L65, L67, L68, L69, L72, L73, L76, L79, L80, L82, L83, L84, L86, L87, L96, L118, L126, L128, L153, L229, L255, L256, L496, L511, L512, L1000, L65535, Lm1, N_and1, N_and7, N_and15, N_and31, N_and63, N_and255, N_and511, N_and65535, N_shr1, N_shr2, N_shr3, N_shr4, N_shr6, N_shr7, N_shr8, N_shr16, N_shl1, N_shl2, N_shl4, N_shl6, N_shl7, N_shl8, nI_add, pk_mul, n_sub, n_or8, n_or8', n_eq, n_lt, n_le, n_cl, n_div, Nat.reduceMod, if_neg, if_pos, bnd0, x_up_at, x_up_off, cv_ca h]
      exact ⟨_, by rw [e2]; rfl, h2⟩
def aDA (A : aS) : aS := aAd A (if 9 < A 2 7 % 16 ∨ A 3 4 = 1 then 6 else 0)
theorem c_adjust (h : CP A σ) : ∃ σ', x_M (d + 3) 62 [.ref 3] σ = some (0, σ') ∧ CP (aDA A) σ' := by
  have ha := h.2.2.1 7 (by decide)
  have hh := h.2.2.2.2.2 4 (by decide) (by decide)
  rw [m62, cv_A h]
  unfold aDA
  by_cases g1 : 9 < A 2 7 % 16
  · rw [if_pos (Or.inl g1), n_and15 (by omega), if_pos (show (9 : Int32) < nI _ from (nI_ltI (a := 9) (by decide) (by omega)).mpr g1)]
    exact c_adj2 d h (m := 6) (by decide) 4998
  · rw [n_and15 (by omega), if_neg (show ¬ (9 : Int32) < nI _ from fun q => g1 ((nI_ltI (a := 9) (by decide) (by omega)).mp q)), cv_ha h]
    by_cases g2 : A 3 4 = 1
    · rw [if_pos (show 9 < A 2 7 % 16 ∨ A 3 4 = 1 from Or.inr g2), g2, if_pos (show nI 1 = (1 : Int32) from rfl)]
      exact c_adj2 d h (m := 6) (by decide) 4998
    · rw [if_neg (show ¬ (9 < A 2 7 % 16 ∨ A 3 4 = 1) from fun q => q.elim g1 g2), if_neg (show ¬ nI _ = (1 : Int32) from fun q => g2 ((nI_eq (by omega) (by omega)).mp q))]
      exact c_adj2 d h (m := 0) (by decide) 4998
def aCA (A : aS) (y : Nat) : aS := match y with
  | 0 => aTL A (A 2 7 / 128)
  | 1 => aTR A (A 2 7 % 2)
  | 2 => aTL A (A 3 6)
  | 3 => aTR A (A 3 6)
  | 4 => aDA A
  | 5 => a_up A 2 7 (255 - A 2 7)
  | 6 => a_up A 3 6 1
  | _ => a_up A 3 6 (1 - A 3 6)
theorem c_changeA (h : CP A σ) {y : Nat} (hy : y < 8) : ∃ σ', x_M (d + 4) 63 [.ref 3, .int (nI y)] σ = some (0, σ') ∧ CP (aCA A y) σ' := by
  have ha := h.2.2.1 7 (by decide)
  have hc := h.2.2.2.2.2 6 (by decide) (by decide)
  have hy' : y = 0 ∨ y = 1 ∨ y = 2 ∨ y = 3 ∨ y = 4 ∨ y = 5 ∨ y = 6 ∨ y = 7 := by omega
  rw [m63]
  rcases hy' with rfl | rfl | rfl | rfl | rfl | rfl | rfl | rfl
  · obtain ⟨σ1, e1, h1⟩ := c_turnL (d + 2) h (b := A 2 7 / 128) (by omega)
    simp (disch := omega) only [L0, L1, L2, L3, L4, L5, L6, L7, L8, L9, L10, L11, L13, L15, L16, L17, L18, L19, L20, L21, L22, L23, L26, L31, L32, L36, L40, L48, L62, L63, L64, L65, L67, L68, L69, L72, L73, L76, L79, L80, L82, L83, L84, L86, L87, L96, L118, L126, L128, L153, L229, L255, L256, L496, L511, L512, L1000, L65535, Lm1, N_and1, N_and7, N_and15, N_and31, N_and63, N_and255, N_and511, N_and65535, N_shr1, N_shr2, N_shr3, N_shr4, N_shr6, N_shr7, N_shr8, N_shr16, N_shl1, N_shl2, N_shl4, N_shl6, N_shl7, N_shl8, nI_add, pk_mul, n_sub, n_or8, n_or8', n_eq, n_lt, n_le, n_cl, n_div, Nat.reduceMod, if_neg, if_pos, bnd0, cv_A h, e1]
    exact ⟨_, rfl, h1⟩
  · obtain ⟨σ1, e1, h1⟩ := c_turnR (d + 2) h (b := A 2 7 % 2) (by omega)
    simp (disch := omega) only [L0, L1, L2, L3, L4, L5, L6, L7, L8, L9, L10, L11, L13, L15, L16, L17, L18, L19, L20, L21, L22, L23, L26, L31, L32, L36, L40, L48, L62, L63, L64, L65, L67, L68, L69, L72, L73, L76, L79, L80, L82, L83, L84, L86, L87, L96, L118, L126, L128, L153, L229, L255, L256, L496, L511, L512, L1000, L65535, Lm1, N_and1, N_and7, N_and15, N_and31, N_and63, N_and255, N_and511, N_and65535, N_shr1, N_shr2, N_shr3, N_shr4, N_shr6, N_shr7, N_shr8, N_shr16, N_shl1, N_shl2, N_shl4, N_shl6, N_shl7, N_shl8, nI_add, pk_mul, n_sub, n_or8, n_or8', n_eq, n_lt, n_le, n_cl, n_div, Nat.reduceMod, if_neg, if_pos, bnd0, cv_A h, e1]
    exact ⟨_, rfl, h1⟩
  · obtain ⟨σ1, e1, h1⟩ := c_turnL (d + 2) h (b := A 3 6) (by omega)
    simp (disch := omega) only [L0, L1, L2, L3, L4, L5, L6, L7, L8, L9, L10, L11, L13, L15, L16, L17, L18, L19, L20, L21, L22, L23, L26, L31, L32, L36, L40, L48, L62, L63, L64, L65, L67, L68, L69, L72, L73, L76, L79, L80, L82, L83, L84, L86, L87, L96, L118, L126, L128, L153, L229, L255, L256, L496, L511, L512, L1000, L65535, Lm1, N_and1, N_and7, N_and15, N_and31, N_and63, N_and255, N_and511, N_and65535, N_shr1, N_shr2, N_shr3, N_shr4, N_shr6, N_shr7, N_shr8, N_shr16, N_shl1, N_shl2, N_shl4, N_shl6, N_shl7, N_shl8, nI_add, pk_mul, n_sub, n_or8, n_or8', n_eq, n_lt, n_le, n_cl, n_div, Nat.reduceMod, if_neg, if_pos, bnd0, cv_ca h, e1]
    exact ⟨_, rfl, h1⟩
  · obtain ⟨σ1, e1, h1⟩ := c_turnR (d + 2) h (b := A 3 6) (by omega)
    simp (disch := omega) only [L0, L1, L2, L3, L4, L5, L6, L7, L8, L9, L10, L11, L13, L15, L16, L17, L18, L19, L20, L21, L22, L23, L26, L31, L32, L36, L40, L48, L62, L63, L64, L65, L67, L68, L69, L72, L73, L76, L79, L80, L82, L83, L84, L86, L87, L96, L118, L126, L128, L153, L229, L255, L256, L496, L511, L512, L1000, L65535, Lm1, N_and1, N_and7, N_and15, N_and31, N_and63, N_and255, N_and511, N_and65535, N_shr1, N_shr2, N_shr3, N_shr4, N_shr6, N_shr7, N_shr8, N_shr16, N_shl1, N_shl2, N_shl4, N_shl6, N_shl7, N_shl8, nI_add, pk_mul, n_sub, n_or8, n_or8', n_eq, n_lt, n_le, n_cl, n_div, Nat.reduceMod, if_neg, if_pos, bnd0, cv_ca h, e1]
    exact ⟨_, rfl, h1⟩
  · obtain ⟨σ1, e1, h1⟩ := c_adjust d h
    simp (disch := omega) only [L0, L1, L2, L3, L4, L5, L6, L7, L8, L9, L10, L11, L13, L15, L16, L17, L18, L19, L20, L21, L22, L23, L26, L31, L32, L36, L40, L48, L62, L63, L64, L65, L67, L68, L69, L72, L73, L76, L79, L80, L82, L83, L84, L86, L87, L96, L118, L126, L128, L153, L229, L255, L256, L496, L511, L512, L1000, L65535, Lm1, N_and1, N_and7, N_and15, N_and31, N_and63, N_and255, N_and511, N_and65535, N_shr1, N_shr2, N_shr3, N_shr4, N_shr6, N_shr7, N_shr8, N_shr16, N_shl1, N_shl2, N_shl4, N_shl6, N_shl7, N_shl8, nI_add, pk_mul, n_sub, n_or8, n_or8', n_eq, n_lt, n_le, n_cl, n_div, Nat.reduceMod, if_neg, if_pos, bnd0, e1]
    exact ⟨_, rfl, h1⟩
  · simp (disch := omega) only [L0, L1, L2, L3, L4, L5, L6, L7, L8, L9, L10, L11, L13, L15, L16, L17, L18, L19, L20, L21, L22, L23, L26, L31, L32, L36, L40, L48, L62, L63, L64, L65, L67, L68, L69, L72, L73, L76, L79, L80, L82, L83, L84, L86, L87, L96, L118, L126, L128, L153, L229, L255, L256, L496, L511, L512, L1000, L65535, Lm1, N_and1, N_and7, N_and15, N_and31, N_and63, N_and255, N_and511, N_and65535, N_shr1, N_shr2, N_shr3, N_shr4, N_shr6, N_shr7, N_shr8, N_shr16, N_shl1, N_shl2, N_shl4, N_shl6, N_shl7, N_shl8, nI_add, pk_mul, n_sub, n_or8, n_or8', n_eq, n_lt, n_le, n_cl, n_div, Nat.reduceMod, if_neg, if_pos, bnd0, cv_A h]
    exact ⟨_, rfl, cp_reg h (by decide) (by omega)⟩
  · simp (disch := omega) only [L0, L1, L2, L3, L4, L5, L6, L7, L8, L9, L10, L11, L13, L15, L16, L17, L18, L19, L20, L21, L22, L23, L26, L31, L32, L36, L40, L48, L62, L63, L64, L65, L67, L68, L69, L72, L73, L76, L79, L80, L82, L83, L84, L86, L87, L96, L118, L126, L128, L153, L229, L255, L256, L496, L511, L512, L1000, L65535, Lm1, N_and1, N_and7, N_and15, N_and31, N_and63, N_and255, N_and511, N_and65535, N_shr1, N_shr2, N_shr3, N_shr4, N_shr6, N_shr7, N_shr8, N_shr16, N_shl1, N_shl2, N_shl4, N_shl6, N_shl7, N_shl8, nI_add, pk_mul, n_sub, n_or8, n_or8', n_eq, n_lt, n_le, n_cl, n_div, Nat.reduceMod, if_neg, if_pos, bnd0]
    exact ⟨_, rfl, cp_fl h 6 (by decide) (by decide) (by decide)⟩
  · simp (disch := omega) only [L0, L1, L2, L3, L4, L5, L6, L7, L8, L9, L10, L11, L13, L15, L16, L17, L18, L19, L20, L21, L22, L23, L26, L31, L32, L36, L40, L48, L62, L63, L64, L65, L67, L68, L69, L72, L73, L76, L79, L80, L82, L83, L84, L86, L87, L96, L118, L126, L128, L153, L229, L255, L256, L496, L511, L512, L1000, L65535, Lm1, N_and1, N_and7, N_and15, N_and31, N_and63, N_and255, N_and511, N_and65535, N_shr1, N_shr2, N_shr3, N_shr4, N_shr6, N_shr7, N_shr8, N_shr16, N_shl1, N_shl2, N_shl4, N_shl6, N_shl7, N_shl8, nI_add, pk_mul, n_sub, n_or8, n_or8', n_eq, n_lt, n_le, n_cl, n_div, Nat.reduceMod, if_neg, if_pos, bnd0, cv_ca h]
    exact ⟨_, rfl, cp_fl h 6 (by decide) (by decide) (by omega)⟩
theorem aSP_dec (A : aS) {p a : Nat} (ha : 0 < a) (ha2 : a < 65536) : aSP A p (a - 1) = aSP A p (a + 65535) := by
  unfold aSP
  have e1 : (a - 1) % 65536 = (a + 65535) % 65536 := by omega
  have e2 : (a - 1) / 256 % 256 = (a + 65535) / 256 % 256 := by omega
  have e3 : (a - 1) % 256 = (a + 65535) % 256 := by omega
  rw [e1, e2, e3]
theorem c_pairDec (h : CP A σ) {p : Nat} (hp : p < 4) : ∃ σ', x_M (d + 1) 49 [.ref 3, .int (nI p), .int (nI (aPr A p) + (-1))] σ = some (0, σ') ∧ CP (aSP A p (aPr A p + 65535)) σ' := by
  have hb := aPr_lt h.2 hp
  by_cases e : aPr A p = 0
  · rw [e, m49]
    unfold aSP
    by_cases e3 : p = 3
    · subst e3
      rw [if_pos (show nI 3 = (3 : Int32) from rfl), if_pos rfl, show (nI 0 + (-1)) &&& Int32.ofNat 65535 = nI ((0 + 65535) % 65536) from by decide]
      exact ⟨_, rfl, cp_sp h (by decide)⟩
    · rw [if_neg e3, show ((nI 0 + (-1)) >>> ((8 : Int32) &&& 31)) &&& (255 : Int32) = nI ((0 + 65535) / 256 % 256) from by decide, show (nI 0 + (-1)) &&& (255 : Int32) = nI ((0 + 65535) % 256) from by decide]
      simp (disch := omega) only [L0, L1, L2, L3, L4, L5, L6, L7, L8, L9, L10, L11, L13, L15, L16, L17, L18, L19, L20, L21, L22, L23, L26, L31, L32, L36, L40, L48, L62, L63, L64, L65, L67, L68, L69, L72, L73, L76, L79, L80, L82, L83, L84, L86, L87, L96, L118, L126, L128, L153, L229, L255, L256, L496, L511, L512, L1000, L65535, Lm1, N_and1, N_and7, N_and15, N_and31, N_and63, N_and255, N_and511, N_and65535, N_shr1, N_shr2, N_shr3, N_shr4, N_shr6, N_shr7, N_shr8, N_shr16, N_shl1, N_shl2, N_shl4, N_shl6, N_shl7, N_shl8, nI_add, pk_mul, n_sub, n_or8, n_or8', n_eq, n_lt, n_le, n_cl, n_div, Nat.reduceMod, if_neg, if_pos, bnd0]
      refine ⟨_, rfl, ?_⟩
      refine cp_reg (cp_reg h ?_ ?_) ?_ ?_ <;> omega
  · rw [sb_m1 (by omega), ← aSP_dec A (by omega) hb]
    exact c_setPair d h hp (by omega)
def aMC (A : aS) (y z : Nat) : aS := match z with
  | 0 => A
  | 1 => if y % 2 = 0 then aSP (aN2 A) (y / 2) (aWd A (A 3 1)) else aAH A (aPr A (y / 2))
  | 2 => aMA A y
  | 3 => if y % 2 = 0 then aSP A (y / 2) (aPr A (y / 2) + 1) else aSP A (y / 2) (aPr A (y / 2) + 65535)
  | 4 => aGw A y
  | 5 => aFa A y
  | 6 => aPR (aNx A) y (A 0 (A 3 1 % 512))
  | _ => aCA A y
theorem c_moveOr (h : CP A σ) {y z : Nat} (hy : y < 8) (hz : z < 8) : ∃ σ', x_M (d + 5) 64 [.ref 3, .int (nI y), .int (nI z)] σ = some (0, σ') ∧ CP (aMC A y z) σ' := by
  have hp := aPr_lt h.2 (p := y / 2) (by omega)
  have q := c_pair2 (d + 3) h (p := y / 2) (by omega)
  have hw := aWd_lt h.2 (A 3 1)
  have hz' : z = 0 ∨ z = 1 ∨ z = 2 ∨ z = 3 ∨ z = 4 ∨ z = 5 ∨ z = 6 ∨ z = 7 := by omega
  rw [m64]
  rcases hz' with rfl | rfl | rfl | rfl | rfl | rfl | rfl | rfl
  · simp (disch := omega) only [L0, L1, L2, L3, L4, L5, L6, L7, L8, L9, L10, L11, L13, L15, L16, L17, L18, L19, L20, L21, L22, L23, L26, L31, L32, L36, L40, L48, L62, L63, L64, L65, L67, L68, L69, L72, L73, L76, L79, L80, L82, L83, L84, L86, L87, L96, L118, L126, L128, L153, L229, L255, L256, L496, L511, L512, L1000, L65535, Lm1, N_and1, N_and7, N_and15, N_and31, N_and63, N_and255, N_and511, N_and65535, N_shr1, N_shr2, N_shr3, N_shr4, N_shr6, N_shr7, N_shr8, N_shr16, N_shl1, N_shl2, N_shl4, N_shl6, N_shl7, N_shl8, nI_add, pk_mul, n_sub, n_or8, n_or8', n_eq, n_lt, n_le, n_cl, n_div, Nat.reduceMod, if_neg, if_pos, bnd0]
    exact ⟨_, rfl, h⟩
  · by_cases e : y % 2 = 0
    · obtain ⟨σ1, e1, h1⟩ := c_nextWord (d + 1) h
      obtain ⟨σ2, e2, h2⟩ := c_setPair (d + 3) h1 (p := y / 2) (w := aWd A (A 3 1)) (by omega) (by omega)
      simp (disch := omega) only [L0, L1, L2, L3, L4, L5, L6, L7, L8, L9, L10, L11, L13, L15, L16, L17, L18, L19, L20, L21, L22, L23, L26, L31, L32, L36, L40, L48, L62, L63, L64, L65, L67, L68, L69, L72, L73, L76, L79, L80, L82, L83, L84, L86, L87, L96, L118, L126, L128, L153, L229, L255, L256, L496, L511, L512, L1000, L65535, Lm1, N_and1, N_and7, N_and15, N_and31, N_and63, N_and255, N_and511, N_and65535, N_shr1, N_shr2, N_shr3, N_shr4, N_shr6, N_shr7, N_shr8, N_shr16, N_shl1, N_shl2, N_shl4, N_shl6, N_shl7, N_shl8, nI_add, pk_mul, n_sub, n_or8, n_or8', n_eq, n_lt, n_le, n_cl, n_div, Nat.reduceMod, if_neg, if_pos, bnd0, e1, e2]
      refine ⟨_, rfl, ?_⟩
      unfold aMC
      simp only [if_pos e]
      exact h2
    · obtain ⟨σ2, e2, h2⟩ := c_addHL (d + 2) h (w := aPr A (y / 2)) (by omega)
      simp (disch := omega) only [L0, L1, L2, L3, L4, L5, L6, L7, L8, L9, L10, L11, L13, L15, L16, L17, L18, L19, L20, L21, L22, L23, L26, L31, L32, L36, L40, L48, L62, L63, L64, L65, L67, L68, L69, L72, L73, L76, L79, L80, L82, L83, L84, L86, L87, L96, L118, L126, L128, L153, L229, L255, L256, L496, L511, L512, L1000, L65535, Lm1, N_and1, N_and7, N_and15, N_and31, N_and63, N_and255, N_and511, N_and65535, N_shr1, N_shr2, N_shr3, N_shr4, N_shr6, N_shr7, N_shr8, N_shr16, N_shl1, N_shl2, N_shl4, N_shl6, N_shl7, N_shl8, nI_add, pk_mul, n_sub, n_or8, n_or8', n_eq, n_lt, n_le, n_cl, n_div, Nat.reduceMod, if_neg, if_pos, bnd0, q, e2]
      refine ⟨_, rfl, ?_⟩
      unfold aMC
      simp only [if_neg e]
      exact h2
  · obtain ⟨σ1, e1, h1⟩ := c_moveA d h hy
    simp (disch := omega) only [L0, L1, L2, L3, L4, L5, L6, L7, L8, L9, L10, L11, L13, L15, L16, L17, L18, L19, L20, L21, L22, L23, L26, L31, L32, L36, L40, L48, L62, L63, L64, L65, L67, L68, L69, L72, L73, L76, L79, L80, L82, L83, L84, L86, L87, L96, L118, L126, L128, L153, L229, L255, L256, L496, L511, L512, L1000, L65535, Lm1, N_and1, N_and7, N_and15, N_and31, N_and63, N_and255, N_and511, N_and65535, N_shr1, N_shr2, N_shr3, N_shr4, N_shr6, N_shr7, N_shr8, N_shr16, N_shl1, N_shl2, N_shl4, N_shl6, N_shl7, N_shl8, nI_add, pk_mul, n_sub, n_or8, n_or8', n_eq, n_lt, n_le, n_cl, n_div, Nat.reduceMod, if_neg, if_pos, bnd0, e1]
    exact ⟨_, rfl, h1⟩
  · by_cases e : y % 2 = 0
    · obtain ⟨σ2, e2, h2⟩ := c_setPair (d + 3) h (p := y / 2) (w := aPr A (y / 2) + 1) (by omega) (by omega)
      simp (disch := omega) only [L0, L1, L2, L3, L4, L5, L6, L7, L8, L9, L10, L11, L13, L15, L16, L17, L18, L19, L20, L21, L22, L23, L26, L31, L32, L36, L40, L48, L62, L63, L64, L65, L67, L68, L69, L72, L73, L76, L79, L80, L82, L83, L84, L86, L87, L96, L118, L126, L128, L153, L229, L255, L256, L496, L511, L512, L1000, L65535, Lm1, N_and1, N_and7, N_and15, N_and31, N_and63, N_and255, N_and511, N_and65535, N_shr1, N_shr2, N_shr3, N_shr4, N_shr6, N_shr7, N_shr8, N_shr16, N_shl1, N_shl2, N_shl4, N_shl6, N_shl7, N_shl8, nI_add, pk_mul, n_sub, n_or8, n_or8', n_eq, n_lt, n_le, n_cl, n_div, Nat.reduceMod, if_neg, if_pos, bnd0, q, e2]
      refine ⟨_, rfl, ?_⟩
      unfold aMC
      simp only [if_pos e]
      exact h2
    · obtain ⟨σ2, e2, h2⟩ := c_pairDec (d + 3) h (p := y / 2) (by omega)
      rw [if_neg (by decide), if_neg (by decide), if_neg (by decide), if_pos (by decide), n_shr1 (by omega), q]
      simp only [bnd0]
      rw [n_and1 (by omega), if_neg (nz (by omega) e), e2]
      refine ⟨_, rfl, ?_⟩
      unfold aMC
      simp only [if_neg e]
      exact h2
  · obtain ⟨σ1, e1, h1⟩ := c_grow (d + 1) h hy
    simp (disch := omega) only [L0, L1, L2, L3, L4, L5, L6, L7, L8, L9, L10, L11, L13, L15, L16, L17, L18, L19, L20, L21, L22, L23, L26, L31, L32, L36, L40, L48, L62, L63, L64, L65, L67, L68, L69, L72, L73, L76, L79, L80, L82, L83, L84, L86, L87, L96, L118, L126, L128, L153, L229, L255, L256, L496, L511, L512, L1000, L65535, Lm1, N_and1, N_and7, N_and15, N_and31, N_and63, N_and255, N_and511, N_and65535, N_shr1, N_shr2, N_shr3, N_shr4, N_shr6, N_shr7, N_shr8, N_shr16, N_shl1, N_shl2, N_shl4, N_shl6, N_shl7, N_shl8, nI_add, pk_mul, n_sub, n_or8, n_or8', n_eq, n_lt, n_le, n_cl, n_div, Nat.reduceMod, if_neg, if_pos, bnd0, e1]
    exact ⟨_, rfl, h1⟩
  · obtain ⟨σ1, e1, h1⟩ := c_fall (d + 1) h hy
    simp (disch := omega) only [L0, L1, L2, L3, L4, L5, L6, L7, L8, L9, L10, L11, L13, L15, L16, L17, L18, L19, L20, L21, L22, L23, L26, L31, L32, L36, L40, L48, L62, L63, L64, L65, L67, L68, L69, L72, L73, L76, L79, L80, L82, L83, L84, L86, L87, L96, L118, L126, L128, L153, L229, L255, L256, L496, L511, L512, L1000, L65535, Lm1, N_and1, N_and7, N_and15, N_and31, N_and63, N_and255, N_and511, N_and65535, N_shr1, N_shr2, N_shr3, N_shr4, N_shr6, N_shr7, N_shr8, N_shr16, N_shl1, N_shl2, N_shl4, N_shl6, N_shl7, N_shl8, nI_add, pk_mul, n_sub, n_or8, n_or8', n_eq, n_lt, n_le, n_cl, n_div, Nat.reduceMod, if_neg, if_pos, bnd0, e1]
    exact ⟨_, rfl, h1⟩
  · have b := h.2.1 (A 3 1 % 512) (by omega)
    obtain ⟨σ1, e1, h1⟩ := c_next (d + 2) h
    obtain ⟨σ2, e2, h2⟩ := c_putR (d + 2) h1 (r := y) (v := A 0 (A 3 1 % 512)) hy b
    simp (disch := omega) only [L0, L1, L2, L3, L4, L5, L6, L7, L8, L9, L10, L11, L13, L15, L16, L17, L18, L19, L20, L21, L22, L23, L26, L31, L32, L36, L40, L48, L62, L63, L64, L65, L67, L68, L69, L72, L73, L76, L79, L80, L82, L83, L84, L86, L87, L96, L118, L126, L128, L153, L229, L255, L256, L496, L511, L512, L1000, L65535, Lm1, N_and1, N_and7, N_and15, N_and31, N_and63, N_and255, N_and511, N_and65535, N_shr1, N_shr2, N_shr3, N_shr4, N_shr6, N_shr7, N_shr8, N_shr16, N_shl1, N_shl2, N_shl4, N_shl6, N_shl7, N_shl8, nI_add, pk_mul, n_sub, n_or8, n_or8', n_eq, n_lt, n_le, n_cl, n_div, Nat.reduceMod, if_neg, if_pos, bnd0, e1, e2]
    exact ⟨_, rfl, h2⟩
  · obtain ⟨σ1, e1, h1⟩ := c_changeA d h hy
    simp (disch := omega) only [L0, L1, L2, L3, L4, L5, L6, L7, L8, L9, L10, L11, L13, L15, L16, L17, L18, L19, L20, L21, L22, L23, L26, L31, L32, L36, L40, L48, L62, L63, L64, L65, L67, L68, L69, L72, L73, L76, L79, L80, L82, L83, L84, L86, L87, L96, L118, L126, L128, L153, L229, L255, L256, L496, L511, L512, L1000, L65535, Lm1, N_and1, N_and7, N_and15, N_and31, N_and63, N_and255, N_and511, N_and65535, N_shr1, N_shr2, N_shr3, N_shr4, N_shr6, N_shr7, N_shr8, N_shr16, N_shl1, N_shl2, N_shl4, N_shl6, N_shl7, N_shl8, nI_add, pk_mul, n_sub, n_or8, n_or8', n_eq, n_lt, n_le, n_cl, n_div, Nat.reduceMod, if_neg, if_pos, bnd0, e1]
    exact ⟨_, rfl, h1⟩
end C4
