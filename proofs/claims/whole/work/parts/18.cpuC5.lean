/-! The class's processor: jumps, calls, the stack; a step; the start -/
section C5
variable {A : aS} {σ : xS} (d : Nat)
theorem c_goTo (h : CP A σ) {w b : Nat} (hw : w < 65536) (hb : b < 2) : ∃ σ', x_M (d + 1) 72 [.ref 3, .int (nI w), .int (nI b)] σ = some (0, σ') ∧ CP (if b = 0 then A else a_up A 3 1 w) σ' := by
  rw [m72]
  by_cases e : b = 0
  · subst e
    rw [if_pos (show nI 0 = (0 : Int32) from rfl), if_pos rfl]
    exact ⟨_, rfl, h⟩
  · rw [if_neg (nz (by omega) e), if_neg e]
    exact ⟨_, rfl, cp_pc h (by omega)⟩
theorem c_callTo (h : CP A σ) {w b : Nat} (hw : w < 65536) (hb : b < 2) : ∃ σ', x_M (d + 3) 74 [.ref 3, .int (nI w), .int (nI b)] σ = some (0, σ') ∧ CP (if b = 0 then A else a_up (aPu A (A 3 1)) 3 1 w) σ' := by
  have hp := h.2.2.2.2.1
  rw [m74]
  by_cases e : b = 0
  · subst e
    rw [if_pos (show nI 0 = (0 : Int32) from rfl), if_pos rfl]
    exact ⟨_, rfl, h⟩
  · obtain ⟨σ1, e1, h1⟩ := c_push d h (w := A 3 1) (by omega)
    rw [if_neg (nz (by omega) e), if_neg e, cv_pc h, e1, bnd0]
    exact ⟨_, rfl, cp_pc h1 (by omega)⟩
def aP2 (A : aS) : aS := a_up A 3 0 ((A 3 0 + 2) % 65536)
def aPO (A : aS) (y : Nat) : aS := match y with
  | 1 => a_up (aP2 A) 3 1 (aWd A (A 3 0))
  | 3 => a_up (aP2 A) 3 1 (aWd A (A 3 0))
  | 5 => a_up A 3 1 (aPr A 2)
  | 6 => aSF (a_up (aP2 A) 2 7 (aWd A (A 3 0) / 256)) (aWd A (A 3 0))
  | 7 => a_up A 3 0 (aPr A 2)
  | y => aSP (aP2 A) (y / 2) (aWd A (A 3 0))
theorem c_popOr (h : CP A σ) {y : Nat} (hy : y < 8) : ∃ σ', x_M (d + 3) 71 [.ref 3, .int (nI y)] σ = some (0, σ') ∧ CP (aPO A y) σ' := by
  have hw := aWd_lt h.2 (A 3 0)
  have hp := aPr_lt h.2 (p := 2) (by decide)
  have q := c_pair2 (d + 1) h (p := 2) (by decide)
  obtain ⟨σ1, e1, h1⟩ := c_pop d h
  have hy' : y = 0 ∨ y = 1 ∨ y = 2 ∨ y = 3 ∨ y = 4 ∨ y = 5 ∨ y = 6 ∨ y = 7 := by omega
  rw [m71]
  rcases hy' with rfl | rfl | rfl | rfl | rfl | rfl | rfl | rfl
  · obtain ⟨σ2, e2, h2⟩ := c_setPair (d + 1) h1 (p := 0) (w := aWd A (A 3 0)) (by decide) (by omega)
    simp (disch := omega) only [L0, L1, L2, L3, L4, L5, L6, L7, L8, L9, L10, L11, L13, L15, L16, L17, L18, L19, L20, L21, L22, L23, L26, L31, L32, L36, L40, L48, L62, L63, L64, L65, L67, L68, L69, L72, L73, L76, L79, L80, L82, L83, L84, L86, L87, L96, L118, L126, L128, L153, L229, L255, L256, L496, L511, L512, L1000, L65535, Lm1, N_and1, N_and7, N_and15, N_and31, N_and63, N_and255, N_and511, N_and65535, N_shr1, N_shr2, N_shr3, N_shr4, N_shr6, N_shr7, N_shr8, N_shr16, N_shl1, N_shl2, N_shl4, N_shl6, N_shl7, N_shl8, nI_add, pk_mul, n_sub, n_or8, n_or8', n_eq, n_lt, n_le, n_cl, n_div, Nat.reduceMod, if_neg, if_pos, bnd0, Nat.zero_div, e1, e2]
    exact ⟨_, rfl, h2⟩
  · simp (disch := omega) only [L0, L1, L2, L3, L4, L5, L6, L7, L8, L9, L10, L11, L13, L15, L16, L17, L18, L19, L20, L21, L22, L23, L26, L31, L32, L36, L40, L48, L62, L63, L64, L65, L67, L68, L69, L72, L73, L76, L79, L80, L82, L83, L84, L86, L87, L96, L118, L126, L128, L153, L229, L255, L256, L496, L511, L512, L1000, L65535, Lm1, N_and1, N_and7, N_and15, N_and31, N_and63, N_and255, N_and511, N_and65535, N_shr1, N_shr2, N_shr3, N_shr4, N_shr6, N_shr7, N_shr8, N_shr16, N_shl1, N_shl2, N_shl4, N_shl6, N_shl7, N_shl8, nI_add, pk_mul, n_sub, n_or8, n_or8', n_eq, n_lt, n_le, n_cl, n_div, Nat.reduceMod, if_neg, if_pos, bnd0, e1]
    exact ⟨_, rfl, cp_pc h1 (by omega)⟩
  · obtain ⟨σ2, e2, h2⟩ := c_setPair (d + 1) h1 (p := 1) (w := aWd A (A 3 0)) (by decide) (by omega)
    simp (disch := omega) only [L0, L1, L2, L3, L4, L5, L6, L7, L8, L9, L10, L11, L13, L15, L16, L17, L18, L19, L20, L21, L22, L23, L26, L31, L32, L36, L40, L48, L62, L63, L64, L65, L67, L68, L69, L72, L73, L76, L79, L80, L82, L83, L84, L86, L87, L96, L118, L126, L128, L153, L229, L255, L256, L496, L511, L512, L1000, L65535, Lm1, N_and1, N_and7, N_and15, N_and31, N_and63, N_and255, N_and511, N_and65535, N_shr1, N_shr2, N_shr3, N_shr4, N_shr6, N_shr7, N_shr8, N_shr16, N_shl1, N_shl2, N_shl4, N_shl6, N_shl7, N_shl8, nI_add, pk_mul, n_sub, n_or8, n_or8', n_eq, n_lt, n_le, n_cl, n_div, Nat.reduceMod, if_neg, if_pos, bnd0, Nat.reduceDiv, e1, e2]
    exact ⟨_, rfl, h2⟩
  · simp (disch := omega) only [L0, L1, L2, L3, L4, L5, L6, L7, L8, L9, L10, L11, L13, L15, L16, L17, L18, L19, L20, L21, L22, L23, L26, L31, L32, L36, L40, L48, L62, L63, L64, L65, L67, L68, L69, L72, L73, L76, L79, L80, L82, L83, L84, L86, L87, L96, L118, L126, L128, L153, L229, L255, L256, L496, L511, L512, L1000, L65535, Lm1, N_and1, N_and7, N_and15, N_and31, N_and63, N_and255, N_and511, N_and65535, N_shr1, N_shr2, N_shr3, N_shr4, N_shr6, N_shr7, N_shr8, N_shr16, N_shl1, N_shl2, N_shl4, N_shl6, N_shl7, N_shl8, nI_add, pk_mul, n_sub, n_or8, n_or8', n_eq, n_lt, n_le, n_cl, n_div, Nat.reduceMod, if_neg, if_pos, bnd0, e1]
    exact ⟨_, rfl, cp_pc h1 (by omega)⟩
  · obtain ⟨σ2, e2, h2⟩ := c_setPair (d + 1) h1 (p := 2) (w := aWd A (A 3 0)) (by decide) (by omega)
    simp (disch := omega) only [L0, L1, L2, L3, L4, L5, L6, L7, L8, L9, L10, L11, L13, L15, L16, L17, L18, L19, L20, L21, L22, L23, L26, L31, L32, L36, L40, L48, L62, L63, L64, L65, L67, L68, L69, L72, L73, L76, L79, L80, L82, L83, L84, L86, L87, L96, L118, L126, L128, L153, L229, L255, L256, L496, L511, L512, L1000, L65535, Lm1, N_and1, N_and7, N_and15, N_and31, N_and63, N_and255, N_and511, N_and65535, N_shr1, N_shr2, N_shr3, N_shr4, N_shr6, N_shr7, N_shr8, N_shr16, N_shl1, N_shl2, N_shl4, N_shl6, N_shl7, N_shl8, nI_add, pk_mul, n_sub, n_or8, n_or8', n_eq, n_lt, n_le, n_cl, n_div, Nat.reduceMod, if_neg, if_pos, bnd0, Nat.reduceDiv, e1, e2]
    exact ⟨_, rfl, h2⟩
  · simp (disch := omega) only [L0, L1, L2, L3, L4, L5, L6, L7, L8, L9, L10, L11, L13, L15, L16, L17, L18, L19, L20, L21, L22, L23, L26, L31, L32, L36, L40, L48, L62, L63, L64, L65, L67, L68, L69, L72, L73, L76, L79, L80, L82, L83, L84, L86, L87, L96, L118, L126, L128, L153, L229, L255, L256, L496, L511, L512, L1000, L65535, Lm1, N_and1, N_and7, N_and15, N_and31, N_and63, N_and255, N_and511, N_and65535, N_shr1, N_shr2, N_shr3, N_shr4, N_shr6, N_shr7, N_shr8, N_shr16, N_shl1, N_shl2, N_shl4, N_shl6, N_shl7, N_shl8, nI_add, pk_mul, n_sub, n_or8, n_or8', n_eq, n_lt, n_le, n_cl, n_div, Nat.reduceMod, if_neg, if_pos, bnd0, q]
    exact ⟨_, rfl, cp_pc h (by omega)⟩
  · obtain ⟨σ2, e2, h2⟩ := c_setFlags (d + 1) (cp_reg h1 (i := 7) (v := aWd A (A 3 0) / 256) (by decide) (by omega)) (f := aWd A (A 3 0)) (by omega)
    simp (disch := omega) only [L0, L1, L2, L3, L4, L5, L6, L7, L8, L9, L10, L11, L13, L15, L16, L17, L18, L19, L20, L21, L22, L23, L26, L31, L32, L36, L40, L48, L62, L63, L64, L65, L67, L68, L69, L72, L73, L76, L79, L80, L82, L83, L84, L86, L87, L96, L118, L126, L128, L153, L229, L255, L256, L496, L511, L512, L1000, L65535, Lm1, N_and1, N_and7, N_and15, N_and31, N_and63, N_and255, N_and511, N_and65535, N_shr1, N_shr2, N_shr3, N_shr4, N_shr6, N_shr7, N_shr8, N_shr16, N_shl1, N_shl2, N_shl4, N_shl6, N_shl7, N_shl8, nI_add, pk_mul, n_sub, n_or8, n_or8', n_eq, n_lt, n_le, n_cl, n_div, Nat.reduceMod, if_neg, if_pos, bnd0, e1, e2]
    exact ⟨_, rfl, h2⟩
  · simp (disch := omega) only [L0, L1, L2, L3, L4, L5, L6, L7, L8, L9, L10, L11, L13, L15, L16, L17, L18, L19, L20, L21, L22, L23, L26, L31, L32, L36, L40, L48, L62, L63, L64, L65, L67, L68, L69, L72, L73, L76, L79, L80, L82, L83, L84, L86, L87, L96, L118, L126, L128, L153, L229, L255, L256, L496, L511, L512, L1000, L65535, Lm1, N_and1, N_and7, N_and15, N_and31, N_and63, N_and255, N_and511, N_and65535, N_shr1, N_shr2, N_shr3, N_shr4, N_shr6, N_shr7, N_shr8, N_shr16, N_shl1, N_shl2, N_shl4, N_shl6, N_shl7, N_shl8, nI_add, pk_mul, n_sub, n_or8, n_or8', n_eq, n_lt, n_le, n_cl, n_div, Nat.reduceMod, if_neg, if_pos, bnd0, q]
    exact ⟨_, rfl, cp_sp h (by omega)⟩
def aGX (A : aS) (y : Nat) : aS := match y with
  | 0 => a_up (aN2 A) 3 1 (aWd A (A 3 1))
  | 1 => a_up (aN2 A) 3 1 (aWd A (A 3 1))
  | 2 => aNx A
  | 3 => aNx A
  | 4 => aSP (a_up (a_up A 0 (A 3 0 % 512) (aPr A 2 % 256)) 0 ((A 3 0 + 1) % 512) (aPr A 2 / 256 % 256)) 2 (aWd A (A 3 0))
  | 5 => aSP (aSP A 1 (aPr A 2)) 2 (aPr A 1)
  | _ => A
theorem c_goOr (h : CP A σ) {y : Nat} (hy : y < 8) : ∃ σ', x_M (d + 4) 73 [.ref 3, .int (nI y)] σ = some (0, σ') ∧ CP (aGX A y) σ' := by
  have hs := h.2.2.2.1
  have hw := aWd_lt h.2 (A 3 1)
  have hw0 := aWd_lt h.2 (A 3 0)
  have p1 := aPr_lt h.2 (p := 1) (by decide)
  have p2 := aPr_lt h.2 (p := 2) (by decide)
  have q1 := c_pair2 (d + 2) h (p := 1) (by decide)
  have q2 := c_pair2 (d + 2) h (p := 2) (by decide)
  obtain ⟨σ1, e1, h1⟩ := c_nextWord d h
  obtain ⟨σ2, e2, h2⟩ := c_next (d + 1) h
  obtain ⟨σ3, e3, h3⟩ := c_goTo (d + 2) h1 (w := aWd A (A 3 1)) (b := 1) hw (by decide)
  rw [if_neg (by decide)] at h3
  have hy' : y = 0 ∨ y = 1 ∨ y = 2 ∨ y = 3 ∨ y = 4 ∨ y = 5 ∨ y = 6 ∨ y = 7 := by omega
  rw [m73]
  rcases hy' with rfl | rfl | rfl | rfl | rfl | rfl | rfl | rfl
  · simp (disch := omega) only [L0, L1, L2, L3, L4, L5, L6, L7, L8, L9, L10, L11, L13, L15, L16, L17, L18, L19, L20, L21, L22, L23, L26, L31, L32, L36, L40, L48, L62, L63, L64, L65, L67, L68, L69, L72, L73, L76, L79, L80, L82, L83, L84, L86, L87, L96, L118, L126, L128, L153, L229, L255, L256, L496, L511, L512, L1000, L65535, Lm1, N_and1, N_and7, N_and15, N_and31, N_and63, N_and255, N_and511, N_and65535, N_shr1, N_shr2, N_shr3, N_shr4, N_shr6, N_shr7, N_shr8, N_shr16, N_shl1, N_shl2, N_shl4, N_shl6, N_shl7, N_shl8, nI_add, pk_mul, n_sub, n_or8, n_or8', n_eq, n_lt, n_le, n_cl, n_div, Nat.reduceMod, if_neg, if_pos, bnd0, e1, e3]
    exact ⟨_, rfl, h3⟩
  · simp (disch := omega) only [L0, L1, L2, L3, L4, L5, L6, L7, L8, L9, L10, L11, L13, L15, L16, L17, L18, L19, L20, L21, L22, L23, L26, L31, L32, L36, L40, L48, L62, L63, L64, L65, L67, L68, L69, L72, L73, L76, L79, L80, L82, L83, L84, L86, L87, L96, L118, L126, L128, L153, L229, L255, L256, L496, L511, L512, L1000, L65535, Lm1, N_and1, N_and7, N_and15, N_and31, N_and63, N_and255, N_and511, N_and65535, N_shr1, N_shr2, N_shr3, N_shr4, N_shr6, N_shr7, N_shr8, N_shr16, N_shl1, N_shl2, N_shl4, N_shl6, N_shl7, N_shl8, nI_add, pk_mul, n_sub, n_or8, n_or8', n_eq, n_lt, n_le, n_cl, n_div, Nat.reduceMod, if_neg, if_pos, bnd0, e1, e3]
    exact ⟨_, rfl, h3⟩
  · simp (disch := omega) only [L0, L1, L2, L3, L4, L5, L6, L7, L8, L9, L10, L11, L13, L15, L16, L17, L18, L19, L20, L21, L22, L23, L26, L31, L32, L36, L40, L48, L62, L63, L64, L65, L67, L68, L69, L72, L73, L76, L79, L80, L82, L83, L84, L86, L87, L96, L118, L126, L128, L153, L229, L255, L256, L496, L511, L512, L1000, L65535, Lm1, N_and1, N_and7, N_and15, N_and31, N_and63, N_and255, N_and511, N_and65535, N_shr1, N_shr2, N_shr3, N_shr4, N_shr6, N_shr7, N_shr8, N_shr16, N_shl1, N_shl2, N_shl4, N_shl6, N_shl7, N_shl8, nI_add, pk_mul, n_sub, n_or8, n_or8', n_eq, n_lt, n_le, n_cl, n_div, Nat.reduceMod, if_neg, if_pos, bnd0, e2]
    exact ⟨_, rfl, h2⟩
  · simp (disch := omega) only [L0, L1, L2, L3, L4, L5, L6, L7, L8, L9, L10, L11, L13, L15, L16, L17, L18, L19, L20, L21, L22, L23, L26, L31, L32, L36, L40, L48, L62, L63, L64, L65, L67, L68, L69, L72, L73, L76, L79, L80, L82, L83, L84, L86, L87, L96, L118, L126, L128, L153, L229, L255, L256, L496, L511, L512, L1000, L65535, Lm1, N_and1, N_and7, N_and15, N_and31, N_and63, N_and255, N_and511, N_and65535, N_shr1, N_shr2, N_shr3, N_shr4, N_shr6, N_shr7, N_shr8, N_shr16, N_shl1, N_shl2, N_shl4, N_shl6, N_shl7, N_shl8, nI_add, pk_mul, n_sub, n_or8, n_or8', n_eq, n_lt, n_le, n_cl, n_div, Nat.reduceMod, if_neg, if_pos, bnd0, e2]
    exact ⟨_, rfl, h2⟩
  · have g := c_word2 (d + 2) h (a := A 3 0) (by omega)
    obtain ⟨σ4, e4, h4⟩ := c_putWord2 (d + 2) h (a := A 3 0) (v := aPr A 2) (by omega) (by omega)
    obtain ⟨σ5, e5, h5⟩ := c_setPair (d + 2) h4 (p := 2) (w := aWd A (A 3 0)) (by decide) (by omega)
    simp (disch := omega) only [L0, L1, L2, L3, L4, L5, L6, L7, L8, L9, L10, L11, L13, L15, L16, L17, L18, L19, L20, L21, L22, L23, L26, L31, L32, L36, L40, L48, L62, L63, L64, L65, L67, L68, L69, L72, L73, L76, L79, L80, L82, L83, L84, L86, L87, L96, L118, L126, L128, L153, L229, L255, L256, L496, L511, L512, L1000, L65535, Lm1, N_and1, N_and7, N_and15, N_and31, N_and63, N_and255, N_and511, N_and65535, N_shr1, N_shr2, N_shr3, N_shr4, N_shr6, N_shr7, N_shr8, N_shr16, N_shl1, N_shl2, N_shl4, N_shl6, N_shl7, N_shl8, nI_add, pk_mul, n_sub, n_or8, n_or8', n_eq, n_lt, n_le, n_cl, n_div, Nat.reduceMod, if_neg, if_pos, bnd0, cv_sp h, g, q2, e4, e5]
    exact ⟨_, rfl, h5⟩
  · obtain ⟨σ4, e4, h4⟩ := c_setPair (d + 2) h (p := 1) (w := aPr A 2) (by decide) (by omega)
    obtain ⟨σ5, e5, h5⟩ := c_setPair (d + 2) h4 (p := 2) (w := aPr A 1) (by decide) (by omega)
    simp (disch := omega) only [L0, L1, L2, L3, L4, L5, L6, L7, L8, L9, L10, L11, L13, L15, L16, L17, L18, L19, L20, L21, L22, L23, L26, L31, L32, L36, L40, L48, L62, L63, L64, L65, L67, L68, L69, L72, L73, L76, L79, L80, L82, L83, L84, L86, L87, L96, L118, L126, L128, L153, L229, L255, L256, L496, L511, L512, L1000, L65535, Lm1, N_and1, N_and7, N_and15, N_and31, N_and63, N_and255, N_and511, N_and65535, N_shr1, N_shr2, N_shr3, N_shr4, N_shr6, N_shr7, N_shr8, N_shr16, N_shl1, N_shl2, N_shl4, N_shl6, N_shl7, N_shl8, nI_add, pk_mul, n_sub, n_or8, n_or8', n_eq, n_lt, n_le, n_cl, n_div, Nat.reduceMod, if_neg, if_pos, bnd0, q1, q2, e4, e5]
    exact ⟨_, rfl, h5⟩
  · simp (disch := omega) only [L0, L1, L2, L3, L4, L5, L6, L7, L8, L9, L10, L11, L13, L15, L16, L17, L18, L19, L20, L21, L22, L23, L26, L31, L32, L36, L40, L48, L62, L63, L64, L65, L67, L68, L69, L72, L73, L76, L79, L80, L82, L83, L84, L86, L87, L96, L118, L126, L128, L153, L229, L255, L256, L496, L511, L512, L1000, L65535, Lm1, N_and1, N_and7, N_and15, N_and31, N_and63, N_and255, N_and511, N_and65535, N_shr1, N_shr2, N_shr3, N_shr4, N_shr6, N_shr7, N_shr8, N_shr16, N_shl1, N_shl2, N_shl4, N_shl6, N_shl7, N_shl8, nI_add, pk_mul, n_sub, n_or8, n_or8', n_eq, n_lt, n_le, n_cl, n_div, Nat.reduceMod, if_neg, if_pos, bnd0]
    exact ⟨_, rfl, h⟩
  · simp (disch := omega) only [L0, L1, L2, L3, L4, L5, L6, L7, L8, L9, L10, L11, L13, L15, L16, L17, L18, L19, L20, L21, L22, L23, L26, L31, L32, L36, L40, L48, L62, L63, L64, L65, L67, L68, L69, L72, L73, L76, L79, L80, L82, L83, L84, L86, L87, L96, L118, L126, L128, L153, L229, L255, L256, L496, L511, L512, L1000, L65535, Lm1, N_and1, N_and7, N_and15, N_and31, N_and63, N_and255, N_and511, N_and65535, N_shr1, N_shr2, N_shr3, N_shr4, N_shr6, N_shr7, N_shr8, N_shr16, N_shl1, N_shl2, N_shl4, N_shl6, N_shl7, N_shl8, nI_add, pk_mul, n_sub, n_or8, n_or8', n_eq, n_lt, n_le, n_cl, n_div, Nat.reduceMod, if_neg, if_pos, bnd0]
    exact ⟨_, rfl, h⟩
def aQC (A : aS) (y : Nat) : aS := if y % 2 = 1 then a_up (aPu (aN2 A) (aN2 A 3 1)) 3 1 (aWd A (A 3 1)) else if y = 6 then aPu A (A 2 7 * 256 + aFg A) else aPu A (aPr A (y / 2))
theorem c_pushOr (h : CP A σ) {y : Nat} (hy : y < 8) : ∃ σ', x_M (d + 4) 76 [.ref 3, .int (nI y)] σ = some (0, σ') ∧ CP (aQC A y) σ' := by
  have ha := h.2.2.1 7 (by decide)
  have hf := aFg_lt h.2
  have hw := aWd_lt h.2 (A 3 1)
  have p := aPr_lt h.2 (p := y / 2) (by omega)
  have q := c_pair2 (d + 2) h (p := y / 2) (by omega)
  have qf := c_flags (d + 2) h
  rw [m76]
  unfold aQC
  by_cases e : y % 2 = 1
  · obtain ⟨σ1, e1, h1⟩ := c_nextWord d h
    obtain ⟨σ3, e3, h3⟩ := c_callTo d h1 (w := aWd A (A 3 1)) (b := 1) hw (by decide)
    rw [if_neg (by decide)] at h3
    rw [if_pos e]
    simp (disch := omega) only [L0, L1, L2, L3, L4, L5, L6, L7, L8, L9, L10, L11, L13, L15, L16, L17, L18, L19, L20, L21, L22, L23, L26, L31, L32, L36, L40, L48, L62, L63, L64, L65, L67, L68, L69, L72, L73, L76, L79, L80, L82, L83, L84, L86, L87, L96, L118, L126, L128, L153, L229, L255, L256, L496, L511, L512, L1000, L65535, Lm1, N_and1, N_and7, N_and15, N_and31, N_and63, N_and255, N_and511, N_and65535, N_shr1, N_shr2, N_shr3, N_shr4, N_shr6, N_shr7, N_shr8, N_shr16, N_shl1, N_shl2, N_shl4, N_shl6, N_shl7, N_shl8, nI_add, pk_mul, n_sub, n_or8, n_or8', n_eq, n_lt, n_le, n_cl, n_div, Nat.reduceMod, if_neg, if_pos, bnd0, e1, e3]
    exact ⟨_, rfl, h3⟩
  · rw [if_neg e]
    by_cases e6 : y = 6
    · obtain ⟨σ3, e3, h3⟩ := c_push (d + 1) h (w := A 2 7 * 256 + aFg A) (by omega)
      subst e6
      rw [if_pos rfl]
      simp (disch := omega) only [L0, L1, L2, L3, L4, L5, L6, L7, L8, L9, L10, L11, L13, L15, L16, L17, L18, L19, L20, L21, L22, L23, L26, L31, L32, L36, L40, L48, L62, L63, L64, L65, L67, L68, L69, L72, L73, L76, L79, L80, L82, L83, L84, L86, L87, L96, L118, L126, L128, L153, L229, L255, L256, L496, L511, L512, L1000, L65535, Lm1, N_and1, N_and7, N_and15, N_and31, N_and63, N_and255, N_and511, N_and65535, N_shr1, N_shr2, N_shr3, N_shr4, N_shr6, N_shr7, N_shr8, N_shr16, N_shl1, N_shl2, N_shl4, N_shl6, N_shl7, N_shl8, nI_add, pk_mul, n_sub, n_or8, n_or8', n_eq, n_lt, n_le, n_cl, n_div, Nat.reduceMod, if_neg, if_pos, bnd0, qf, cv_A h, e3]
      exact ⟨_, rfl, h3⟩
    · obtain ⟨σ3, e3, h3⟩ := c_push (d + 1) h (w := aPr A (y / 2)) (by omega)
      rw [if_neg e6]
      simp (disch := omega) only [L0, L1, L2, L3, L4, L5, L6, L7, L8, L9, L10, L11, L13, L15, L16, L17, L18, L19, L20, L21, L22, L23, L26, L31, L32, L36, L40, L48, L62, L63, L64, L65, L67, L68, L69, L72, L73, L76, L79, L80, L82, L83, L84, L86, L87, L96, L118, L126, L128, L153, L229, L255, L256, L496, L511, L512, L1000, L65535, Lm1, N_and1, N_and7, N_and15, N_and31, N_and63, N_and255, N_and511, N_and65535, N_shr1, N_shr2, N_shr3, N_shr4, N_shr6, N_shr7, N_shr8, N_shr16, N_shl1, N_shl2, N_shl4, N_shl6, N_shl7, N_shl8, nI_add, pk_mul, n_sub, n_or8, n_or8', n_eq, n_lt, n_le, n_cl, n_div, Nat.reduceMod, if_neg, if_pos, bnd0, q, e3]
      exact ⟨_, rfl, h3⟩
def aBS (A : aS) (y z : Nat) : aS := match z with
  | 0 => if aHo A y = 0 then A else a_up (aP2 A) 3 1 (aWd A (A 3 0))
  | 1 => aPO A y
  | 2 => if aHo (aN2 A) y = 0 then aN2 A else a_up (aN2 A) 3 1 (aWd A (A 3 1))
  | 3 => aGX A y
  | 4 => if aHo (aN2 A) y = 0 then aN2 A else a_up (aPu (aN2 A) (aN2 A 3 1)) 3 1 (aWd A (A 3 1))
  | 5 => aQC A y
  | _ => a_up (aPu A (A 3 1)) 3 1 (8 * y)
theorem aHo_lt (A : aS) (y : Nat) : aHo A y < 2 := by
  unfold aHo
  repeat' split
  all_goals omega
theorem c_branch (h : CP A σ) {y z : Nat} (hy : y < 8) (hz : z < 8) : ∃ σ', x_M (d + 5) 77 [.ref 3, .int (nI y), .int (nI z)] σ = some (0, σ') ∧ CP (aBS A y z) σ' := by
  have hw := aWd_lt h.2 (A 3 1)
  have hw0 := aWd_lt h.2 (A 3 0)
  have ho := aHo_lt A y
  have q := c_holds (d + 3) h hy
  obtain ⟨σ1, e1, h1⟩ := c_nextWord (d + 1) h
  have hz' : z = 0 ∨ z = 1 ∨ z = 2 ∨ z = 3 ∨ z = 4 ∨ z = 5 ∨ z = 6 ∨ z = 7 := by omega
  rw [m77]
  rcases hz' with rfl | rfl | rfl | rfl | rfl | rfl | rfl | rfl
  · obtain ⟨σ2, e2, h2⟩ := c_pop (d + 2) h
    by_cases e : aHo A y = 0
    · simp (disch := omega) only [L0, L1, L2, L3, L4, L5, L6, L7, L8, L9, L10, L11, L13, L15, L16, L17, L18, L19, L20, L21, L22, L23, L26, L31, L32, L36, L40, L48, L62, L63, L64, L65, L67, L68, L69, L72, L73, L76, L79, L80, L82, L83, L84, L86, L87, L96, L118, L126, L128, L153, L229, L255, L256, L496, L511, L512, L1000, L65535, Lm1, N_and1, N_and7, N_and15, N_and31, N_and63, N_and255, N_and511, N_and65535, N_shr1, N_shr2, N_shr3, N_shr4, N_shr6, N_shr7, N_shr8, N_shr16, N_shl1, N_shl2, N_shl4, N_shl6, N_shl7, N_shl8, nI_add, pk_mul, n_sub, n_or8, n_or8', n_eq, n_lt, n_le, n_cl, n_div, Nat.reduceMod, if_neg, if_pos, bnd0, q]
      refine ⟨_, rfl, ?_⟩
      simp only [aBS, if_pos e]
      exact h
    · simp (disch := omega) only [L0, L1, L2, L3, L4, L5, L6, L7, L8, L9, L10, L11, L13, L15, L16, L17, L18, L19, L20, L21, L22, L23, L26, L31, L32, L36, L40, L48, L62, L63, L64, L65, L67, L68, L69, L72, L73, L76, L79, L80, L82, L83, L84, L86, L87, L96, L118, L126, L128, L153, L229, L255, L256, L496, L511, L512, L1000, L65535, Lm1, N_and1, N_and7, N_and15, N_and31, N_and63, N_and255, N_and511, N_and65535, N_shr1, N_shr2, N_shr3, N_shr4, N_shr6, N_shr7, N_shr8, N_shr16, N_shl1, N_shl2, N_shl4, N_shl6, N_shl7, N_shl8, nI_add, pk_mul, n_sub, n_or8, n_or8', n_eq, n_lt, n_le, n_cl, n_div, Nat.reduceMod, if_neg, if_pos, bnd0, q, e2]
      refine ⟨_, rfl, ?_⟩
      simp only [aBS, if_neg e]
      exact cp_pc h2 (by omega)
  · obtain ⟨σ2, e2, h2⟩ := c_popOr (d + 1) h hy
    simp (disch := omega) only [L0, L1, L2, L3, L4, L5, L6, L7, L8, L9, L10, L11, L13, L15, L16, L17, L18, L19, L20, L21, L22, L23, L26, L31, L32, L36, L40, L48, L62, L63, L64, L65, L67, L68, L69, L72, L73, L76, L79, L80, L82, L83, L84, L86, L87, L96, L118, L126, L128, L153, L229, L255, L256, L496, L511, L512, L1000, L65535, Lm1, N_and1, N_and7, N_and15, N_and31, N_and63, N_and255, N_and511, N_and65535, N_shr1, N_shr2, N_shr3, N_shr4, N_shr6, N_shr7, N_shr8, N_shr16, N_shl1, N_shl2, N_shl4, N_shl6, N_shl7, N_shl8, nI_add, pk_mul, n_sub, n_or8, n_or8', n_eq, n_lt, n_le, n_cl, n_div, Nat.reduceMod, if_neg, if_pos, bnd0, e2]
    exact ⟨_, rfl, h2⟩
  · have q1 := c_holds (d + 3) h1 hy
    obtain ⟨σ2, e2, h2⟩ := c_goTo (d + 3) h1 (w := aWd A (A 3 1)) (b := aHo (aNx (aNx A)) y) hw (aHo_lt _ _)
    simp (disch := omega) only [L0, L1, L2, L3, L4, L5, L6, L7, L8, L9, L10, L11, L13, L15, L16, L17, L18, L19, L20, L21, L22, L23, L26, L31, L32, L36, L40, L48, L62, L63, L64, L65, L67, L68, L69, L72, L73, L76, L79, L80, L82, L83, L84, L86, L87, L96, L118, L126, L128, L153, L229, L255, L256, L496, L511, L512, L1000, L65535, Lm1, N_and1, N_and7, N_and15, N_and31, N_and63, N_and255, N_and511, N_and65535, N_shr1, N_shr2, N_shr3, N_shr4, N_shr6, N_shr7, N_shr8, N_shr16, N_shl1, N_shl2, N_shl4, N_shl6, N_shl7, N_shl8, nI_add, pk_mul, n_sub, n_or8, n_or8', n_eq, n_lt, n_le, n_cl, n_div, Nat.reduceMod, if_neg, if_pos, bnd0, e1, q1, e2]
    exact ⟨_, rfl, h2⟩
  · obtain ⟨σ2, e2, h2⟩ := c_goOr d h hy
    simp (disch := omega) only [L0, L1, L2, L3, L4, L5, L6, L7, L8, L9, L10, L11, L13, L15, L16, L17, L18, L19, L20, L21, L22, L23, L26, L31, L32, L36, L40, L48, L62, L63, L64, L65, L67, L68, L69, L72, L73, L76, L79, L80, L82, L83, L84, L86, L87, L96, L118, L126, L128, L153, L229, L255, L256, L496, L511, L512, L1000, L65535, Lm1, N_and1, N_and7, N_and15, N_and31, N_and63, N_and255, N_and511, N_and65535, N_shr1, N_shr2, N_shr3, N_shr4, N_shr6, N_shr7, N_shr8, N_shr16, N_shl1, N_shl2, N_shl4, N_shl6, N_shl7, N_shl8, nI_add, pk_mul, n_sub, n_or8, n_or8', n_eq, n_lt, n_le, n_cl, n_div, Nat.reduceMod, if_neg, if_pos, bnd0, e2]
    exact ⟨_, rfl, h2⟩
  · have q1 := c_holds (d + 3) h1 hy
    obtain ⟨σ2, e2, h2⟩ := c_callTo (d + 1) h1 (w := aWd A (A 3 1)) (b := aHo (aNx (aNx A)) y) hw (aHo_lt _ _)
    simp (disch := omega) only [L0, L1, L2, L3, L4, L5, L6, L7, L8, L9, L10, L11, L13, L15, L16, L17, L18, L19, L20, L21, L22, L23, L26, L31, L32, L36, L40, L48, L62, L63, L64, L65, L67, L68, L69, L72, L73, L76, L79, L80, L82, L83, L84, L86, L87, L96, L118, L126, L128, L153, L229, L255, L256, L496, L511, L512, L1000, L65535, Lm1, N_and1, N_and7, N_and15, N_and31, N_and63, N_and255, N_and511, N_and65535, N_shr1, N_shr2, N_shr3, N_shr4, N_shr6, N_shr7, N_shr8, N_shr16, N_shl1, N_shl2, N_shl4, N_shl6, N_shl7, N_shl8, nI_add, pk_mul, n_sub, n_or8, n_or8', n_eq, n_lt, n_le, n_cl, n_div, Nat.reduceMod, if_neg, if_pos, bnd0, e1, q1, e2]
    exact ⟨_, rfl, h2⟩
  · obtain ⟨σ2, e2, h2⟩ := c_pushOr d h hy
    simp (disch := omega) only [L0, L1, L2, L3, L4, L5, L6, L7, L8, L9, L10, L11, L13, L15, L16, L17, L18, L19, L20, L21, L22, L23, L26, L31, L32, L36, L40, L48, L62, L63, L64, L65, L67, L68, L69, L72, L73, L76, L79, L80, L82, L83, L84, L86, L87, L96, L118, L126, L128, L153, L229, L255, L256, L496, L511, L512, L1000, L65535, Lm1, N_and1, N_and7, N_and15, N_and31, N_and63, N_and255, N_and511, N_and65535, N_shr1, N_shr2, N_shr3, N_shr4, N_shr6, N_shr7, N_shr8, N_shr16, N_shl1, N_shl2, N_shl4, N_shl6, N_shl7, N_shl8, nI_add, pk_mul, n_sub, n_or8, n_or8', n_eq, n_lt, n_le, n_cl, n_div, Nat.reduceMod, if_neg, if_pos, bnd0, e2]
    exact ⟨_, rfl, h2⟩
  · obtain ⟨σ2, e2, h2⟩ := c_callTo (d + 1) h (w := 8 * y) (b := 1) (by omega) (by decide)
    rw [if_neg (by decide)] at h2
    simp (disch := omega) only [L0, L1, L2, L3, L4, L5, L6, L7, L8, L9, L10, L11, L13, L15, L16, L17, L18, L19, L20, L21, L22, L23, L26, L31, L32, L36, L40, L48, L62, L63, L64, L65, L67, L68, L69, L72, L73, L76, L79, L80, L82, L83, L84, L86, L87, L96, L118, L126, L128, L153, L229, L255, L256, L496, L511, L512, L1000, L65535, Lm1, N_and1, N_and7, N_and15, N_and31, N_and63, N_and255, N_and511, N_and65535, N_shr1, N_shr2, N_shr3, N_shr4, N_shr6, N_shr7, N_shr8, N_shr16, N_shl1, N_shl2, N_shl4, N_shl6, N_shl7, N_shl8, nI_add, pk_mul, n_sub, n_or8, n_or8', n_eq, n_lt, n_le, n_cl, n_div, Nat.reduceMod, if_neg, if_pos, bnd0, e2]
    exact ⟨_, rfl, h2⟩
  · obtain ⟨σ2, e2, h2⟩ := c_callTo (d + 1) h (w := 8 * y) (b := 1) (by omega) (by decide)
    rw [if_neg (by decide)] at h2
    simp (disch := omega) only [L0, L1, L2, L3, L4, L5, L6, L7, L8, L9, L10, L11, L13, L15, L16, L17, L18, L19, L20, L21, L22, L23, L26, L31, L32, L36, L40, L48, L62, L63, L64, L65, L67, L68, L69, L72, L73, L76, L79, L80, L82, L83, L84, L86, L87, L96, L118, L126, L128, L153, L229, L255, L256, L496, L511, L512, L1000, L65535, Lm1, N_and1, N_and7, N_and15, N_and31, N_and63, N_and255, N_and511, N_and65535, N_shr1, N_shr2, N_shr3, N_shr4, N_shr6, N_shr7, N_shr8, N_shr16, N_shl1, N_shl2, N_shl4, N_shl6, N_shl7, N_shl8, nI_add, pk_mul, n_sub, n_or8, n_or8', n_eq, n_lt, n_le, n_cl, n_div, Nat.reduceMod, if_neg, if_pos, bnd0, e2]
    exact ⟨_, rfl, h2⟩
/-- a step: the code's parts x, y, z -/
def aSt (A : aS) (c : Nat) : aS := if c = 118 then aNx A else if c / 64 = 0 then aMC (aNx A) (c / 8 % 8) (c % 8) else if c / 64 = 1 then aPR (aNx A) (c / 8 % 8) (aGr (aNx A) (c % 8)) else if c / 64 = 2 then aCb (aNx A) (c / 8 % 8) (aGr (aNx A) (c % 8)) else if c % 8 = 6 then aCb (aN2 A) (c / 8 % 8) (aNx A 0 (aNx A 3 1 % 512)) else aBS (aNx A) (c / 8 % 8) (c % 8)
theorem c_step (h : CP A σ) : ∃ σ', x_M (d + 6) 78 [.ref 3] σ = some (nI (if A 0 (A 3 1 % 512) = 118 then 0 else 1), σ') ∧ CP (aSt A (A 0 (A 3 1 % 512))) σ' := by
  have hc := h.2.1 (A 3 1 % 512) (by omega)
  obtain ⟨σ1, e1, h1⟩ := c_next (d + 3) h
  generalize A 0 (A 3 1 % 512) = c at hc e1 ⊢
  rw [m78, e1, bnd0]
  unfold aSt
  have hz : c % 8 < 8 := by omega
  have hy : c / 8 % 8 < 8 := by omega
  have hg := aGr_lt h1.2 hz
  have qg := c_getR (d + 3) h1 hz
  by_cases g0 : c = 118
  · simp (disch := omega) only [L0, L1, L2, L3, L4, L5, L6, L7, L8, L9, L10, L11, L13, L15, L16, L17, L18, L19, L20, L21, L22, L23, L26, L31, L32, L36, L40, L48, L62, L63, L64, L65, L67, L68, L69, L72, L73, L76, L79, L80, L82, L83, L84, L86, L87, L96, L118, L126, L128, L153, L229, L255, L256, L496, L511, L512, L1000, L65535, Lm1, N_and1, N_and7, N_and15, N_and31, N_and63, N_and255, N_and511, N_and65535, N_shr1, N_shr2, N_shr3, N_shr4, N_shr6, N_shr7, N_shr8, N_shr16, N_shl1, N_shl2, N_shl4, N_shl6, N_shl7, N_shl8, nI_add, pk_mul, n_sub, n_or8, n_or8', n_eq, n_lt, n_le, n_cl, n_div, Nat.reduceMod, if_neg, if_pos, bnd0]
    exact ⟨_, rfl, h1⟩
  · rw [if_neg g0, if_neg g0]
    by_cases g1 : c / 64 = 0
    · obtain ⟨σ2, e2, h2⟩ := c_moveOr d h1 hy hz
      rw [if_pos g1]
      simp (disch := omega) only [L0, L1, L2, L3, L4, L5, L6, L7, L8, L9, L10, L11, L13, L15, L16, L17, L18, L19, L20, L21, L22, L23, L26, L31, L32, L36, L40, L48, L62, L63, L64, L65, L67, L68, L69, L72, L73, L76, L79, L80, L82, L83, L84, L86, L87, L96, L118, L126, L128, L153, L229, L255, L256, L496, L511, L512, L1000, L65535, Lm1, N_and1, N_and7, N_and15, N_and31, N_and63, N_and255, N_and511, N_and65535, N_shr1, N_shr2, N_shr3, N_shr4, N_shr6, N_shr7, N_shr8, N_shr16, N_shl1, N_shl2, N_shl4, N_shl6, N_shl7, N_shl8, nI_add, pk_mul, n_sub, n_or8, n_or8', n_eq, n_lt, n_le, n_cl, n_div, Nat.reduceMod, if_neg, if_pos, bnd0, e2]
      exact ⟨_, rfl, h2⟩
    · rw [if_neg g1]
      by_cases g2 : c / 64 = 1
      · obtain ⟨σ2, e2, h2⟩ := c_putR (d + 3) h1 hy hg
        rw [if_pos g2]
        simp (disch := omega) only [L0, L1, L2, L3, L4, L5, L6, L7, L8, L9, L10, L11, L13, L15, L16, L17, L18, L19, L20, L21, L22, L23, L26, L31, L32, L36, L40, L48, L62, L63, L64, L65, L67, L68, L69, L72, L73, L76, L79, L80, L82, L83, L84, L86, L87, L96, L118, L126, L128, L153, L229, L255, L256, L496, L511, L512, L1000, L65535, Lm1, N_and1, N_and7, N_and15, N_and31, N_and63, N_and255, N_and511, N_and65535, N_shr1, N_shr2, N_shr3, N_shr4, N_shr6, N_shr7, N_shr8, N_shr16, N_shl1, N_shl2, N_shl4, N_shl6, N_shl7, N_shl8, nI_add, pk_mul, n_sub, n_or8, n_or8', n_eq, n_lt, n_le, n_cl, n_div, Nat.reduceMod, if_neg, if_pos, bnd0, qg, e2]
        exact ⟨_, rfl, h2⟩
      · rw [if_neg g2]
        by_cases g3 : c / 64 = 2
        · obtain ⟨σ2, e2, h2⟩ := c_combine d h1 hy hg
          rw [if_pos g3]
          simp (disch := omega) only [L0, L1, L2, L3, L4, L5, L6, L7, L8, L9, L10, L11, L13, L15, L16, L17, L18, L19, L20, L21, L22, L23, L26, L31, L32, L36, L40, L48, L62, L63, L64, L65, L67, L68, L69, L72, L73, L76, L79, L80, L82, L83, L84, L86, L87, L96, L118, L126, L128, L153, L229, L255, L256, L496, L511, L512, L1000, L65535, Lm1, N_and1, N_and7, N_and15, N_and31, N_and63, N_and255, N_and511, N_and65535, N_shr1, N_shr2, N_shr3, N_shr4, N_shr6, N_shr7, N_shr8, N_shr16, N_shl1, N_shl2, N_shl4, N_shl6, N_shl7, N_shl8, nI_add, pk_mul, n_sub, n_or8, n_or8', n_eq, n_lt, n_le, n_cl, n_div, Nat.reduceMod, if_neg, if_pos, bnd0, qg, e2]
          exact ⟨_, rfl, h2⟩
        · rw [if_neg g3]
          by_cases g4 : c % 8 = 6
          · obtain ⟨σ2, e2, h2⟩ := c_next (d + 3) h1
            obtain ⟨σ3, e3, h3⟩ := c_combine d h2 hy (v := aNx A 0 (aNx A 3 1 % 512)) (h1.2.1 _ (by omega))
            rw [if_pos g4]
            simp (disch := omega) only [L0, L1, L2, L3, L4, L5, L6, L7, L8, L9, L10, L11, L13, L15, L16, L17, L18, L19, L20, L21, L22, L23, L26, L31, L32, L36, L40, L48, L62, L63, L64, L65, L67, L68, L69, L72, L73, L76, L79, L80, L82, L83, L84, L86, L87, L96, L118, L126, L128, L153, L229, L255, L256, L496, L511, L512, L1000, L65535, Lm1, N_and1, N_and7, N_and15, N_and31, N_and63, N_and255, N_and511, N_and65535, N_shr1, N_shr2, N_shr3, N_shr4, N_shr6, N_shr7, N_shr8, N_shr16, N_shl1, N_shl2, N_shl4, N_shl6, N_shl7, N_shl8, nI_add, pk_mul, n_sub, n_or8, n_or8', n_eq, n_lt, n_le, n_cl, n_div, Nat.reduceMod, if_neg, if_pos, bnd0, e2, e3]
            exact ⟨_, rfl, h3⟩
          · obtain ⟨σ2, e2, h2⟩ := c_branch d h1 hy hz
            rw [if_neg g4]
            simp (disch := omega) only [L0, L1, L2, L3, L4, L5, L6, L7, L8, L9, L10, L11, L13, L15, L16, L17, L18, L19, L20, L21, L22, L23, L26, L31, L32, L36, L40, L48, L62, L63, L64, L65, L67, L68, L69, L72, L73, L76, L79, L80, L82, L83, L84, L86, L87, L96, L118, L126, L128, L153, L229, L255, L256, L496, L511, L512, L1000, L65535, Lm1, N_and1, N_and7, N_and15, N_and31, N_and63, N_and255, N_and511, N_and65535, N_shr1, N_shr2, N_shr3, N_shr4, N_shr6, N_shr7, N_shr8, N_shr16, N_shl1, N_shl2, N_shl4, N_shl6, N_shl7, N_shl8, nI_add, pk_mul, n_sub, n_or8, n_or8', n_eq, n_lt, n_le, n_cl, n_div, Nat.reduceMod, if_neg, if_pos, bnd0, e2]
            exact ⟨_, rfl, h2⟩
end C5
