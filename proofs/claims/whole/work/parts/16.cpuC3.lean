/-! The class's processor: flags, sums, bits, turns -/
theorem n_land (a b : Nat) : nI a &&& nI b = nI (a &&& b) := by
  apply n_inj
  show BitVec.ofNat 32 a &&& BitVec.ofNat 32 b = BitVec.ofNat 32 (a &&& b)
  rw [BitVec.ofNat_and]
theorem n_lor (a b : Nat) : nI a ||| nI b = nI (a ||| b) := by
  apply n_inj
  show BitVec.ofNat 32 a ||| BitVec.ofNat 32 b = BitVec.ofNat 32 (a ||| b)
  rw [BitVec.ofNat_or]
theorem n_lxor (a b : Nat) : nI a ^^^ nI b = nI (a ^^^ b) := by
  apply n_inj
  show BitVec.ofNat 32 a ^^^ BitVec.ofNat 32 b = BitVec.ofNat 32 (a ^^^ b)
  rw [BitVec.ofNat_xor]
theorem l_and {a b : Nat} (ha : a < 256) : a &&& b < 256 := Nat.lt_of_le_of_lt Nat.and_le_left ha
theorem l_or {a b : Nat} (ha : a < 256) (hb : b < 256) : a ||| b < 256 := Nat.or_lt_two_pow (n := 8) ha hb
theorem l_xor {a b : Nat} (ha : a < 256) (hb : b < 256) : a ^^^ b < 256 := Nat.xor_lt_two_pow (n := 8) ha hb
theorem n_or1 {x b : Nat} (hx : x % 2 = 0) (hb : b < 2) : nI x ||| nI b = nI (x + b) := by
  have h := n_or (a := x / 2) (b := b) (k := 1) hb
  have e : x / 2 * 2 ^ 1 = x := by omega
  rw [e] at h
  exact h
theorem n_or7' {a b : Nat} (hb : b < 128) : nI b ||| nI (a * 128) = nI (a * 128 + b) := by rw [Int32.or_comm]; exact n_or (k := 7) hb
theorem n_dec {g : Nat} (hg : g < 256) : (nI g - 1) &&& 255 = nI ((g + 255) % 256) := by
  by_cases h : g < 1
  · rw [show (1 : Int32) = nI 1 from rfl, n_subw (by decide), n_and255 (by omega)]
    exact congrArg nI (by omega)
  · rw [show (1 : Int32) = nI 1 from rfl, n_sub (by omega), n_and255 (by omega)]
    exact congrArg nI (by omega)
section C3
variable {A : aS} {σ : xS} (d : Nat)
def aFg (A : aS) : Nat := A 3 2 * 128 + A 3 3 * 64 + A 3 4 * 16 + A 3 5 * 4 + 2 + A 3 6
theorem aFg_lt {A : aS} (w : WQ A) : aFg A < 256 := by
  have h2 := w.2.2.2.2 2 (by decide) (by decide)
  have h3 := w.2.2.2.2 3 (by decide) (by decide)
  have h4 := w.2.2.2.2 4 (by decide) (by decide)
  have h5 := w.2.2.2.2 5 (by decide) (by decide)
  have h6 := w.2.2.2.2 6 (by decide) (by decide)
  unfold aFg; omega
theorem b_fg : ∀ a, a < 2 → ∀ b, b < 2 → ∀ c, c < 2 → ∀ e, e < 2 → ∀ f, f < 2 → ((((((nI a <<< ((7 : Int32) &&& 31)) ||| (nI b <<< ((6 : Int32) &&& 31))) ||| (nI c <<< ((4 : Int32) &&& 31))) ||| (nI e <<< ((2 : Int32) &&& 31))) ||| (2 : Int32)) ||| nI f) = nI (a * 128 + b * 64 + c * 16 + e * 4 + 2 + f) := by decide +kernel
theorem c_flags (h : CP A σ) : x_M (d + 1) 75 [.ref 3] σ = some (nI (aFg A), σ) := by
  have w := h.2.2.2.2.2
  rw [m75, cv_sg h, cv_ze h, cv_ha h, cv_pa h, cv_ca h, b_fg _ (w 2 (by decide) (by decide)) _ (w 3 (by decide) (by decide)) _ (w 4 (by decide) (by decide)) _ (w 5 (by decide) (by decide)) _ (w 6 (by decide) (by decide))]
  rfl
def aSF (A : aS) (f : Nat) : aS := a_up (a_up (a_up (a_up (a_up A 3 2 (f / 128 % 2)) 3 3 (f / 64 % 2)) 3 4 (f / 16 % 2)) 3 5 (f / 4 % 2)) 3 6 (f % 2)
theorem c_setFlags (h : CP A σ) {f : Nat} (hf : f < 2147483648) : ∃ σ', x_M (d + 1) 42 [.ref 3, .int (nI f)] σ = some (0, σ') ∧ CP (aSF A f) σ' := by
  rw [m42]
  simp (disch := omega) only [L0, L1, L2, L3, L4, L5, L6, L7, L8, L9, L10, L11, L13, L15, L16, L17, L18, L19, L20, L21, L22, L23, L26, L31, L32, L36, L40, L48, L62, L63, L64, L65, L67, L68, L69, L72, L73, L76, L79, L80, L82, L83, L84, L86, L87, L96, L118, L126, L128, L153, L229, L255, L256, L496, L511, L512, L1000, L65535, Lm1, N_and1, N_and7, N_and15, N_and31, N_and63, N_and255, N_and511, N_and65535, N_shr1, N_shr2, N_shr3, N_shr4, N_shr6, N_shr7, N_shr8, N_shr16, N_shl1, N_shl2, N_shl4, N_shl6, N_shl7, N_shl8, nI_add, pk_mul, n_sub, n_or8, n_or8', n_eq, n_lt, n_le, n_cl, n_div, Nat.reduceMod]
  refine ⟨_, rfl, ?_⟩
  refine cp_fl (cp_fl (cp_fl (cp_fl (cp_fl h 2 ?_ ?_ ?_) 3 ?_ ?_ ?_) 4 ?_ ?_ ?_) 5 ?_ ?_ ?_) 6 ?_ ?_ ?_ <;> omega
def aGw (A : aS) (r : Nat) : aS := a_up (aJu (aPR A r ((aGr A r + 1) % 256)) ((aGr A r + 1) % 256)) 3 4 (if (aGr A r + 1) % 256 % 16 = 0 then 1 else 0)
theorem c_grow (h : CP A σ) {r : Nat} (hr : r < 8) : ∃ σ', x_M (d + 3) 58 [.ref 3, .int (nI r)] σ = some (0, σ') ∧ CP (aGw A r) σ' := by
  have hg := aGr_lt h.2 hr
  obtain ⟨σ1, e1, h1⟩ := c_putR d h (r := r) (v := (aGr A r + 1) % 256) hr (by omega)
  obtain ⟨σ2, e2, h2⟩ := c_judge d h1 (v := (aGr A r + 1) % 256) (by omega)
  have ev : (nI (aGr A r) + 1) &&& 255 = nI ((aGr A r + 1) % 256) := by rw [show (1 : Int32) = nI 1 from rfl, nI_add, n_and255 (by omega)]
  rw [m58, c_getR d h hr]
  simp only [bnd0, ev]
  rw [e1]
  simp only [bnd0]
  rw [e2]
  simp only [bnd0]
  unfold aGw
  by_cases e : (aGr A r + 1) % 256 % 16 = 0
  · rw [n_and15 (by omega), if_pos (by rw [e]; rfl), if_pos e]
    exact ⟨_, rfl, cp_fl h2 4 (by decide) (by decide) (by decide)⟩
  · rw [n_and15 (by omega), if_neg (show ¬ nI _ = (0 : Int32) from fun q => e ((nI_eq (by omega) (by omega)).mp q)), if_neg e]
    exact ⟨_, rfl, cp_fl h2 4 (by decide) (by decide) (by decide)⟩
def aFa (A : aS) (r : Nat) : aS := a_up (aJu (aPR A r ((aGr A r + 255) % 256)) ((aGr A r + 255) % 256)) 3 4 (if (aGr A r + 255) % 256 % 16 = 15 then 0 else 1)
theorem c_fall (h : CP A σ) {r : Nat} (hr : r < 8) : ∃ σ', x_M (d + 3) 59 [.ref 3, .int (nI r)] σ = some (0, σ') ∧ CP (aFa A r) σ' := by
  have hg := aGr_lt h.2 hr
  obtain ⟨σ1, e1, h1⟩ := c_putR d h (r := r) (v := (aGr A r + 255) % 256) hr (by omega)
  obtain ⟨σ2, e2, h2⟩ := c_judge d h1 (v := (aGr A r + 255) % 256) (by omega)
  have ev := n_dec hg
  rw [m59, c_getR d h hr]
  simp only [bnd0, ev]
  rw [e1]
  simp only [bnd0]
  rw [e2]
  simp only [bnd0]
  unfold aFa
  by_cases e : (aGr A r + 255) % 256 % 16 = 15
  · rw [n_and15 (by omega), if_pos (by rw [e]; rfl), if_pos e]
    exact ⟨_, rfl, cp_fl h2 4 (by decide) (by decide) (by decide)⟩
  · rw [n_and15 (by omega), if_neg (show ¬ nI _ = (15 : Int32) from fun q => e ((nI_eq (by omega) (by omega)).mp q)), if_neg e]
    exact ⟨_, rfl, cp_fl h2 4 (by decide) (by decide) (by decide)⟩
def aTL (A : aS) (b : Nat) : aS := a_up (a_up A 2 7 (A 2 7 * 2 % 256 + b)) 3 6 (A 2 7 / 128)
theorem c_turnL (h : CP A σ) {b : Nat} (hb : b < 2) : ∃ σ', x_M (d + 1) 60 [.ref 3, .int (nI b)] σ = some (0, σ') ∧ CP (aTL A b) σ' := by
  have ha := h.2.2.1 7 (by decide)
  rw [m60, cv_A h]
  simp (disch := omega) only [L0, L1, L2, L3, L4, L5, L6, L7, L8, L9, L10, L11, L13, L15, L16, L17, L18, L19, L20, L21, L22, L23, L26, L31, L32, L36, L40, L48, L62, L63, L64, L65, L67, L68, L69, L72, L73, L76, L79, L80, L82, L83, L84, L86, L87, L96, L118, L126, L128, L153, L229, L255, L256, L496, L511, L512, L1000, L65535, Lm1, N_and1, N_and7, N_and15, N_and31, N_and63, N_and255, N_and511, N_and65535, N_shr1, N_shr2, N_shr3, N_shr4, N_shr6, N_shr7, N_shr8, N_shr16, N_shl1, N_shl2, N_shl4, N_shl6, N_shl7, N_shl8, nI_add, pk_mul, n_sub, n_or8, n_or8', n_eq, n_lt, n_le, n_cl, n_div, Nat.reduceMod, n_or1]
  refine ⟨_, rfl, ?_⟩
  refine cp_fl (cp_reg h ?_ ?_) 6 ?_ ?_ ?_ <;> omega
def aTR (A : aS) (b : Nat) : aS := a_up (a_up A 2 7 (b * 128 + A 2 7 / 2)) 3 6 (A 2 7 % 2)
theorem c_turnR (h : CP A σ) {b : Nat} (hb : b < 2) : ∃ σ', x_M (d + 1) 61 [.ref 3, .int (nI b)] σ = some (0, σ') ∧ CP (aTR A b) σ' := by
  have ha := h.2.2.1 7 (by decide)
  rw [m61, cv_A h]
  simp (disch := omega) only [L0, L1, L2, L3, L4, L5, L6, L7, L8, L9, L10, L11, L13, L15, L16, L17, L18, L19, L20, L21, L22, L23, L26, L31, L32, L36, L40, L48, L62, L63, L64, L65, L67, L68, L69, L72, L73, L76, L79, L80, L82, L83, L84, L86, L87, L96, L118, L126, L128, L153, L229, L255, L256, L496, L511, L512, L1000, L65535, Lm1, N_and1, N_and7, N_and15, N_and31, N_and63, N_and255, N_and511, N_and65535, N_shr1, N_shr2, N_shr3, N_shr4, N_shr6, N_shr7, N_shr8, N_shr16, N_shl1, N_shl2, N_shl4, N_shl6, N_shl7, N_shl8, nI_add, pk_mul, n_sub, n_or8, n_or8', n_eq, n_lt, n_le, n_cl, n_div, Nat.reduceMod, n_or7']
  refine ⟨_, rfl, ?_⟩
  refine cp_fl (cp_reg h ?_ ?_) 6 ?_ ?_ ?_ <;> omega
def aPl (A : aS) (s c : Nat) : aS := aJu (a_up (a_up A 3 4 ((A 2 7 % 16 + s % 16 + c) / 16)) 3 6 ((A 2 7 + s + c) / 256)) ((A 2 7 + s + c) % 256)
theorem c_plus (h : CP A σ) {s c : Nat} (hs : s < 256) (hc : c < 2) : ∃ σ', x_M (d + 3) 65 [.ref 3, .int (nI s), .int (nI c)] σ = some (nI ((A 2 7 + s + c) % 256), σ') ∧ CP (aPl A s c) σ' := by
  have ha := h.2.2.1 7 (by decide)
  rw [m65, cv_A h]
  simp (disch := omega) only [L0, L1, L2, L3, L4, L5, L6, L7, L8, L9, L10, L11, L13, L15, L16, L17, L18, L19, L20, L21, L22, L23, L26, L31, L32, L36, L40, L48, L62, L63, L64, L65, L67, L68, L69, L72, L73, L76, L79, L80, L82, L83, L84, L86, L87, L96, L118, L126, L128, L153, L229, L255, L256, L496, L511, L512, L1000, L65535, Lm1, N_and1, N_and7, N_and15, N_and31, N_and63, N_and255, N_and511, N_and65535, N_shr1, N_shr2, N_shr3, N_shr4, N_shr6, N_shr7, N_shr8, N_shr16, N_shl1, N_shl2, N_shl4, N_shl6, N_shl7, N_shl8, nI_add, pk_mul, n_sub, n_or8, n_or8', n_eq, n_lt, n_le, n_cl, n_div, Nat.reduceMod]
  obtain ⟨σ1, e1, h1⟩ := c_judge d (cp_fl (cp_fl h 4 (v := (A 2 7 % 16 + s % 16 + c) / 16) (by omega) (by omega) (by omega)) 6 (v := (A 2 7 + s + c) / 256) (by omega) (by omega) (by omega)) (v := (A 2 7 + s + c) % 256) (by omega)
  rw [e1]
  exact ⟨σ1, rfl, h1⟩
def aMi (A : aS) (s b : Nat) : aS := a_up (aPl A (255 - s) (1 - b)) 3 6 (1 - aPl A (255 - s) (1 - b) 3 6)
theorem c_minus (h : CP A σ) {s b : Nat} (hs : s < 256) (hb : b < 2) : ∃ σ', x_M (d + 4) 66 [.ref 3, .int (nI s), .int (nI b)] σ = some (nI ((A 2 7 + (255 - s) + (1 - b)) % 256), σ') ∧ CP (aMi A s b) σ' := by
  rw [m66]
  simp (disch := omega) only [L0, L1, L2, L3, L4, L5, L6, L7, L8, L9, L10, L11, L13, L15, L16, L17, L18, L19, L20, L21, L22, L23, L26, L31, L32, L36, L40, L48, L62, L63, L64, L65, L67, L68, L69, L72, L73, L76, L79, L80, L82, L83, L84, L86, L87, L96, L118, L126, L128, L153, L229, L255, L256, L496, L511, L512, L1000, L65535, Lm1, N_and1, N_and7, N_and15, N_and31, N_and63, N_and255, N_and511, N_and65535, N_shr1, N_shr2, N_shr3, N_shr4, N_shr6, N_shr7, N_shr8, N_shr16, N_shl1, N_shl2, N_shl4, N_shl6, N_shl7, N_shl8, nI_add, pk_mul, n_sub, n_or8, n_or8', n_eq, n_lt, n_le, n_cl, n_div, Nat.reduceMod]
  obtain ⟨σ1, e1, h1⟩ := c_plus d h (s := 255 - s) (c := 1 - b) (by omega) (by omega)
  have hc := h1.2.2.2.2.2 6 (by decide) (by decide)
  rw [e1]
  simp only [bnd0]
  rw [cv_ca h1]
  simp (disch := omega) only [L0, L1, L2, L3, L4, L5, L6, L7, L8, L9, L10, L11, L13, L15, L16, L17, L18, L19, L20, L21, L22, L23, L26, L31, L32, L36, L40, L48, L62, L63, L64, L65, L67, L68, L69, L72, L73, L76, L79, L80, L82, L83, L84, L86, L87, L96, L118, L126, L128, L153, L229, L255, L256, L496, L511, L512, L1000, L65535, Lm1, N_and1, N_and7, N_and15, N_and31, N_and63, N_and255, N_and511, N_and65535, N_shr1, N_shr2, N_shr3, N_shr4, N_shr6, N_shr7, N_shr8, N_shr16, N_shl1, N_shl2, N_shl4, N_shl6, N_shl7, N_shl8, nI_add, pk_mul, n_sub, n_or8, n_or8', n_eq, n_lt, n_le, n_cl, n_div, Nat.reduceMod]
  exact ⟨_, rfl, cp_fl h1 6 (by decide) (by decide) (by omega)⟩
def aSB (A : aS) (r : Nat) : aS := aJu (a_up (a_up A 2 7 r) 3 6 0) r
theorem c_setBits (h : CP A σ) {r : Nat} (hr : r < 256) : ∃ σ', x_M (d + 3) 67 [.ref 3, .int (nI r)] σ = some (0, σ') ∧ CP (aSB A r) σ' := by
  obtain ⟨σ1, e1, h1⟩ := c_judge d (cp_fl (cp_reg h (i := 7) (v := r) (by decide) hr) 6 (v := 0) (by decide) (by decide) (by decide)) hr
  rw [m67]
  rw [show x_up (x_up σ 4 7 (nI r)) 3 8 0 = x_up (x_up σ 4 7 (nI r)) 3 (6 + 2) (nI 0) from rfl, e1]
  exact ⟨σ1, rfl, h1⟩
def aCb (A : aS) (y v : Nat) : aS := match y with
  | 0 => a_up (aPl A v 0) 2 7 ((A 2 7 + v + 0) % 256)
  | 1 => a_up (aPl A v (A 3 6)) 2 7 ((A 2 7 + v + A 3 6) % 256)
  | 2 => a_up (aMi A v 0) 2 7 ((A 2 7 + (255 - v) + (1 - 0)) % 256)
  | 3 => a_up (aMi A v (A 3 6)) 2 7 ((A 2 7 + (255 - v) + (1 - A 3 6)) % 256)
  | 4 => aSB (a_up A 3 4 ((A 2 7 ||| v) / 8 % 2)) (A 2 7 &&& v)
  | 5 => aSB (a_up A 3 4 0) (A 2 7 ^^^ v)
  | 6 => aSB (a_up A 3 4 0) (A 2 7 ||| v)
  | _ => aMi A v 0
theorem c_combine (h : CP A σ) {y v : Nat} (hy : y < 8) (hv : v < 256) : ∃ σ', x_M (d + 5) 68 [.ref 3, .int (nI y), .int (nI v)] σ = some (0, σ') ∧ CP (aCb A y v) σ' := by
  have ha := h.2.2.1 7 (by decide)
  have hc := h.2.2.2.2.2 6 (by decide) (by decide)
  have hor := l_or ha hv
  have hy' : y = 0 ∨ y = 1 ∨ y = 2 ∨ y = 3 ∨ y = 4 ∨ y = 5 ∨ y = 6 ∨ y = 7 := by omega
  rw [m68]
  rcases hy' with rfl | rfl | rfl | rfl | rfl | rfl | rfl | rfl
  · obtain ⟨σ1, e1, h1⟩ := c_plus (d + 1) h (s := v) (c := 0) hv (by decide)
    simp (disch := omega) only [L0, L1, L2, L3, L4, L5, L6, L7, L8, L9, L10, L11, L13, L15, L16, L17, L18, L19, L20, L21, L22, L23, L26, L31, L32, L36, L40, L48, L62, L63, L64, L65, L67, L68, L69, L72, L73, L76, L79, L80, L82, L83, L84, L86, L87, L96, L118, L126, L128, L153, L229, L255, L256, L496, L511, L512, L1000, L65535, Lm1, N_and1, N_and7, N_and15, N_and31, N_and63, N_and255, N_and511, N_and65535, N_shr1, N_shr2, N_shr3, N_shr4, N_shr6, N_shr7, N_shr8, N_shr16, N_shl1, N_shl2, N_shl4, N_shl6, N_shl7, N_shl8, nI_add, pk_mul, n_sub, n_or8, n_or8', n_eq, n_lt, n_le, n_cl, n_div, Nat.reduceMod, if_neg, if_pos, bnd0, e1]
    exact ⟨_, rfl, cp_reg h1 (by decide) (by omega)⟩
  · obtain ⟨σ1, e1, h1⟩ := c_plus (d + 1) h (s := v) (c := A 3 6) hv hc
    simp (disch := omega) only [L0, L1, L2, L3, L4, L5, L6, L7, L8, L9, L10, L11, L13, L15, L16, L17, L18, L19, L20, L21, L22, L23, L26, L31, L32, L36, L40, L48, L62, L63, L64, L65, L67, L68, L69, L72, L73, L76, L79, L80, L82, L83, L84, L86, L87, L96, L118, L126, L128, L153, L229, L255, L256, L496, L511, L512, L1000, L65535, Lm1, N_and1, N_and7, N_and15, N_and31, N_and63, N_and255, N_and511, N_and65535, N_shr1, N_shr2, N_shr3, N_shr4, N_shr6, N_shr7, N_shr8, N_shr16, N_shl1, N_shl2, N_shl4, N_shl6, N_shl7, N_shl8, nI_add, pk_mul, n_sub, n_or8, n_or8', n_eq, n_lt, n_le, n_cl, n_div, Nat.reduceMod, if_neg, if_pos, bnd0, cv_ca h, e1]
    exact ⟨_, rfl, cp_reg h1 (by decide) (by omega)⟩
  · obtain ⟨σ1, e1, h1⟩ := c_minus d h (s := v) (b := 0) hv (by decide)
    simp (disch := omega) only [L0, L1, L2, L3, L4, L5, L6, L7, L8, L9, L10, L11, L13, L15, L16, L17, L18, L19, L20, L21, L22, L23, L26, L31, L32, L36, L40, L48, L62, L63, L64, L65, L67, L68, L69, L72, L73, L76, L79, L80, L82, L83, L84, L86, L87, L96, L118, L126, L128, L153, L229, L255, L256, L496, L511, L512, L1000, L65535, Lm1, N_and1, N_and7, N_and15, N_and31, N_and63, N_and255, N_and511, N_and65535, N_shr1, N_shr2, N_shr3, N_shr4, N_shr6, N_shr7, N_shr8, N_shr16, N_shl1, N_shl2, N_shl4, N_shl6, N_shl7, N_shl8, nI_add, pk_mul, n_sub, n_or8, n_or8', n_eq, n_lt, n_le, n_cl, n_div, Nat.reduceMod, if_neg, if_pos, bnd0, e1]
    exact ⟨_, rfl, cp_reg h1 (by decide) (by omega)⟩
  · obtain ⟨σ1, e1, h1⟩ := c_minus d h (s := v) (b := A 3 6) hv hc
    simp (disch := omega) only [L0, L1, L2, L3, L4, L5, L6, L7, L8, L9, L10, L11, L13, L15, L16, L17, L18, L19, L20, L21, L22, L23, L26, L31, L32, L36, L40, L48, L62, L63, L64, L65, L67, L68, L69, L72, L73, L76, L79, L80, L82, L83, L84, L86, L87, L96, L118, L126, L128, L153, L229, L255, L256, L496, L511, L512, L1000, L65535, Lm1, N_and1, N_and7, N_and15, N_and31, N_and63, N_and255, N_and511, N_and65535, N_shr1, N_shr2, N_shr3, N_shr4, N_shr6, N_shr7, N_shr8, N_shr16, N_shl1, N_shl2, N_shl4, N_shl6, N_shl7, N_shl8, nI_add, pk_mul, n_sub, n_or8, n_or8', n_eq, n_lt, n_le, n_cl, n_div, Nat.reduceMod, if_neg, if_pos, bnd0, cv_ca h, e1]
    exact ⟨_, rfl, cp_reg h1 (by decide) (by omega)⟩
  · obtain ⟨σ1, e1, h1⟩ := c_setBits (d + 1) (cp_fl h 4 (v := (A 2 7 ||| v) / 8 % 2) (by decide) (by decide) (by omega)) (r := A 2 7 &&& v) (l_and ha)
    have ev : ((nI (A 2 7) ||| nI v) >>> ((3 : Int32) &&& 31)) &&& 1 = nI ((A 2 7 ||| v) / 8 % 2) := by rw [n_lor, n_shr3 (by omega), n_and1 (by omega)]
    rw [if_neg (by decide), if_neg (by decide), if_neg (by decide), if_neg (by decide), if_pos (by decide), x_up_oth (by decide), cv_A h, ev, n_land]
    rw [show x_up σ 3 6 (nI ((A 2 7 ||| v) / 8 % 2)) = x_up σ 3 (4 + 2) (nI ((A 2 7 ||| v) / 8 % 2)) from rfl, e1]
    exact ⟨_, rfl, h1⟩
  · obtain ⟨σ1, e1, h1⟩ := c_setBits (d + 1) (cp_fl h 4 (v := 0) (by decide) (by decide) (by decide)) (r := A 2 7 ^^^ v) (l_xor ha hv)
    simp (disch := omega) only [L0, L1, L2, L3, L4, L5, L6, L7, L8, L9, L10, L11, L13, L15, L16, L17, L18, L19, L20, L21, L22, L23, L26, L31, L32, L36, L40, L48, L62, L63, L64, L65, L67, L68, L69, L72, L73, L76, L79, L80, L82, L83, L84, L86, L87, L96, L118, L126, L128, L153, L229, L255, L256, L496, L511, L512, L1000, L65535, Lm1, N_and1, N_and7, N_and15, N_and31, N_and63, N_and255, N_and511, N_and65535, N_shr1, N_shr2, N_shr3, N_shr4, N_shr6, N_shr7, N_shr8, N_shr16, N_shl1, N_shl2, N_shl4, N_shl6, N_shl7, N_shl8, nI_add, pk_mul, n_sub, n_or8, n_or8', n_eq, n_lt, n_le, n_cl, n_div, Nat.reduceMod, if_neg, if_pos, bnd0, x_up_oth, cv_A h, n_lxor]
    rw [show x_up σ 3 6 (nI 0) = x_up σ 3 (4 + 2) (nI 0) from rfl, e1]
    exact ⟨_, rfl, h1⟩
  · obtain ⟨σ1, e1, h1⟩ := c_setBits (d + 1) (cp_fl h 4 (v := 0) (by decide) (by decide) (by decide)) (r := A 2 7 ||| v) hor
    simp (disch := omega) only [L0, L1, L2, L3, L4, L5, L6, L7, L8, L9, L10, L11, L13, L15, L16, L17, L18, L19, L20, L21, L22, L23, L26, L31, L32, L36, L40, L48, L62, L63, L64, L65, L67, L68, L69, L72, L73, L76, L79, L80, L82, L83, L84, L86, L87, L96, L118, L126, L128, L153, L229, L255, L256, L496, L511, L512, L1000, L65535, Lm1, N_and1, N_and7, N_and15, N_and31, N_and63, N_and255, N_and511, N_and65535, N_shr1, N_shr2, N_shr3, N_shr4, N_shr6, N_shr7, N_shr8, N_shr16, N_shl1, N_shl2, N_shl4, N_shl6, N_shl7, N_shl8, nI_add, pk_mul, n_sub, n_or8, n_or8', n_eq, n_lt, n_le, n_cl, n_div, Nat.reduceMod, if_neg, if_pos, bnd0, x_up_oth, cv_A h, n_lor]
    rw [show x_up σ 3 6 (nI 0) = x_up σ 3 (4 + 2) (nI 0) from rfl, e1]
    exact ⟨_, rfl, h1⟩
  · obtain ⟨σ1, e1, h1⟩ := c_minus d h (s := v) (b := 0) hv (by decide)
    simp (disch := omega) only [L0, L1, L2, L3, L4, L5, L6, L7, L8, L9, L10, L11, L13, L15, L16, L17, L18, L19, L20, L21, L22, L23, L26, L31, L32, L36, L40, L48, L62, L63, L64, L65, L67, L68, L69, L72, L73, L76, L79, L80, L82, L83, L84, L86, L87, L96, L118, L126, L128, L153, L229, L255, L256, L496, L511, L512, L1000, L65535, Lm1, N_and1, N_and7, N_and15, N_and31, N_and63, N_and255, N_and511, N_and65535, N_shr1, N_shr2, N_shr3, N_shr4, N_shr6, N_shr7, N_shr8, N_shr16, N_shl1, N_shl2, N_shl4, N_shl6, N_shl7, N_shl8, nI_add, pk_mul, n_sub, n_or8, n_or8', n_eq, n_lt, n_le, n_cl, n_div, Nat.reduceMod, if_neg, if_pos, bnd0, e1]
    exact ⟨_, rfl, h1⟩
def aHo (A : aS) (y : Nat) : Nat := if (if y / 2 = 0 then A 3 3 else if y / 2 = 1 then A 3 6 else if y / 2 = 2 then A 3 5 else A 3 2) = y % 2 then 1 else 0
theorem c_holds (h : CP A σ) {y : Nat} (hy : y < 8) : x_M (d + 1) 69 [.ref 3, .int (nI y)] σ = some (nI (aHo A y), σ) := by
  have w2 := h.2.2.2.2.2 2 (by decide) (by decide)
  have w3 := h.2.2.2.2.2 3 (by decide) (by decide)
  have w5 := h.2.2.2.2.2 5 (by decide) (by decide)
  have w6 := h.2.2.2.2.2 6 (by decide) (by decide)
  rw [m69]
  unfold aHo
  have hz : y / 2 = 0 ∨ y / 2 = 1 ∨ y / 2 = 2 ∨ y / 2 = 3 := by omega
  rcases hz with e | e | e | e
  · by_cases g : A 3 3 = y % 2 <;> simp (disch := omega) only [L0, L1, L2, L3, L4, L5, L6, L7, L8, L9, L10, L11, L13, L15, L16, L17, L18, L19, L20, L21, L22, L23, L26, L31, L32, L36, L40, L48, L62, L63, L64, L65, L67, L68, L69, L72, L73, L76, L79, L80, L82, L83, L84, L86, L87, L96, L118, L126, L128, L153, L229, L255, L256, L496, L511, L512, L1000, L65535, Lm1, N_and1, N_and7, N_and15, N_and31, N_and63, N_and255, N_and511, N_and65535, N_shr1, N_shr2, N_shr3, N_shr4, N_shr6, N_shr7, N_shr8, N_shr16, N_shl1, N_shl2, N_shl4, N_shl6, N_shl7, N_shl8, nI_add, pk_mul, n_sub, n_or8, n_or8', n_eq, n_lt, n_le, n_cl, n_div, Nat.reduceMod, if_neg, if_pos, bnd0, cv_ze h]
  · by_cases g : A 3 6 = y % 2 <;> simp (disch := omega) only [L0, L1, L2, L3, L4, L5, L6, L7, L8, L9, L10, L11, L13, L15, L16, L17, L18, L19, L20, L21, L22, L23, L26, L31, L32, L36, L40, L48, L62, L63, L64, L65, L67, L68, L69, L72, L73, L76, L79, L80, L82, L83, L84, L86, L87, L96, L118, L126, L128, L153, L229, L255, L256, L496, L511, L512, L1000, L65535, Lm1, N_and1, N_and7, N_and15, N_and31, N_and63, N_and255, N_and511, N_and65535, N_shr1, N_shr2, N_shr3, N_shr4, N_shr6, N_shr7, N_shr8, N_shr16, N_shl1, N_shl2, N_shl4, N_shl6, N_shl7, N_shl8, nI_add, pk_mul, n_sub, n_or8, n_or8', n_eq, n_lt, n_le, n_cl, n_div, Nat.reduceMod, if_neg, if_pos, bnd0, cv_ca h]
  · by_cases g : A 3 5 = y % 2 <;> simp (disch := omega) only [L0, L1, L2, L3, L4, L5, L6, L7, L8, L9, L10, L11, L13, L15, L16, L17, L18, L19, L20, L21, L22, L23, L26, L31, L32, L36, L40, L48, L62, L63, L64, L65, L67, L68, L69, L72, L73, L76, L79, L80, L82, L83, L84, L86, L87, L96, L118, L126, L128, L153, L229, L255, L256, L496, L511, L512, L1000, L65535, Lm1, N_and1, N_and7, N_and15, N_and31, N_and63, N_and255, N_and511, N_and65535, N_shr1, N_shr2, N_shr3, N_shr4, N_shr6, N_shr7, N_shr8, N_shr16, N_shl1, N_shl2, N_shl4, N_shl6, N_shl7, N_shl8, nI_add, pk_mul, n_sub, n_or8, n_or8', n_eq, n_lt, n_le, n_cl, n_div, Nat.reduceMod, if_neg, if_pos, bnd0, cv_pa h]
  · by_cases g : A 3 2 = y % 2 <;> simp (disch := omega) only [L0, L1, L2, L3, L4, L5, L6, L7, L8, L9, L10, L11, L13, L15, L16, L17, L18, L19, L20, L21, L22, L23, L26, L31, L32, L36, L40, L48, L62, L63, L64, L65, L67, L68, L69, L72, L73, L76, L79, L80, L82, L83, L84, L86, L87, L96, L118, L126, L128, L153, L229, L255, L256, L496, L511, L512, L1000, L65535, Lm1, N_and1, N_and7, N_and15, N_and31, N_and63, N_and255, N_and511, N_and65535, N_shr1, N_shr2, N_shr3, N_shr4, N_shr6, N_shr7, N_shr8, N_shr16, N_shl1, N_shl2, N_shl4, N_shl6, N_shl7, N_shl8, nI_add, pk_mul, n_sub, n_or8, n_or8', n_eq, n_lt, n_le, n_cl, n_div, Nat.reduceMod, if_neg, if_pos, bnd0, cv_sg h]
end C3
