/-! The class's processor, method by method: what each does to the numbers -/
def CP (A : aS) (σ : xS) : Prop := RP A σ ∧ WQ A
theorem cp_mem {A : aS} {σ : xS} (h : CP A σ) {i v : Nat} (hi : i < 512) (hv : v < 256) : CP (a_up A 0 i v) (x_up σ 2 i (nI v)) := ⟨rp_mem h.1 hi, wq_mem h.2 hv⟩
theorem cp_reg {A : aS} {σ : xS} (h : CP A σ) {i v : Nat} (hi : i < 8) (hv : v < 256) : CP (a_up A 2 i v) (x_up σ 4 i (nI v)) := ⟨rp_reg h.1 hi, wq_reg h.2 hv⟩
theorem cp_sp {A : aS} {σ : xS} (h : CP A σ) {v : Nat} (hv : v < 65536) : CP (a_up A 3 0 v) (x_up σ 3 2 (nI v)) := ⟨rp_sc (k := 0) h.1 (by decide), wq_sp h.2 hv⟩
theorem cp_pc {A : aS} {σ : xS} (h : CP A σ) {v : Nat} (hv : v < 70000) : CP (a_up A 3 1 v) (x_up σ 3 3 (nI v)) := ⟨rp_sc (k := 1) h.1 (by decide), wq_pc h.2 hv⟩
theorem cp_fl {A : aS} {σ : xS} (h : CP A σ) (k : Nat) {v : Nat} (h2 : 2 ≤ k) (hk : k < 7) (hv : v < 2) : CP (a_up A 3 k v) (x_up σ 3 (k + 2) (nI v)) := ⟨rp_sc h.1 hk, wq_fl h.2 h2 hk hv⟩
section C2
variable {A : aS} {σ : xS} (d : Nat)
theorem cv_sp (h : CP A σ) : σ 3 2 = nI (A 3 0) := h.1.2.2 0 (by decide)
theorem cv_pc (h : CP A σ) : σ 3 3 = nI (A 3 1) := h.1.2.2 1 (by decide)
theorem cv_sg (h : CP A σ) : σ 3 4 = nI (A 3 2) := h.1.2.2 2 (by decide)
theorem cv_ze (h : CP A σ) : σ 3 5 = nI (A 3 3) := h.1.2.2 3 (by decide)
theorem cv_ha (h : CP A σ) : σ 3 6 = nI (A 3 4) := h.1.2.2 4 (by decide)
theorem cv_pa (h : CP A σ) : σ 3 7 = nI (A 3 5) := h.1.2.2 5 (by decide)
theorem cv_ca (h : CP A σ) : σ 3 8 = nI (A 3 6) := h.1.2.2 6 (by decide)
theorem cv_A (h : CP A σ) : σ 4 7 = nI (A 2 7) := h.1.2.1 7 (by decide)
theorem c_put2 (h : CP A σ) {a v : Nat} (ha : a < 2147483648) (hv : v < 2147483648) : ∃ σ', x_M (d + 1) 37 [.ref 1, .int (nI a), .int (nI v)] σ = some (0, σ') ∧ CP (a_up A 0 (a % 512) (v % 256)) σ' := by
  rw [m37, if_neg (ok511 _), ix511 (by omega), n_and255 (by omega)]
  exact ⟨_, rfl, cp_mem h (by omega) (by omega)⟩
theorem c_putWord2 (h : CP A σ) {a v : Nat} (ha : a < 2147483000) (hv : v < 2147483648) : ∃ σ', x_M (d + 1) 43 [.ref 1, .int (nI a), .int (nI v)] σ = some (0, σ') ∧ CP (a_up (a_up A 0 (a % 512) (v % 256)) 0 ((a + 1) % 512) (v / 256 % 256)) σ' := by
  rw [m43, if_neg (ok511 _), if_neg (ok511 _)]
  simp (disch := omega) only [L0, L1, L2, L3, L4, L5, L6, L7, L8, L9, L10, L11, L13, L15, L16, L17, L18, L19, L20, L21, L22, L23, L26, L31, L32, L36, L40, L48, L62, L63, L64, L65, L67, L68, L69, L72, L73, L76, L79, L80, L82, L83, L84, L86, L87, L96, L118, L126, L128, L153, L229, L255, L256, L496, L511, L512, L1000, L65535, Lm1, N_and1, N_and7, N_and15, N_and31, N_and63, N_and255, N_and511, N_and65535, N_shr1, N_shr2, N_shr3, N_shr4, N_shr6, N_shr7, N_shr8, N_shr16, N_shl1, N_shl2, N_shl4, N_shl6, N_shl7, N_shl8, nI_add, pk_mul, n_sub, n_or8, n_or8', n_eq, n_lt, n_le, n_cl, n_div, Nat.reduceMod]
  refine ⟨_, rfl, ?_⟩
  refine cp_mem (cp_mem h ?_ ?_) ?_ ?_ <;> omega
def aWd (A : aS) (a : Nat) : Nat := A 0 ((a + 1) % 512) * 256 + A 0 (a % 512)
theorem aWd_lt {A : aS} (w : WQ A) (a : Nat) : aWd A a < 65536 := by
  have h1 := w.1 (a % 512) (by omega)
  have h2 := w.1 ((a + 1) % 512) (by omega)
  unfold aWd; omega
theorem c_word2 (h : CP A σ) {a : Nat} (ha : a < 2147483000) : x_M (d + 1) 52 [.ref 1, .int (nI a)] σ = some (nI (aWd A a), σ) := by
  have h1 := h.2.1 (a % 512) (by omega)
  have h2 := h.2.1 ((a + 1) % 512) (by omega)
  rw [m52, if_neg (ok511 _), if_neg (ok511 _)]
  simp (disch := omega) only [L0, L1, L2, L3, L4, L5, L6, L7, L8, L9, L10, L11, L13, L15, L16, L17, L18, L19, L20, L21, L22, L23, L26, L31, L32, L36, L40, L48, L62, L63, L64, L65, L67, L68, L69, L72, L73, L76, L79, L80, L82, L83, L84, L86, L87, L96, L118, L126, L128, L153, L229, L255, L256, L496, L511, L512, L1000, L65535, Lm1, N_and1, N_and7, N_and15, N_and31, N_and63, N_and255, N_and511, N_and65535, N_shr1, N_shr2, N_shr3, N_shr4, N_shr6, N_shr7, N_shr8, N_shr16, N_shl1, N_shl2, N_shl4, N_shl6, N_shl7, N_shl8, nI_add, pk_mul, n_sub, n_or8, n_or8', n_eq, n_lt, n_le, n_cl, n_div, Nat.reduceMod, h.1.1]
  rfl
def aPr (A : aS) (p : Nat) : Nat := if p = 3 then A 3 0 else A 2 (2 * p) * 256 + A 2 (2 * p + 1)
theorem aPr_lt {A : aS} (w : WQ A) {p : Nat} (hp : p < 4) : aPr A p < 65536 := by
  unfold aPr
  split
  · exact w.2.2.1
  · have h1 := w.2.1 (2 * p) (by omega)
    have h2 := w.2.1 (2 * p + 1) (by omega)
    omega
theorem c_pair2 (h : CP A σ) {p : Nat} (hp : p < 4) : x_M (d + 1) 50 [.ref 3, .int (nI p)] σ = some (nI (aPr A p), σ) := by
  have h0 := cv_sp h
  unfold aPr
  rw [m50]
  by_cases e : p = 3
  · subst e
    rw [if_pos (show nI 3 = (3 : Int32) from rfl), if_pos rfl]
    exact congrArg (fun z => some (z, σ)) h0
  · have h1 := h.2.2.1 (2 * p) (by omega)
    have h2 := h.2.2.1 (2 * p + 1) (by omega)
    simp (disch := omega) only [L0, L1, L2, L3, L4, L5, L6, L7, L8, L9, L10, L11, L13, L15, L16, L17, L18, L19, L20, L21, L22, L23, L26, L31, L32, L36, L40, L48, L62, L63, L64, L65, L67, L68, L69, L72, L73, L76, L79, L80, L82, L83, L84, L86, L87, L96, L118, L126, L128, L153, L229, L255, L256, L496, L511, L512, L1000, L65535, Lm1, N_and1, N_and7, N_and15, N_and31, N_and63, N_and255, N_and511, N_and65535, N_shr1, N_shr2, N_shr3, N_shr4, N_shr6, N_shr7, N_shr8, N_shr16, N_shl1, N_shl2, N_shl4, N_shl6, N_shl7, N_shl8, nI_add, pk_mul, n_sub, n_or8, n_or8', n_eq, n_lt, n_le, n_cl, n_div, Nat.reduceMod, if_neg, if_pos, bnd0, h.1.2.1]
def aSP (A : aS) (p w : Nat) : aS := if p = 3 then a_up A 3 0 (w % 65536) else a_up (a_up A 2 (2 * p) (w / 256 % 256)) 2 (2 * p + 1) (w % 256)
theorem c_setPair (h : CP A σ) {p w : Nat} (hp : p < 4) (hw : w < 2147483648) : ∃ σ', x_M (d + 1) 49 [.ref 3, .int (nI p), .int (nI w)] σ = some (0, σ') ∧ CP (aSP A p w) σ' := by
  unfold aSP
  rw [m49]
  by_cases e : p = 3
  · subst e
    rw [if_pos (show nI 3 = (3 : Int32) from rfl), if_pos rfl, n_and65535 (by omega)]
    exact ⟨_, rfl, cp_sp h (by omega)⟩
  · rw [if_neg e]
    simp (disch := omega) only [L0, L1, L2, L3, L4, L5, L6, L7, L8, L9, L10, L11, L13, L15, L16, L17, L18, L19, L20, L21, L22, L23, L26, L31, L32, L36, L40, L48, L62, L63, L64, L65, L67, L68, L69, L72, L73, L76, L79, L80, L82, L83, L84, L86, L87, L96, L118, L126, L128, L153, L229, L255, L256, L496, L511, L512, L1000, L65535, Lm1, N_and1, N_and7, N_and15, N_and31, N_and63, N_and255, N_and511, N_and65535, N_shr1, N_shr2, N_shr3, N_shr4, N_shr6, N_shr7, N_shr8, N_shr16, N_shl1, N_shl2, N_shl4, N_shl6, N_shl7, N_shl8, nI_add, pk_mul, n_sub, n_or8, n_or8', n_eq, n_lt, n_le, n_cl, n_div, Nat.reduceMod, if_neg, if_pos, bnd0]
    refine ⟨_, rfl, ?_⟩
    refine cp_reg (cp_reg h ?_ ?_) ?_ ?_ <;> omega
theorem n_sp2 {s : Nat} (hs : s < 65536) : (nI s - 2) &&& Int32.ofNat 65535 = nI ((s + 65534) % 65536) := by
  by_cases h : s < 2
  · rw [show (2 : Int32) = nI 2 from rfl, n_subw (by decide), n_and65535 (by omega)]
    exact congrArg nI (by omega)
  · rw [show (2 : Int32) = nI 2 from rfl, n_sub (by omega), n_and65535 (by omega)]
    exact congrArg nI (by omega)
def aPu (A : aS) (w : Nat) : aS := a_up (a_up (a_up A 3 0 ((A 3 0 + 65534) % 65536)) 0 ((A 3 0 + 65534) % 65536 % 512) (w % 256)) 0 (((A 3 0 + 65534) % 65536 + 1) % 512) (w / 256 % 256)
theorem c_push (h : CP A σ) {w : Nat} (hw : w < 2147483648) : ∃ σ', x_M (d + 2) 44 [.ref 3, .int (nI w)] σ = some (0, σ') ∧ CP (aPu A w) σ' := by
  rw [m44, x_up_at, cv_sp h, n_sp2 h.2.2.2.1]
  obtain ⟨σ', e1, h1⟩ := c_putWord2 d (cp_sp (v := (A 3 0 + 65534) % 65536) h (by omega)) (a := (A 3 0 + 65534) % 65536) (v := w) (by omega) hw
  rw [e1]
  exact ⟨σ', rfl, h1⟩
theorem c_pop (h : CP A σ) : ∃ σ', x_M (d + 2) 70 [.ref 3] σ = some (nI (aWd A (A 3 0)), σ') ∧ CP (a_up A 3 0 ((A 3 0 + 2) % 65536)) σ' := by
  have hs := h.2.2.2.1
  rw [m70, cv_sp h, c_word2 d h (by omega)]
  simp only [bnd0]
  rw [cv_sp h]
  simp (disch := omega) only [L0, L1, L2, L3, L4, L5, L6, L7, L8, L9, L10, L11, L13, L15, L16, L17, L18, L19, L20, L21, L22, L23, L26, L31, L32, L36, L40, L48, L62, L63, L64, L65, L67, L68, L69, L72, L73, L76, L79, L80, L82, L83, L84, L86, L87, L96, L118, L126, L128, L153, L229, L255, L256, L496, L511, L512, L1000, L65535, Lm1, N_and1, N_and7, N_and15, N_and31, N_and63, N_and255, N_and511, N_and65535, N_shr1, N_shr2, N_shr3, N_shr4, N_shr6, N_shr7, N_shr8, N_shr16, N_shl1, N_shl2, N_shl4, N_shl6, N_shl7, N_shl8, nI_add, pk_mul, n_sub, n_or8, n_or8', n_eq, n_lt, n_le, n_cl, n_div, Nat.reduceMod]
  exact ⟨_, rfl, cp_sp h (by omega)⟩
def aNx (A : aS) : aS := a_up A 3 1 ((A 3 1 + 1) % 65536)
theorem c_next (h : CP A σ) : ∃ σ', x_M (d + 2) 47 [.ref 3] σ = some (nI (A 0 (A 3 1 % 512)), σ') ∧ CP (aNx A) σ' := by
  have hs := h.2.2.2.2.1
  rw [m47, cv_pc h, c_get d h.1 (by omega)]
  simp only [bnd0]
  rw [cv_pc h]
  simp (disch := omega) only [L0, L1, L2, L3, L4, L5, L6, L7, L8, L9, L10, L11, L13, L15, L16, L17, L18, L19, L20, L21, L22, L23, L26, L31, L32, L36, L40, L48, L62, L63, L64, L65, L67, L68, L69, L72, L73, L76, L79, L80, L82, L83, L84, L86, L87, L96, L118, L126, L128, L153, L229, L255, L256, L496, L511, L512, L1000, L65535, Lm1, N_and1, N_and7, N_and15, N_and31, N_and63, N_and255, N_and511, N_and65535, N_shr1, N_shr2, N_shr3, N_shr4, N_shr6, N_shr7, N_shr8, N_shr16, N_shl1, N_shl2, N_shl4, N_shl6, N_shl7, N_shl8, nI_add, pk_mul, n_sub, n_or8, n_or8', n_eq, n_lt, n_le, n_cl, n_div, Nat.reduceMod]
  exact ⟨_, rfl, cp_pc h (by omega)⟩
theorem c_nextWord (h : CP A σ) : ∃ σ', x_M (d + 3) 48 [.ref 3] σ = some (nI (aWd A (A 3 1)), σ') ∧ CP (aNx (aNx A)) σ' := by
  have hs := h.2.2.2.2.1
  obtain ⟨σ1, e1, h1⟩ := c_next d h
  obtain ⟨σ2, e2, h2⟩ := c_next d h1
  have b1 := h.2.1 (A 3 1 % 512) (by omega)
  have b2 := h.2.1 ((A 3 1 + 1) % 512) (by omega)
  have v2 : aNx A 0 (aNx A 3 1 % 512) = A 0 ((A 3 1 + 1) % 512) := by
    have e : (A 3 1 + 1) % 65536 % 512 = (A 3 1 + 1) % 512 := by omega
    simp [aNx, a_up, e]
  rw [v2] at e2
  rw [m48, e1]
  simp only [bnd0]
  rw [e2]
  simp (disch := omega) only [L0, L1, L2, L3, L4, L5, L6, L7, L8, L9, L10, L11, L13, L15, L16, L17, L18, L19, L20, L21, L22, L23, L26, L31, L32, L36, L40, L48, L62, L63, L64, L65, L67, L68, L69, L72, L73, L76, L79, L80, L82, L83, L84, L86, L87, L96, L118, L126, L128, L153, L229, L255, L256, L496, L511, L512, L1000, L65535, Lm1, N_and1, N_and7, N_and15, N_and31, N_and63, N_and255, N_and511, N_and65535, N_shr1, N_shr2, N_shr3, N_shr4, N_shr6, N_shr7, N_shr8, N_shr16, N_shl1, N_shl2, N_shl4, N_shl6, N_shl7, N_shl8, nI_add, pk_mul, n_sub, n_or8, n_or8', n_eq, n_lt, n_le, n_cl, n_div, Nat.reduceMod, if_neg, if_pos, bnd0]
  exact ⟨_, rfl, h2⟩
def aGr (A : aS) (r : Nat) : Nat := if r = 6 then A 0 (aPr A 2 % 512) else A 2 r
theorem aGr_lt {A : aS} (w : WQ A) {r : Nat} (hr : r < 8) : aGr A r < 256 := by
  unfold aGr
  split
  · exact w.1 _ (by omega)
  · exact w.2.1 _ hr
theorem c_getR (h : CP A σ) {r : Nat} (hr : r < 8) : x_M (d + 2) 54 [.ref 3, .int (nI r)] σ = some (nI (aGr A r), σ) := by
  have hp := aPr_lt h.2 (p := 2) (by omega)
  unfold aGr
  rw [m54]
  by_cases e : r = 6
  · subst e
    rw [if_pos (show nI 6 = (6 : Int32) from rfl), if_pos rfl, show (2 : Int32) = nI 2 from rfl, c_pair2 d h (by omega)]
    simp only [bnd0]
    rw [c_get d h.1 (by omega)]
    rfl
  · simp (disch := omega) only [L0, L1, L2, L3, L4, L5, L6, L7, L8, L9, L10, L11, L13, L15, L16, L17, L18, L19, L20, L21, L22, L23, L26, L31, L32, L36, L40, L48, L62, L63, L64, L65, L67, L68, L69, L72, L73, L76, L79, L80, L82, L83, L84, L86, L87, L96, L118, L126, L128, L153, L229, L255, L256, L496, L511, L512, L1000, L65535, Lm1, N_and1, N_and7, N_and15, N_and31, N_and63, N_and255, N_and511, N_and65535, N_shr1, N_shr2, N_shr3, N_shr4, N_shr6, N_shr7, N_shr8, N_shr16, N_shl1, N_shl2, N_shl4, N_shl6, N_shl7, N_shl8, nI_add, pk_mul, n_sub, n_or8, n_or8', n_eq, n_lt, n_le, n_cl, n_div, Nat.reduceMod, if_neg, if_pos, bnd0, h.1.2.1]
def aPR (A : aS) (r v : Nat) : aS := if r = 6 then a_up A 0 (aPr A 2 % 512) (v % 256) else a_up A 2 r v
theorem c_putR (h : CP A σ) {r v : Nat} (hr : r < 8) (hv : v < 256) : ∃ σ', x_M (d + 2) 55 [.ref 3, .int (nI r), .int (nI v)] σ = some (0, σ') ∧ CP (aPR A r v) σ' := by
  have hp := aPr_lt h.2 (p := 2) (by omega)
  unfold aPR
  rw [m55]
  by_cases e : r = 6
  · subst e
    rw [if_pos (show nI 6 = (6 : Int32) from rfl), if_pos rfl, show (2 : Int32) = nI 2 from rfl, c_pair2 d h (by omega)]
    simp only [bnd0]
    obtain ⟨σ', e1, h1⟩ := c_put2 d h (a := aPr A 2) (v := v) (by omega) (by omega)
    rw [e1]
    exact ⟨σ', rfl, h1⟩
  · rw [if_neg e]
    simp (disch := omega) only [L0, L1, L2, L3, L4, L5, L6, L7, L8, L9, L10, L11, L13, L15, L16, L17, L18, L19, L20, L21, L22, L23, L26, L31, L32, L36, L40, L48, L62, L63, L64, L65, L67, L68, L69, L72, L73, L76, L79, L80, L82, L83, L84, L86, L87, L96, L118, L126, L128, L153, L229, L255, L256, L496, L511, L512, L1000, L65535, Lm1, N_and1, N_and7, N_and15, N_and31, N_and63, N_and255, N_and511, N_and65535, N_shr1, N_shr2, N_shr3, N_shr4, N_shr6, N_shr7, N_shr8, N_shr16, N_shl1, N_shl2, N_shl4, N_shl6, N_shl7, N_shl8, nI_add, pk_mul, n_sub, n_or8, n_or8', n_eq, n_lt, n_le, n_cl, n_div, Nat.reduceMod, if_neg, if_pos, bnd0]
    exact ⟨_, rfl, cp_reg h hr hv⟩
def aBc (v : Nat) : Nat := v / 128 % 2 + v / 64 % 2 + v / 32 % 2 + v / 16 % 2 + v / 8 % 2 + v / 4 % 2 + v / 2 % 2 + v % 2
theorem c_bits {v : Nat} (hv : v < 256) : x_M (d + 1) 56 [.int (nI v)] σ = some (nI (aBc v), σ) := by
  rw [m56]
  refine congrArg (fun z => some (z, σ)) ?_
  revert hv
  revert v
  decide +kernel
def aJu (A : aS) (v : Nat) : aS := a_up (a_up (a_up A 3 2 (v / 128)) 3 3 (if v = 0 then 1 else 0)) 3 5 (1 - aBc v % 2)
theorem aBc_lt (v : Nat) : aBc v < 9 := by unfold aBc; omega
theorem c_judge (h : CP A σ) {v : Nat} (hv : v < 256) : ∃ σ', x_M (d + 2) 57 [.ref 3, .int (nI v)] σ = some (0, σ') ∧ CP (aJu A v) σ' := by
  have hb := aBc_lt v
  unfold aJu
  rw [m57]
  by_cases e : v = 0
  · subst e
    rw [if_pos (show nI 0 = (0 : Int32) from rfl), if_pos rfl, c_bits d (by omega)]
    simp (disch := omega) only [L0, L1, L2, L3, L4, L5, L6, L7, L8, L9, L10, L11, L13, L15, L16, L17, L18, L19, L20, L21, L22, L23, L26, L31, L32, L36, L40, L48, L62, L63, L64, L65, L67, L68, L69, L72, L73, L76, L79, L80, L82, L83, L84, L86, L87, L96, L118, L126, L128, L153, L229, L255, L256, L496, L511, L512, L1000, L65535, Lm1, N_and1, N_and7, N_and15, N_and31, N_and63, N_and255, N_and511, N_and65535, N_shr1, N_shr2, N_shr3, N_shr4, N_shr6, N_shr7, N_shr8, N_shr16, N_shl1, N_shl2, N_shl4, N_shl6, N_shl7, N_shl8, nI_add, pk_mul, n_sub, n_or8, n_or8', n_eq, n_lt, n_le, n_cl, n_div, Nat.reduceMod, if_neg, if_pos, bnd0]
    refine ⟨_, rfl, ?_⟩
    refine cp_fl (cp_fl (cp_fl h 2 ?_ ?_ ?_) 3 ?_ ?_ ?_) 5 ?_ ?_ ?_ <;> omega
  · rw [if_neg (show ¬ nI v = (0 : Int32) from fun q => e ((nI_eq (by omega) (by omega)).mp q)), if_neg e, c_bits d (by omega)]
    simp (disch := omega) only [L0, L1, L2, L3, L4, L5, L6, L7, L8, L9, L10, L11, L13, L15, L16, L17, L18, L19, L20, L21, L22, L23, L26, L31, L32, L36, L40, L48, L62, L63, L64, L65, L67, L68, L69, L72, L73, L76, L79, L80, L82, L83, L84, L86, L87, L96, L118, L126, L128, L153, L229, L255, L256, L496, L511, L512, L1000, L65535, Lm1, N_and1, N_and7, N_and15, N_and31, N_and63, N_and255, N_and511, N_and65535, N_shr1, N_shr2, N_shr3, N_shr4, N_shr6, N_shr7, N_shr8, N_shr16, N_shl1, N_shl2, N_shl4, N_shl6, N_shl7, N_shl8, nI_add, pk_mul, n_sub, n_or8, n_or8', n_eq, n_lt, n_le, n_cl, n_div, Nat.reduceMod, if_neg, if_pos, bnd0]
    refine ⟨_, rfl, ?_⟩
    refine cp_fl (cp_fl (cp_fl h 2 ?_ ?_ ?_) 3 ?_ ?_ ?_) 5 ?_ ?_ ?_ <;> omega
end C2
