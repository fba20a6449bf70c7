/-! The model's processor over the same numbers -/
theorem a_cm (A : aS) {o k v o2 k2 v2 : Nat} (h : ¬ (o = o2 ∧ k = k2)) : a_up (a_up A o k v) o2 k2 v2 = a_up (a_up A o2 k2 v2) o k v := by
  funext a j
  unfold a_up
  by_cases e1 : a = o <;> by_cases e2 : a = o2 <;> by_cases e3 : j = k <;> by_cases e4 : j = k2 <;> simp_all
theorem a_id (A : aS) (o k v w : Nat) : a_up (a_up A o k v) o k w = a_up A o k w := by
  funext a j
  unfold a_up
  by_cases e1 : a = o <;> by_cases e3 : j = k <;> simp_all
theorem a_self (A : aS) {o k v : Nat} (h : v = A o k) : a_up A o k v = A := by
  funext a j
  unfold a_up
  by_cases e1 : a = o <;> by_cases e3 : j = k <;> simp_all
theorem a_at (A : aS) (o k v : Nat) : a_up A o k v o k = v := by simp [a_up]
theorem a_ne {A : aS} {o k v a j : Nat} (h : ¬ (a = o ∧ j = k)) : a_up A o k v a j = A a j := by
  unfold a_up
  by_cases e1 : a = o <;> by_cases e3 : j = k <;> simp_all
def mk (k : Nat) : Nat := match k with
  | 0 => 4
  | 1 => 5
  | 2 => 7
  | 3 => 8
  | 4 => 10
  | 5 => 9
  | _ => 11
theorem mk_inj : ∀ k, k < 7 → ∀ j, j < 7 → mk j = mk k → j = k := by decide
def MP (A : aS) (τ : xS) : Prop := (∀ i, i < 512 → τ 20 i = nI (A 0 i)) ∧ (∀ i, i < 8 → τ 22 i = nI (A 2 i)) ∧ ∀ k, k < 7 → τ 19 (mk k) = nI (A 3 k)
def CQ (A : aS) (τ : xS) : Prop := MP A τ ∧ WQ A
theorem mp_mem {A : aS} {σ : xS} (h : MP A σ) {i v : Nat} (_ : i < 512) : MP (a_up A 0 i v) (x_up σ 20 i (nI v)) := by
  refine ⟨fun j hj => ?_, fun j hj => ?_, fun k hk => ?_⟩
  · by_cases e : j = i
    · subst e; rw [x_up_at]; simp [a_up]
    · rw [x_up_off e]; simp [a_up, e, h.1 j hj]
  · rw [x_up_oth (by decide)]; simp [a_up, h.2.1 j hj]
  · rw [x_up_oth (by decide)]; simp [a_up, h.2.2 k hk]
theorem mp_reg {A : aS} {σ : xS} (h : MP A σ) {i v : Nat} (_ : i < 8) : MP (a_up A 2 i v) (x_up σ 22 i (nI v)) := by
  refine ⟨fun j hj => ?_, fun j hj => ?_, fun k hk => ?_⟩
  · rw [x_up_oth (by decide)]; simp [a_up, h.1 j hj]
  · by_cases e : j = i
    · subst e; rw [x_up_at]; simp [a_up]
    · rw [x_up_off e]; simp [a_up, e, h.2.1 j hj]
  · rw [x_up_oth (by decide)]; simp [a_up, h.2.2 k hk]
theorem mp_sc {A : aS} {σ : xS} (h : MP A σ) {k v : Nat} (hk : k < 7) : MP (a_up A 3 k v) (x_up σ 19 (mk k) (nI v)) := by
  refine ⟨fun j hj => ?_, fun j hj => ?_, fun j hj => ?_⟩
  · rw [x_up_oth (by decide)]; simp [a_up, h.1 j hj]
  · rw [x_up_oth (by decide)]; simp [a_up, h.2.1 j hj]
  · by_cases e : j = k
    · subst e; rw [x_up_at]; simp [a_up]
    · rw [x_up_off (fun q => e (mk_inj k hk j hj q))]; simp [a_up, e, h.2.2 j hj]
theorem mq_mem {A : aS} {σ : xS} (h : CQ A σ) {i v : Nat} (hi : i < 512) (hv : v < 256) : CQ (a_up A 0 i v) (x_up σ 20 i (nI v)) := ⟨mp_mem h.1 hi, wq_mem h.2 hv⟩
theorem mq_reg {A : aS} {σ : xS} (h : CQ A σ) {i v : Nat} (hi : i < 8) (hv : v < 256) : CQ (a_up A 2 i v) (x_up σ 22 i (nI v)) := ⟨mp_reg h.1 hi, wq_reg h.2 hv⟩
theorem mq_sp {A : aS} {σ : xS} (h : CQ A σ) {v : Nat} (hv : v < 65536) : CQ (a_up A 3 0 v) (x_up σ 19 4 (nI v)) := ⟨mp_sc (k := 0) h.1 (by decide), wq_sp h.2 hv⟩
theorem mq_pc {A : aS} {σ : xS} (h : CQ A σ) {v : Nat} (hv : v < 70000) : CQ (a_up A 3 1 v) (x_up σ 19 5 (nI v)) := ⟨mp_sc (k := 1) h.1 (by decide), wq_pc h.2 hv⟩
theorem mq_sg {A : aS} {σ : xS} (h : CQ A σ) {v : Nat} (hv : v < 2) : CQ (a_up A 3 2 v) (x_up σ 19 7 (nI v)) := ⟨mp_sc (k := 2) h.1 (by decide), wq_fl h.2 (by decide) (by decide) hv⟩
theorem mq_ze {A : aS} {σ : xS} (h : CQ A σ) {v : Nat} (hv : v < 2) : CQ (a_up A 3 3 v) (x_up σ 19 8 (nI v)) := ⟨mp_sc (k := 3) h.1 (by decide), wq_fl h.2 (by decide) (by decide) hv⟩
theorem mq_ha {A : aS} {σ : xS} (h : CQ A σ) {v : Nat} (hv : v < 2) : CQ (a_up A 3 4 v) (x_up σ 19 10 (nI v)) := ⟨mp_sc (k := 4) h.1 (by decide), wq_fl h.2 (by decide) (by decide) hv⟩
theorem mq_pa {A : aS} {σ : xS} (h : CQ A σ) {v : Nat} (hv : v < 2) : CQ (a_up A 3 5 v) (x_up σ 19 9 (nI v)) := ⟨mp_sc (k := 5) h.1 (by decide), wq_fl h.2 (by decide) (by decide) hv⟩
theorem mq_ca {A : aS} {σ : xS} (h : CQ A σ) {v : Nat} (hv : v < 2) : CQ (a_up A 3 6 v) (x_up σ 19 11 (nI v)) := ⟨mp_sc (k := 6) h.1 (by decide), wq_fl h.2 (by decide) (by decide) hv⟩
section M2
variable {A : aS} {σ : xS} (d : Nat)
theorem mv_sp (h : CQ A σ) : σ 19 4 = nI (A 3 0) := h.1.2.2 0 (by decide)
theorem mv_pc (h : CQ A σ) : σ 19 5 = nI (A 3 1) := h.1.2.2 1 (by decide)
theorem mv_sg (h : CQ A σ) : σ 19 7 = nI (A 3 2) := h.1.2.2 2 (by decide)
theorem mv_ze (h : CQ A σ) : σ 19 8 = nI (A 3 3) := h.1.2.2 3 (by decide)
theorem mv_ha (h : CQ A σ) : σ 19 10 = nI (A 3 4) := h.1.2.2 4 (by decide)
theorem mv_pa (h : CQ A σ) : σ 19 9 = nI (A 3 5) := h.1.2.2 5 (by decide)
theorem mv_ca (h : CQ A σ) : σ 19 11 = nI (A 3 6) := h.1.2.2 6 (by decide)
theorem mv_A (h : CQ A σ) : σ 22 7 = nI (A 2 7) := h.1.2.1 7 (by decide)
theorem m_get (h : CQ A σ) {a : Nat} (ha : a < 2147483648) : x_M (d + 1) 122 [.ref 19, .int (nI a)] σ = some (nI (A 0 (a % 512)), σ) := by
  rw [m122, if_neg (ok511 _), ix511 (by omega), h.1.1 _ (by omega)]
theorem m_put (h : CQ A σ) {a v : Nat} (ha : a < 2147483648) (hv : v < 2147483648) : ∃ σ', x_M (d + 1) 127 [.ref 19, .int (nI a), .int (nI v)] σ = some (0, σ') ∧ CQ (a_up A 0 (a % 512) (v % 256)) σ' := by
  rw [m127, if_neg (ok511 _), ix511 (by omega), n_and255 (by omega)]
  exact ⟨_, rfl, mq_mem h (by omega) (by omega)⟩
theorem m_word (h : CQ A σ) {a : Nat} (ha : a < 2147483000) : x_M (d + 2) 141 [.ref 19, .int (nI a)] σ = some (nI (aWd A a), σ) := by
  have h1 := h.2.1 (a % 512) (by omega)
  have h2 := h.2.1 ((a + 1) % 512) (by omega)
  rw [m141, m_get d h (by omega), bnd0]
  dsimp only
  rw [show (1 : Int32) = nI 1 from rfl, nI_add, m_get d h (by omega), bnd0]
  dsimp only
  rw [show (256 : Int32) = nI 256 from rfl, pk_mul, nI_add]
  refine congrArg (fun z => some (nI z, σ)) ?_
  unfold aWd
  omega
theorem m_putWord (h : CQ A σ) {a v : Nat} (ha : a < 2147483000) (hv : v < 2147483648) : ∃ σ', x_M (d + 2) 129 [.ref 19, .int (nI a), .int (nI v)] σ = some (0, σ') ∧ CQ (a_up (a_up A 0 (a % 512) (v % 256)) 0 ((a + 1) % 512) (v / 256 % 256)) σ' := by
  obtain ⟨σ1, e1, h1⟩ := m_put d h (a := a) (v := v) (by omega) hv
  obtain ⟨σ2, e2, h2⟩ := m_put d h1 (a := a + 1) (v := v / 256) (by omega) (by omega)
  rw [m129]
  simp (disch := omega) only [L0, L1, L2, L3, L4, L5, L6, L7, L8, L9, L10, L11, L13, L15, L16, L17, L18, L19, L20, L21, L22, L23, L26, L31, L32, L36, L40, L48, L62, L63, L64, L65, L67, L68, L69, L72, L73, L76, L79, L80, L82, L83, L84, L86, L87, L96, L118, L126, L128, L153, L229, L255, L256, L496, L511, L512, L1000, L65535, Lm1, N_and1, N_and7, N_and15, N_and31, N_and63, N_and255, N_and511, N_and65535, N_shr1, N_shr2, N_shr3, N_shr4, N_shr6, N_shr7, N_shr8, N_shr16, N_shl1, N_shl2, N_shl4, N_shl6, N_shl7, N_shl8, nI_add, pk_mul, n_sub, n_or8, n_or8', n_eq, n_lt, n_le, n_cl, n_div, Nat.reduceMod, if_neg, if_pos, bnd0, e1, e2]
  exact ⟨_, rfl, h2⟩
theorem m_pair (h : CQ A σ) {p : Nat} (hp : p < 4) : x_M (d + 1) 134 [.ref 19, .int (nI p)] σ = some (nI (aPr A p), σ) := by
  have h0 := mv_sp h
  unfold aPr
  rw [m134]
  by_cases e : p = 3
  · subst e
    rw [if_pos (show nI 3 = (3 : Int32) from rfl), if_pos rfl]
    exact congrArg (fun z => some (z, σ)) h0
  · have h1 := h.2.2.1 (2 * p) (by omega)
    have h2 := h.2.2.1 (2 * p + 1) (by omega)
    simp (disch := omega) only [L0, L1, L2, L3, L4, L5, L6, L7, L8, L9, L10, L11, L13, L15, L16, L17, L18, L19, L20, L21, L22, L23, L26, L31, L32, L36, L40, L48, L62, L63, L64, L65, L67, L68, L69, L72, L73, L76, L79, L80, L82, L83, L84, L86, L87, L96, L118, L126, L128, L153, L229, L255, L256, L496, L511, L512, L1000, L65535, Lm1, N_and1, N_and7, N_and15, N_and31, N_and63, N_and255, N_and511, N_and65535, N_shr1, N_shr2, N_shr3, N_shr4, N_shr6, N_shr7, N_shr8, N_shr16, N_shl1, N_shl2, N_shl4, N_shl6, N_shl7, N_shl8, nI_add, pk_mul, n_sub, n_or8, n_or8', n_eq, n_lt, n_le, n_cl, n_div, Nat.reduceMod, if_neg, if_pos, bnd0, h.1.2.1]
    refine congrArg (fun z => some (nI z, σ)) ?_
    omega
theorem m_setPair (h : CQ A σ) {p w : Nat} (hp : p < 4) (hw : w < 2147483648) : ∃ σ', x_M (d + 1) 144 [.ref 19, .int (nI p), .int (nI w)] σ = some (0, σ') ∧ CQ (aSP A p w) σ' := by
  unfold aSP
  rw [m144]
  by_cases e : p = 3
  · subst e
    rw [if_pos (show nI 3 = (3 : Int32) from rfl), if_pos rfl, n_and65535 (by omega)]
    exact ⟨_, rfl, mq_sp h (by omega)⟩
  · rw [if_neg e]
    simp (disch := omega) only [L0, L1, L2, L3, L4, L5, L6, L7, L8, L9, L10, L11, L13, L15, L16, L17, L18, L19, L20, L21, L22, L23, L26, L31, L32, L36, L40, L48, L62, L63, L64, L65, L67, L68, L69, L72, L73, L76, L79, L80, L82, L83, L84, L86, L87, L96, L118, L126, L128, L153, L229, L255, L256, L496, L511, L512, L1000, L65535, Lm1, N_and1, N_and7, N_and15, N_and31, N_and63, N_and255, N_and511, N_and65535, N_shr1, N_shr2, N_shr3, N_shr4, N_shr6, N_shr7, N_shr8, N_shr16, N_shl1, N_shl2, N_shl4, N_shl6, N_shl7, N_shl8, nI_add, pk_mul, n_sub, n_or8, n_or8', n_eq, n_lt, n_le, n_cl, n_div, Nat.reduceMod, if_neg, if_pos, bnd0]
    refine ⟨_, rfl, ?_⟩
    refine mq_reg (mq_reg h ?_ ?_) ?_ ?_ <;> omega
theorem m_pairDec (h : CQ A σ) {p : Nat} (hp : p < 4) : ∃ σ', x_M (d + 1) 144 [.ref 19, .int (nI p), .int (nI (aPr A p) + (-1))] σ = some (0, σ') ∧ CQ (aSP A p (aPr A p + 65535)) σ' := by
  have hb := aPr_lt h.2 hp
  by_cases e : aPr A p = 0
  · rw [e, m144]
    unfold aSP
    by_cases e3 : p = 3
    · subst e3
      rw [if_pos (show nI 3 = (3 : Int32) from rfl), if_pos rfl, show (nI 0 + (-1)) &&& Int32.ofNat 65535 = nI ((0 + 65535) % 65536) from by decide]
      exact ⟨_, rfl, mq_sp h (by decide)⟩
    · rw [if_neg e3, show ((nI 0 + (-1)) >>> ((8 : Int32) &&& 31)) &&& (255 : Int32) = nI ((0 + 65535) / 256 % 256) from by decide, show (nI 0 + (-1)) &&& (255 : Int32) = nI ((0 + 65535) % 256) from by decide]
      simp (disch := omega) only [L0, L1, L2, L3, L4, L5, L6, L7, L8, L9, L10, L11, L13, L15, L16, L17, L18, L19, L20, L21, L22, L23, L26, L31, L32, L36, L40, L48, L62, L63, L64, L65, L67, L68, L69, L72, L73, L76, L79, L80, L82, L83, L84, L86, L87, L96, L118, L126, L128, L153, L229, L255, L256, L496, L511, L512, L1000, L65535, Lm1, N_and1, N_and7, N_and15, N_and31, N_and63, N_and255, N_and511, N_and65535, N_shr1, N_shr2, N_shr3, N_shr4, N_shr6, N_shr7, N_shr8, N_shr16, N_shl1, N_shl2, N_shl4, N_shl6, N_shl7, N_shl8, nI_add, pk_mul, n_sub, n_or8, n_or8', n_eq, n_lt, n_le, n_cl, n_div, Nat.reduceMod, if_neg, if_pos, bnd0]
      refine ⟨_, rfl, ?_⟩
      refine mq_reg (mq_reg h ?_ ?_) ?_ ?_ <;> omega
  · rw [sb_m1 (by omega), ← aSP_dec A (by omega) hb]
    exact m_setPair d h hp (by omega)
theorem m_push (h : CQ A σ) {w : Nat} (hw : w < 2147483648) : ∃ σ', x_M (d + 3) 130 [.ref 19, .int (nI w)] σ = some (0, σ') ∧ CQ (aPu A w) σ' := by
  rw [m130, x_up_at, mv_sp h, n_sp2 h.2.2.2.1]
  obtain ⟨σ', e1, h1⟩ := m_putWord d (mq_sp (v := (A 3 0 + 65534) % 65536) h (by omega)) (a := (A 3 0 + 65534) % 65536) (v := w) (by omega) hw
  rw [e1]
  exact ⟨σ', rfl, h1⟩
theorem m_pop (h : CQ A σ) : ∃ σ', x_M (d + 3) 142 [.ref 19] σ = some (nI (aWd A (A 3 0)), σ') ∧ CQ (aP2 A) σ' := by
  have hs := h.2.2.2.1
  rw [m142, mv_sp h, m_word d h (by omega), bnd0]
  dsimp only
  rw [mv_sp h]
  simp (disch := omega) only [L0, L1, L2, L3, L4, L5, L6, L7, L8, L9, L10, L11, L13, L15, L16, L17, L18, L19, L20, L21, L22, L23, L26, L31, L32, L36, L40, L48, L62, L63, L64, L65, L67, L68, L69, L72, L73, L76, L79, L80, L82, L83, L84, L86, L87, L96, L118, L126, L128, L153, L229, L255, L256, L496, L511, L512, L1000, L65535, Lm1, N_and1, N_and7, N_and15, N_and31, N_and63, N_and255, N_and511, N_and65535, N_shr1, N_shr2, N_shr3, N_shr4, N_shr6, N_shr7, N_shr8, N_shr16, N_shl1, N_shl2, N_shl4, N_shl6, N_shl7, N_shl8, nI_add, pk_mul, n_sub, n_or8, n_or8', n_eq, n_lt, n_le, n_cl, n_div, Nat.reduceMod]
  exact ⟨_, rfl, mq_sp h (by omega)⟩
theorem m_getR (h : CQ A σ) {r : Nat} (hr : r < 8) : x_M (d + 2) 146 [.ref 19, .int (nI r)] σ = some (nI (aGr A r), σ) := by
  have hp := aPr_lt h.2 (p := 2) (by omega)
  unfold aGr
  rw [m146]
  by_cases e : r = 6
  · subst e
    rw [if_pos (show nI 6 = (6 : Int32) from rfl), if_pos rfl, show (2 : Int32) = nI 2 from rfl, m_pair d h (by omega), bnd0]
    dsimp only
    rw [m_get d h (by omega), bnd0]
  · simp (disch := omega) only [L0, L1, L2, L3, L4, L5, L6, L7, L8, L9, L10, L11, L13, L15, L16, L17, L18, L19, L20, L21, L22, L23, L26, L31, L32, L36, L40, L48, L62, L63, L64, L65, L67, L68, L69, L72, L73, L76, L79, L80, L82, L83, L84, L86, L87, L96, L118, L126, L128, L153, L229, L255, L256, L496, L511, L512, L1000, L65535, Lm1, N_and1, N_and7, N_and15, N_and31, N_and63, N_and255, N_and511, N_and65535, N_shr1, N_shr2, N_shr3, N_shr4, N_shr6, N_shr7, N_shr8, N_shr16, N_shl1, N_shl2, N_shl4, N_shl6, N_shl7, N_shl8, nI_add, pk_mul, n_sub, n_or8, n_or8', n_eq, n_lt, n_le, n_cl, n_div, Nat.reduceMod, if_neg, if_pos, bnd0, h.1.2.1]
theorem m_putR (h : CQ A σ) {r v : Nat} (hr : r < 8) (hv : v < 256) : ∃ σ', x_M (d + 2) 147 [.ref 19, .int (nI r), .int (nI v)] σ = some (0, σ') ∧ CQ (aPR A r v) σ' := by
  have hp := aPr_lt h.2 (p := 2) (by omega)
  unfold aPR
  rw [m147]
  by_cases e : r = 6
  · subst e
    rw [if_pos (show nI 6 = (6 : Int32) from rfl), if_pos rfl, show (2 : Int32) = nI 2 from rfl, m_pair d h (by omega), bnd0]
    dsimp only
    obtain ⟨σ', e1, h1⟩ := m_put d h (a := aPr A 2) (v := v) (by omega) (by omega)
    rw [e1]
    exact ⟨σ', rfl, h1⟩
  · rw [if_neg e]
    simp (disch := omega) only [L0, L1, L2, L3, L4, L5, L6, L7, L8, L9, L10, L11, L13, L15, L16, L17, L18, L19, L20, L21, L22, L23, L26, L31, L32, L36, L40, L48, L62, L63, L64, L65, L67, L68, L69, L72, L73, L76, L79, L80, L82, L83, L84, L86, L87, L96, L118, L126, L128, L153, L229, L255, L256, L496, L511, L512, L1000, L65535, Lm1, N_and1, N_and7, N_and15, N_and31, N_and63, N_and255, N_and511, N_and65535, N_shr1, N_shr2, N_shr3, N_shr4, N_shr6, N_shr7, N_shr8, N_shr16, N_shl1, N_shl2, N_shl4, N_shl6, N_shl7, N_shl8, nI_add, pk_mul, n_sub, n_or8, n_or8', n_eq, n_lt, n_le, n_cl, n_div, Nat.reduceMod, if_neg, if_pos, bnd0, Nat.mod_eq_of_lt hv]
    exact ⟨_, rfl, mq_reg h hr hv⟩
theorem m_flags (h : CQ A σ) : x_M (d + 1) 155 [.ref 19] σ = some (nI (aFg A), σ) := by
  rw [m155, mv_sg h, mv_ze h, mv_ha h, mv_pa h, mv_ca h]
  simp (disch := omega) only [L0, L1, L2, L3, L4, L5, L6, L7, L8, L9, L10, L11, L13, L15, L16, L17, L18, L19, L20, L21, L22, L23, L26, L31, L32, L36, L40, L48, L62, L63, L64, L65, L67, L68, L69, L72, L73, L76, L79, L80, L82, L83, L84, L86, L87, L96, L118, L126, L128, L153, L229, L255, L256, L496, L511, L512, L1000, L65535, Lm1, N_and1, N_and7, N_and15, N_and31, N_and63, N_and255, N_and511, N_and65535, N_shr1, N_shr2, N_shr3, N_shr4, N_shr6, N_shr7, N_shr8, N_shr16, N_shl1, N_shl2, N_shl4, N_shl6, N_shl7, N_shl8, nI_add, pk_mul, n_sub, n_or8, n_or8', n_eq, n_lt, n_le, n_cl, n_div, Nat.reduceMod]
  refine congrArg (fun z => some (nI z, σ)) ?_
  unfold aFg
  omega
theorem m_setFlags (h : CQ A σ) {f : Nat} (hf : f < 2147483648) : ∃ σ', x_M (d + 1) 128 [.ref 19, .int (nI f)] σ = some (0, σ') ∧ CQ (aSF A f) σ' := by
  rw [m128]
  simp (disch := omega) only [L0, L1, L2, L3, L4, L5, L6, L7, L8, L9, L10, L11, L13, L15, L16, L17, L18, L19, L20, L21, L22, L23, L26, L31, L32, L36, L40, L48, L62, L63, L64, L65, L67, L68, L69, L72, L73, L76, L79, L80, L82, L83, L84, L86, L87, L96, L118, L126, L128, L153, L229, L255, L256, L496, L511, L512, L1000, L65535, Lm1, N_and1, N_and7, N_and15, N_and31, N_and63, N_and255, N_and511, N_and65535, N_shr1, N_shr2, N_shr3, N_shr4, N_shr6, N_shr7, N_shr8, N_shr16, N_shl1, N_shl2, N_shl4, N_shl6, N_shl7, N_shl8, nI_add, pk_mul, n_sub, n_or8, n_or8', n_eq, n_lt, n_le, n_cl, n_div, Nat.reduceMod]
  refine ⟨_, rfl, ?_⟩
  refine mq_ca (mq_pa (mq_ha (mq_ze (mq_sg h ?_) ?_) ?_) ?_) ?_ <;> omega
end M2
