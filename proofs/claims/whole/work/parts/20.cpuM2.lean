/-! The model's processor: flags of a byte, sums, bits, turns -/
theorem N_shr0 {a : Nat} (ha : a < 2147483648) : nI a >>> nI 0 = nI (a / 1) := n_shr 0 _ (by decide) ha
theorem N_shr5 {a : Nat} (ha : a < 2147483648) : nI a >>> nI 5 = nI (a / 32) := n_shr 5 _ (by decide) ha
section M3
variable {A : aS} {σ : xS} (d : Nat)
def bs (v : Nat) : Nat → Nat → Nat
  | _, 0 => 0
  | k, j + 1 => v / 2 ^ k % 2 + bs v (k + 1) j
theorem bs_8 (v : Nat) : bs v 0 8 = aBc v := by
  simp only [bs, aBc, Nat.reducePow, Nat.reduceAdd, Nat.div_one, Nat.add_zero, Nat.zero_add]
  ac_rfl
theorem sm8 : ∀ k, k < 8 → ((nI k &&& 31).toBitVec.smod 32).toNat = k := by decide
theorem m_tl {v : Nat} (hv : v < 256) : ∀ (j k n s : Nat), k + j = 8 → j < n → s + j < 100 → xr x_i148 d n 4 [(0, .ref 19), (1, .int (nI v)), (2, .int (nI s)), (3, .int (nI k))] [] σ = some (0, x_up (x_up (x_up σ 19 7 (nI (v / 128))) 19 8 (nI (if v = 0 then 1 else 0))) 19 9 (nI (1 - (s + bs v k j) % 2))) := by
  intro j
  induction j with
  | zero =>
    intro k n s hk hn hs
    obtain ⟨n, rfl⟩ : ∃ m, n = m + 1 := ⟨n - 1, by omega⟩
    have e1 : v / 128 % 2 = v / 128 := by omega
    have e2 : 1 - (s - s / 2 * 2) = 1 - (s + bs v k 0) % 2 := by
      simp only [bs]
      omega
    have hk8 : k = 8 := by omega
    subst hk8
    rw [c148_4, if_pos (by decide)]
    by_cases e : v = 0
    · subst e
      rw [if_pos (show nI 0 = (0 : Int32) from rfl), if_pos rfl]
      simp (disch := omega) only [L0, L1, L2, L3, L4, L5, L6, L7, L8, L9, L10, L11, L13, L15, L16, L17, L18, L19, L20, L21, L22, L23, L26, L31, L32, L36, L40, L48, L62, L63, L64, L65, L67, L68, L69, L72, L73, L76, L79, L80, L82, L83, L84, L86, L87, L96, L118, L126, L128, L153, L229, L255, L256, L496, L511, L512, L1000, L65535, Lm1, N_and1, N_and7, N_and15, N_and31, N_and63, N_and255, N_and511, N_and65535, N_shr1, N_shr2, N_shr3, N_shr4, N_shr6, N_shr7, N_shr8, N_shr16, N_shl1, N_shl2, N_shl4, N_shl6, N_shl7, N_shl8, nI_add, pk_mul, n_sub, n_or8, n_or8', n_eq, n_lt, n_le, n_cl, n_div, Nat.reduceMod, e1, e2]
    · rw [if_neg (nz (by omega) e), if_neg e]
      simp (disch := omega) only [L0, L1, L2, L3, L4, L5, L6, L7, L8, L9, L10, L11, L13, L15, L16, L17, L18, L19, L20, L21, L22, L23, L26, L31, L32, L36, L40, L48, L62, L63, L64, L65, L67, L68, L69, L72, L73, L76, L79, L80, L82, L83, L84, L86, L87, L96, L118, L126, L128, L153, L229, L255, L256, L496, L511, L512, L1000, L65535, Lm1, N_and1, N_and7, N_and15, N_and31, N_and63, N_and255, N_and511, N_and65535, N_shr1, N_shr2, N_shr3, N_shr4, N_shr6, N_shr7, N_shr8, N_shr16, N_shl1, N_shl2, N_shl4, N_shl6, N_shl7, N_shl8, nI_add, pk_mul, n_sub, n_or8, n_or8', n_eq, n_lt, n_le, n_cl, n_div, Nat.reduceMod, e1, e2]
  | succ j ih =>
    intro k n s hk hn hs
    obtain ⟨n, rfl⟩ : ∃ m, n = m + 1 := ⟨n - 1, by omega⟩
    have hb : v / 2 ^ k < 256 := Nat.lt_of_le_of_lt (Nat.div_le_self _ _) hv
    have ek : (nI v >>> (nI k &&& 31)) &&& 1 = nI (v / 2 ^ k % 2) := by
      rw [pk_shrN (by omega) _ k (sm8 k (by omega)), n_and1 (by omega)]
    rw [c148_4, if_neg (show ¬ (8 : Int32) ≤ nI k from fun q => by have := (nI_leI (a := 8) (by decide) (by omega)).mp q; omega), ek, nI_add, show (1 : Int32) = nI 1 from rfl, nI_add, ih (k + 1) n (s + v / 2 ^ k % 2) (by omega) (by omega) (by omega)]
    simp only [bs, Nat.add_assoc]
theorem m_tells0 {v : Nat} (hv : v < 256) : x_M (d + 1) 148 [.ref 19, .int (nI v)] σ = some (0, x_up (x_up (x_up σ 19 7 (nI (v / 128))) 19 8 (nI (if v = 0 then 1 else 0))) 19 9 (nI (1 - aBc v % 2))) := by
  have h := m_tl (σ := σ) d hv 8 0 4999 0 rfl (by decide) (by decide)
  rw [bs_8, Nat.zero_add] at h
  rw [m148]
  exact h
theorem m_tells (h : CQ A σ) {v : Nat} (hv : v < 256) : ∃ σ', x_M (d + 1) 148 [.ref 19, .int (nI v)] σ = some (0, σ') ∧ CQ (aJu A v) σ' := by
  refine ⟨_, m_tells0 d hv, ?_⟩
  refine mq_pa (mq_ze (mq_sg h ?_) ?_) ?_
  · omega
  · split <;> omega
  · omega
def aAdd (A : aS) (s c : Nat) : aS := a_up (a_up A 3 4 ((A 2 7 % 16 + s % 16 + c) / 16)) 3 6 ((A 2 7 + s + c) / 256)
theorem m_added (h : CQ A σ) {s c : Nat} (hs : s < 256) (hc : c < 2) : ∃ σ', x_M (d + 1) 149 [.ref 19, .int (nI s), .int (nI c)] σ = some (nI ((A 2 7 + s + c) % 256), σ') ∧ CQ (aAdd A s c) σ' := by
  have ha := h.2.2.1 7 (by decide)
  unfold aAdd
  rw [m149, mv_A h]
  by_cases g1 : A 2 7 % 16 + s % 16 + c ≤ 15
  · have e1 : (A 2 7 % 16 + s % 16 + c) / 16 = 0 := by omega
    by_cases g2 : A 2 7 + s + c ≤ 255
    · have e2 : (A 2 7 + s + c) / 256 = 0 := by omega
      simp (disch := omega) only [L0, L1, L2, L3, L4, L5, L6, L7, L8, L9, L10, L11, L13, L15, L16, L17, L18, L19, L20, L21, L22, L23, L26, L31, L32, L36, L40, L48, L62, L63, L64, L65, L67, L68, L69, L72, L73, L76, L79, L80, L82, L83, L84, L86, L87, L96, L118, L126, L128, L153, L229, L255, L256, L496, L511, L512, L1000, L65535, Lm1, N_and1, N_and7, N_and15, N_and31, N_and63, N_and255, N_and511, N_and65535, N_shr1, N_shr2, N_shr3, N_shr4, N_shr6, N_shr7, N_shr8, N_shr16, N_shl1, N_shl2, N_shl4, N_shl6, N_shl7, N_shl8, nI_add, pk_mul, n_sub, n_or8, n_or8', n_eq, n_lt, n_le, n_cl, n_div, Nat.reduceMod, if_neg, if_pos, bnd0, e1, e2]
      exact ⟨_, rfl, mq_ca (mq_ha h (by decide)) (by decide)⟩
    · have e2 : (A 2 7 + s + c) / 256 = 1 := by omega
      simp (disch := omega) only [L0, L1, L2, L3, L4, L5, L6, L7, L8, L9, L10, L11, L13, L15, L16, L17, L18, L19, L20, L21, L22, L23, L26, L31, L32, L36, L40, L48, L62, L63, L64, L65, L67, L68, L69, L72, L73, L76, L79, L80, L82, L83, L84, L86, L87, L96, L118, L126, L128, L153, L229, L255, L256, L496, L511, L512, L1000, L65535, Lm1, N_and1, N_and7, N_and15, N_and31, N_and63, N_and255, N_and511, N_and65535, N_shr1, N_shr2, N_shr3, N_shr4, N_shr6, N_shr7, N_shr8, N_shr16, N_shl1, N_shl2, N_shl4, N_shl6, N_shl7, N_shl8, nI_add, pk_mul, n_sub, n_or8, n_or8', n_eq, n_lt, n_le, n_cl, n_div, Nat.reduceMod, if_neg, if_pos, bnd0, e1, e2]
      exact ⟨_, rfl, mq_ca (mq_ha h (by decide)) (by decide)⟩
  · have e1 : (A 2 7 % 16 + s % 16 + c) / 16 = 1 := by omega
    by_cases g2 : A 2 7 + s + c ≤ 255
    · have e2 : (A 2 7 + s + c) / 256 = 0 := by omega
      simp (disch := omega) only [L0, L1, L2, L3, L4, L5, L6, L7, L8, L9, L10, L11, L13, L15, L16, L17, L18, L19, L20, L21, L22, L23, L26, L31, L32, L36, L40, L48, L62, L63, L64, L65, L67, L68, L69, L72, L73, L76, L79, L80, L82, L83, L84, L86, L87, L96, L118, L126, L128, L153, L229, L255, L256, L496, L511, L512, L1000, L65535, Lm1, N_and1, N_and7, N_and15, N_and31, N_and63, N_and255, N_and511, N_and65535, N_shr1, N_shr2, N_shr3, N_shr4, N_shr6, N_shr7, N_shr8, N_shr16, N_shl1, N_shl2, N_shl4, N_shl6, N_shl7, N_shl8, nI_add, pk_mul, n_sub, n_or8, n_or8', n_eq, n_lt, n_le, n_cl, n_div, Nat.reduceMod, if_neg, if_pos, bnd0, e1, e2]
      exact ⟨_, rfl, mq_ca (mq_ha h (by decide)) (by decide)⟩
    · have e2 : (A 2 7 + s + c) / 256 = 1 := by omega
      simp (disch := omega) only [L0, L1, L2, L3, L4, L5, L6, L7, L8, L9, L10, L11, L13, L15, L16, L17, L18, L19, L20, L21, L22, L23, L26, L31, L32, L36, L40, L48, L62, L63, L64, L65, L67, L68, L69, L72, L73, L76, L79, L80, L82, L83, L84, L86, L87, L96, L118, L126, L128, L153, L229, L255, L256, L496, L511, L512, L1000, L65535, Lm1, N_and1, N_and7, N_and15, N_and31, N_and63, N_and255, N_and511, N_and65535, N_shr1, N_shr2, N_shr3, N_shr4, N_shr6, N_shr7, N_shr8, N_shr16, N_shl1, N_shl2, N_shl4, N_shl6, N_shl7, N_shl8, nI_add, pk_mul, n_sub, n_or8, n_or8', n_eq, n_lt, n_le, n_cl, n_div, Nat.reduceMod, if_neg, if_pos, bnd0, e1, e2]
      exact ⟨_, rfl, mq_ca (mq_ha h (by decide)) (by decide)⟩
theorem aJu_cm (B : aS) {o k v x : Nat} (h : ¬ (o = 3 ∧ (k = 2 ∨ k = 3 ∨ k = 5))) : a_up (aJu B v) o k x = aJu (a_up B o k x) v := by
  unfold aJu
  rw [a_cm _ (by omega), a_cm (a_up B 3 2 (v / 128)) (by omega), a_cm B (by omega)]
theorem aJu_at (B : aS) {o k v : Nat} (h : ¬ (o = 3 ∧ (k = 2 ∨ k = 3 ∨ k = 5))) : aJu B v o k = B o k := by
  unfold aJu
  rw [a_ne (by omega), a_ne (by omega), a_ne (by omega)]
theorem aMi_eq (A : aS) (s b : Nat) : aMi A s b = aJu (a_up (aAdd A (255 - s) (1 - b)) 3 6 (1 - aAdd A (255 - s) (1 - b) 3 6)) ((A 2 7 + (255 - s) + (1 - b)) % 256) := by
  have e : aPl A (255 - s) (1 - b) = aJu (aAdd A (255 - s) (1 - b)) ((A 2 7 + (255 - s) + (1 - b)) % 256) := rfl
  unfold aMi
  rw [e, aJu_at _ (by omega), aJu_cm _ (by omega)]
theorem aMi_A (A : aS) (s b : Nat) : aMi A s b 2 7 = A 2 7 := by
  rw [aMi_eq, aJu_at _ (by omega), a_ne (by omega)]
  unfold aAdd
  rw [a_ne (by omega), a_ne (by omega)]
theorem aSB_eq (B : aS) (r : Nat) : aSB B r = a_up (aJu (a_up B 3 6 0) r) 2 7 r := by
  unfold aSB
  rw [aJu_cm _ (by omega), a_cm B (by omega)]
theorem m_reckons (h : CQ A σ) {y v : Nat} (hy : y < 8) (hv : v < 256) : ∃ σ', x_M (d + 2) 153 [.ref 19, .int (nI y), .int (nI v)] σ = some (0, σ') ∧ CQ (aCb A y v) σ' := by
  have ha := h.2.2.1 7 (by decide)
  have hc := h.2.2.2.2.2 6 (by decide) (by decide)
  have hor := l_or ha hv
  have hy' : y = 0 ∨ y = 1 ∨ y = 2 ∨ y = 3 ∨ y = 4 ∨ y = 5 ∨ y = 6 ∨ y = 7 := by omega
  rw [m153]
  rcases hy' with rfl | rfl | rfl | rfl | rfl | rfl | rfl | rfl
  · obtain ⟨σ1, e1, h1⟩ := m_added d h (s := v) (c := 0) hv (by decide)
    obtain ⟨σ2, e2, h2⟩ := m_tells d h1 (v := (A 2 7 + v + 0) % 256) (by omega)
    simp (disch := omega) only [L0, L1, L2, L3, L4, L5, L6, L7, L8, L9, L10, L11, L13, L15, L16, L17, L18, L19, L20, L21, L22, L23, L26, L31, L32, L36, L40, L48, L62, L63, L64, L65, L67, L68, L69, L72, L73, L76, L79, L80, L82, L83, L84, L86, L87, L96, L118, L126, L128, L153, L229, L255, L256, L496, L511, L512, L1000, L65535, Lm1, N_and1, N_and7, N_and15, N_and31, N_and63, N_and255, N_and511, N_and65535, N_shr1, N_shr2, N_shr3, N_shr4, N_shr6, N_shr7, N_shr8, N_shr16, N_shl1, N_shl2, N_shl4, N_shl6, N_shl7, N_shl8, nI_add, pk_mul, n_sub, n_or8, n_or8', n_eq, n_lt, n_le, n_cl, n_div, Nat.reduceMod, if_neg, if_pos, bnd0, e1, e2]
    exact ⟨_, rfl, mq_reg h2 (by decide) (by omega)⟩
  · obtain ⟨σ1, e1, h1⟩ := m_added d h (s := v) (c := A 3 6) hv hc
    obtain ⟨σ2, e2, h2⟩ := m_tells d h1 (v := (A 2 7 + v + A 3 6) % 256) (by omega)
    simp (disch := omega) only [L0, L1, L2, L3, L4, L5, L6, L7, L8, L9, L10, L11, L13, L15, L16, L17, L18, L19, L20, L21, L22, L23, L26, L31, L32, L36, L40, L48, L62, L63, L64, L65, L67, L68, L69, L72, L73, L76, L79, L80, L82, L83, L84, L86, L87, L96, L118, L126, L128, L153, L229, L255, L256, L496, L511, L512, L1000, L65535, Lm1, N_and1, N_and7, N_and15, N_and31, N_and63, N_and255, N_and511, N_and65535, N_shr1, N_shr2, N_shr3, N_shr4, N_shr6, N_shr7, N_shr8, N_shr16, N_shl1, N_shl2, N_shl4, N_shl6, N_shl7, N_shl8, nI_add, pk_mul, n_sub, n_or8, n_or8', n_eq, n_lt, n_le, n_cl, n_div, Nat.reduceMod, if_neg, if_pos, bnd0, mv_ca h, e1, e2]
    exact ⟨_, rfl, mq_reg h2 (by decide) (by omega)⟩
  · obtain ⟨σ1, e1, h1⟩ := m_added d h (s := 255 - v) (c := 1 - 0) (by omega) (by decide)
    have c1 := h1.2.2.2.2.2 6 (by decide) (by decide)
    obtain ⟨σ2, e2, h2⟩ := m_tells d (mq_ca h1 (v := 1 - aAdd A (255 - v) (1 - 0) 3 6) (by omega)) (v := (A 2 7 + (255 - v) + (1 - 0)) % 256) (by omega)
    rw [if_pos (by decide), if_pos (by decide)]
    refine ⟨_, ?_, (show aCb A 2 v = _ from congrArg (fun B => a_up B 2 7 ((A 2 7 + (255 - v) + (1 - 0)) % 256)) (aMi_eq A v 0)) ▸ mq_reg h2 (i := 7) (v := (A 2 7 + (255 - v) + (1 - 0)) % 256) (by decide) (by omega)⟩
    refine (c153_50 (d + 1) 4998 _ _ _ _).trans ?_
    rw [if_neg (by decide), show (255 : Int32) - nI v = nI (255 - v) from n_sub (a := 255) (by omega), show (1 : Int32) = nI (1 - 0) from rfl, e1, bnd0]
    dsimp only
    rw [mv_ca h1, n_sub (by omega)]
    rw [show x_up σ1 19 11 (nI (1 - 0 - aAdd A (255 - v) (1 - 0) 3 6)) = x_up σ1 19 11 (nI (1 - aAdd A (255 - v) (1 - 0) 3 6)) from rfl, e2, bnd0, if_neg (by decide)]
  · obtain ⟨σ1, e1, h1⟩ := m_added d h (s := 255 - v) (c := 1 - A 3 6) (by omega) (by omega)
    have c1 := h1.2.2.2.2.2 6 (by decide) (by decide)
    obtain ⟨σ2, e2, h2⟩ := m_tells d (mq_ca h1 (v := 1 - aAdd A (255 - v) (1 - A 3 6) 3 6) (by omega)) (v := (A 2 7 + (255 - v) + (1 - A 3 6)) % 256) (by omega)
    rw [if_pos (by decide), if_pos (by decide)]
    refine ⟨_, ?_, (show aCb A 3 v = _ from congrArg (fun B => a_up B 2 7 ((A 2 7 + (255 - v) + (1 - A 3 6)) % 256)) (aMi_eq A v (A 3 6))) ▸ mq_reg h2 (i := 7) (v := (A 2 7 + (255 - v) + (1 - A 3 6)) % 256) (by decide) (by omega)⟩
    refine (c153_50 (d + 1) 4998 _ _ _ _).trans ?_
    rw [if_pos (by decide), show (255 : Int32) - nI v = nI (255 - v) from n_sub (a := 255) (by omega), mv_ca h, show (1 : Int32) - nI (A 3 6) = nI (1 - A 3 6) from n_sub (a := 1) (by omega), e1, bnd0]
    dsimp only
    rw [mv_ca h1, show (1 : Int32) - nI (aAdd A (255 - v) (1 - A 3 6) 3 6) = nI (1 - aAdd A (255 - v) (1 - A 3 6) 3 6) from n_sub (a := 1) (by omega), e2, bnd0, if_neg (by decide)]
  · have ev : ((nI (A 2 7) ||| nI v) >>> ((3 : Int32) &&& 31)) &&& 1 = nI ((A 2 7 ||| v) / 8 % 2) := by rw [n_lor, n_shr3 (by omega), n_and1 (by omega)]
    obtain ⟨σ2, e2, h2⟩ := m_tells d (mq_ca (mq_ha h (v := (A 2 7 ||| v) / 8 % 2) (by omega)) (v := 0) (by decide)) (v := A 2 7 &&& v) (l_and ha)
    rw [if_pos (by decide), if_neg (by decide), if_neg (by decide), if_pos (by decide), mv_A h, n_land]
    refine ⟨_, ?_, (show aCb A 4 v = _ from aSB_eq (a_up A 3 4 ((A 2 7 ||| v) / 8 % 2)) (A 2 7 &&& v)) ▸ mq_reg h2 (i := 7) (v := A 2 7 &&& v) (by decide) (l_and ha)⟩
    refine (c153_114 (d + 1) 4998 _ _ _ _ _).trans ?_
    rw [if_pos (by decide), ev, show (0 : Int32) = nI 0 from rfl, e2, bnd0, if_neg (by decide)]
  · obtain ⟨σ2, e2, h2⟩ := m_tells d (mq_ca (mq_ha h (v := 0) (by omega)) (v := 0) (by decide)) (v := A 2 7 ^^^ v) (l_xor ha hv)
    rw [if_pos (by decide), if_neg (by decide), if_neg (by decide), if_neg (by decide), if_pos (by decide), mv_A h, n_lxor]
    refine ⟨_, ?_, (show aCb A 5 v = _ from aSB_eq (a_up A 3 4 0) (A 2 7 ^^^ v)) ▸ mq_reg h2 (i := 7) (v := A 2 7 ^^^ v) (by decide) (l_xor ha hv)⟩
    refine (c153_114 (d + 1) 4998 _ _ _ _ _).trans ?_
    rw [if_neg (by decide), show (0 : Int32) = nI 0 from rfl, e2, bnd0, if_neg (by decide)]
  · obtain ⟨σ2, e2, h2⟩ := m_tells d (mq_ca (mq_ha h (v := 0) (by omega)) (v := 0) (by decide)) (v := A 2 7 ||| v) hor
    rw [if_pos (by decide), if_neg (by decide), if_neg (by decide), if_neg (by decide), if_neg (by decide), mv_A h, n_lor]
    refine ⟨_, ?_, (show aCb A 6 v = _ from aSB_eq (a_up A 3 4 0) (A 2 7 ||| v)) ▸ mq_reg h2 (i := 7) (v := A 2 7 ||| v) (by decide) hor⟩
    refine (c153_114 (d + 1) 4998 _ _ _ _ _).trans ?_
    rw [if_neg (by decide), show (0 : Int32) = nI 0 from rfl, e2, bnd0, if_neg (by decide)]
  · obtain ⟨σ1, e1, h1⟩ := m_added d h (s := 255 - v) (c := 1 - 0) (by omega) (by decide)
    have c1 := h1.2.2.2.2.2 6 (by decide) (by decide)
    obtain ⟨σ2, e2, h2⟩ := m_tells d (mq_ca h1 (v := 1 - aAdd A (255 - v) (1 - 0) 3 6) (by omega)) (v := (A 2 7 + (255 - v) + (1 - 0)) % 256) (by omega)
    rw [if_pos (by decide), if_neg (by decide), if_pos (by decide), mv_A h]
    refine ⟨_, ?_, (show aCb A 7 v = _ from (a_self (aMi A v 0) (aMi_A A v 0).symm).symm.trans (congrArg (fun B => a_up B 2 7 (A 2 7)) (aMi_eq A v 0))) ▸ mq_reg h2 (i := 7) (v := A 2 7) (by decide) ha⟩
    refine (c153_50 (d + 1) 4998 _ _ _ _).trans ?_
    rw [if_neg (by decide), show (255 : Int32) - nI v = nI (255 - v) from n_sub (a := 255) (by omega), show (1 : Int32) = nI (1 - 0) from rfl, e1, bnd0]
    dsimp only
    rw [mv_ca h1, n_sub (by omega)]
    rw [show x_up σ1 19 11 (nI (1 - 0 - aAdd A (255 - v) (1 - 0) 3 6)) = x_up σ1 19 11 (nI (1 - aAdd A (255 - v) (1 - 0) 3 6)) from rfl, e2, bnd0, if_pos (by decide)]
end M3
