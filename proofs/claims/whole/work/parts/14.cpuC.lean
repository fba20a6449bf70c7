/-! The processor, as numbers: A 0 memory, A 2 registers, A 3 scalars (0 sp, 1 pc, 2 sign, 3 zero, 4 half, 5 parity, 6 carry) -/
abbrev aS : Type := Nat → Nat → Nat
def a_up (A : aS) (o k v : Nat) : aS := fun a j => if a = o then (if j = k then v else A a j) else A a j
def RP (A : aS) (σ : xS) : Prop := (∀ i, i < 512 → σ 2 i = nI (A 0 i)) ∧ (∀ i, i < 8 → σ 4 i = nI (A 2 i)) ∧ ∀ k, k < 7 → σ 3 (k + 2) = nI (A 3 k)
def WP (A : aS) : Prop := (∀ i, i < 512 → A 0 i < 256) ∧ (∀ i, i < 8 → A 2 i < 256) ∧ A 3 0 < 65536 ∧ A 3 1 < 65536 ∧ ∀ k, 2 ≤ k → k < 7 → A 3 k < 2
/-- the bounds, the program counter a little beyond (the model brings it back at a step's end) -/
def WQ (A : aS) : Prop := (∀ i, i < 512 → A 0 i < 256) ∧ (∀ i, i < 8 → A 2 i < 256) ∧ A 3 0 < 65536 ∧ A 3 1 < 70000 ∧ ∀ k, 2 ≤ k → k < 7 → A 3 k < 2
theorem wq_mem {A : aS} (h : WQ A) {i v : Nat} (hv : v < 256) : WQ (a_up A 0 i v) := by
  refine ⟨fun j hj => ?_, h.2.1, h.2.2.1, h.2.2.2.1, h.2.2.2.2⟩
  have := h.1 j hj
  simp only [a_up, if_true]
  split <;> omega
theorem wq_reg {A : aS} (h : WQ A) {i v : Nat} (hv : v < 256) : WQ (a_up A 2 i v) := by
  refine ⟨h.1, fun j hj => ?_, h.2.2.1, h.2.2.2.1, h.2.2.2.2⟩
  have := h.2.1 j hj
  simp only [a_up, if_true]
  split <;> omega
theorem wq_sp {A : aS} (h : WQ A) {v : Nat} (hv : v < 65536) : WQ (a_up A 3 0 v) := by
  refine ⟨h.1, h.2.1, by simpa [a_up] using hv, h.2.2.2.1, fun k h1 h2 => ?_⟩
  have := h.2.2.2.2 k h1 h2
  have e : ¬ k = 0 := by omega
  simpa [a_up, e] using this
theorem wq_pc {A : aS} (h : WQ A) {v : Nat} (hv : v < 70000) : WQ (a_up A 3 1 v) := by
  refine ⟨h.1, h.2.1, h.2.2.1, by simpa [a_up] using hv, fun k h1 h2 => ?_⟩
  have := h.2.2.2.2 k h1 h2
  have e : ¬ k = 1 := by omega
  simpa [a_up, e] using this
theorem wq_fl {A : aS} (h : WQ A) {k v : Nat} (h2 : 2 ≤ k) (hk : k < 7) (hv : v < 2) : WQ (a_up A 3 k v) := by
  have e0 : ¬ 0 = k := by omega
  have e1 : ¬ 1 = k := by omega
  refine ⟨h.1, h.2.1, by simpa [a_up, e0] using h.2.2.1, by simpa [a_up, e1] using h.2.2.2.1, fun j h3 h4 => ?_⟩
  have := h.2.2.2.2 j h3 h4
  simp only [a_up, if_true]
  split <;> omega
theorem rp_mem {A : aS} {σ : xS} (h : RP A σ) {i v : Nat} (_ : i < 512) : RP (a_up A 0 i v) (x_up σ 2 i (nI v)) := by
  refine ⟨fun j hj => ?_, fun j hj => ?_, fun k hk => ?_⟩
  · by_cases e : j = i
    · subst e; rw [x_up_at]; simp [a_up]
    · rw [x_up_off e]; simp [a_up, e, h.1 j hj]
  · rw [x_up_oth (by decide)]; simp [a_up, h.2.1 j hj]
  · rw [x_up_oth (by decide)]; simp [a_up, h.2.2 k hk]
theorem rp_reg {A : aS} {σ : xS} (h : RP A σ) {i v : Nat} (_ : i < 8) : RP (a_up A 2 i v) (x_up σ 4 i (nI v)) := by
  refine ⟨fun j hj => ?_, fun j hj => ?_, fun k hk => ?_⟩
  · rw [x_up_oth (by decide)]; simp [a_up, h.1 j hj]
  · by_cases e : j = i
    · subst e; rw [x_up_at]; simp [a_up]
    · rw [x_up_off e]; simp [a_up, e, h.2.1 j hj]
  · rw [x_up_oth (by decide)]; simp [a_up, h.2.2 k hk]
theorem rp_sc {A : aS} {σ : xS} (h : RP A σ) {k v : Nat} (_ : k < 7) : RP (a_up A 3 k v) (x_up σ 3 (k + 2) (nI v)) := by
  refine ⟨fun j hj => ?_, fun j hj => ?_, fun j hj => ?_⟩
  · rw [x_up_oth (by decide)]; simp [a_up, h.1 j hj]
  · rw [x_up_oth (by decide)]; simp [a_up, h.2.1 j hj]
  · by_cases e : j = k
    · subst e; rw [x_up_at]; simp [a_up]
    · rw [x_up_off (by omega)]; simp [a_up, e, h.2.2 j hj]
section CP
variable {A : aS} {σ : xS} (d : Nat)
theorem c_get (h : RP A σ) {a : Nat} (ha : a < 2147483648) : x_M (d + 1) 33 [.ref 1, .int (nI a)] σ = some (nI (A 0 (a % 512)), σ) := by
  rw [m33, if_neg (ok511 _), ix511 (by omega), h.1 _ (by omega)]
theorem c_put (h : RP A σ) {a v : Nat} (ha : a < 2147483648) (hv : v < 2147483648) : ∃ σ', x_M (d + 1) 37 [.ref 1, .int (nI a), .int (nI v)] σ = some (0, σ') ∧ RP (a_up A 0 (a % 512) (v % 256)) σ' := by
  rw [m37, if_neg (ok511 _), ix511 (by omega), n_and255 (by omega)]
  exact ⟨_, rfl, rp_mem h (by omega)⟩
theorem c_word (h : RP A σ) (w : WP A) {a : Nat} (ha : a < 2147483000) : x_M (d + 1) 52 [.ref 1, .int (nI a)] σ = some (nI (A 0 ((a + 1) % 512) * 256 + A 0 (a % 512)), σ) := by
  have h1 := w.1 (a % 512) (by omega)
  have h2 := w.1 ((a + 1) % 512) (by omega)
  rw [m52, if_neg (ok511 _), if_neg (ok511 _)]
  simp (disch := omega) only [L0, L1, L2, L3, L4, L5, L6, L7, L8, L9, L10, L11, L13, L15, L16, L17, L18, L19, L20, L21, L22, L23, L26, L31, L32, L36, L40, L48, L62, L63, L64, L65, L67, L68, L69, L72, L73, L76, L79, L80, L82, L83, L84, L86, L87, L96, L118, L126, L128, L153, L229, L255, L256, L496, L511, L512, L1000, L65535, Lm1, N_and1, N_and7, N_and15, N_and31, N_and63, N_and255, N_and511, N_and65535, N_shr1, N_shr2, N_shr3, N_shr4, N_shr6, N_shr7, N_shr8, N_shr16, N_shl1, N_shl2, N_shl4, N_shl6, N_shl7, N_shl8, nI_add, pk_mul, n_sub, n_or8, n_or8', n_eq, n_lt, n_le, n_cl, n_div, Nat.reduceMod, h.1]
theorem c_putWord (h : RP A σ) {a v : Nat} (ha : a < 2147483000) (hv : v < 2147483648) : ∃ σ', x_M (d + 1) 43 [.ref 1, .int (nI a), .int (nI v)] σ = some (0, σ') ∧ RP (a_up (a_up A 0 (a % 512) (v % 256)) 0 ((a + 1) % 512) (v / 256 % 256)) σ' := by
  rw [m43, if_neg (ok511 _), if_neg (ok511 _)]
  simp (disch := omega) only [L0, L1, L2, L3, L4, L5, L6, L7, L8, L9, L10, L11, L13, L15, L16, L17, L18, L19, L20, L21, L22, L23, L26, L31, L32, L36, L40, L48, L62, L63, L64, L65, L67, L68, L69, L72, L73, L76, L79, L80, L82, L83, L84, L86, L87, L96, L118, L126, L128, L153, L229, L255, L256, L496, L511, L512, L1000, L65535, Lm1, N_and1, N_and7, N_and15, N_and31, N_and63, N_and255, N_and511, N_and65535, N_shr1, N_shr2, N_shr3, N_shr4, N_shr6, N_shr7, N_shr8, N_shr16, N_shl1, N_shl2, N_shl4, N_shl6, N_shl7, N_shl8, nI_add, pk_mul, n_sub, n_or8, n_or8', n_eq, n_lt, n_le, n_cl, n_div, Nat.reduceMod]
  refine ⟨_, rfl, ?_⟩
  refine rp_mem (rp_mem h ?_) ?_ <;> omega
theorem c_pair (h : RP A σ) (w : WP A) {p : Nat} (hp : p < 4) : x_M (d + 1) 50 [.ref 3, .int (nI p)] σ = some (nI (if p = 3 then A 3 0 else A 2 (2 * p) * 256 + A 2 (2 * p + 1)), σ) := by
  have h0 := h.2.2 0 (by omega)
  rw [m50]
  by_cases e : p = 3
  · subst e
    rw [if_pos (show nI 3 = (3 : Int32) from rfl)]
    exact congrArg (fun z => some (z, σ)) h0
  · have h1 := w.2.1 (2 * p) (by omega)
    have h2 := w.2.1 (2 * p + 1) (by omega)
    simp (disch := omega) only [L0, L1, L2, L3, L4, L5, L6, L7, L8, L9, L10, L11, L13, L15, L16, L17, L18, L19, L20, L21, L22, L23, L26, L31, L32, L36, L40, L48, L62, L63, L64, L65, L67, L68, L69, L72, L73, L76, L79, L80, L82, L83, L84, L86, L87, L96, L118, L126, L128, L153, L229, L255, L256, L496, L511, L512, L1000, L65535, Lm1, N_and1, N_and7, N_and15, N_and31, N_and63, N_and255, N_and511, N_and65535, N_shr1, N_shr2, N_shr3, N_shr4, N_shr6, N_shr7, N_shr8, N_shr16, N_shl1, N_shl2, N_shl4, N_shl6, N_shl7, N_shl8, nI_add, pk_mul, n_sub, n_or8, n_or8', n_eq, n_lt, n_le, n_cl, n_div, Nat.reduceMod, if_neg, if_pos, bnd0, h.2.1]
end CP
