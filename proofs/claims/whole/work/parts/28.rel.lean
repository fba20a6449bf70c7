/-! The whole state as numbers: which place of the class and of the model holds which number -/
def cN (o : Nat) : Nat := match o with
  | 0 => 512 | 1 => 512 | 2 => 8 | 3 => 7 | 4 => 3 | 5 => 4 | 6 => 20 | 7 => 6 | 8 => 64 | 9 => 40 | 11 => 4 | 14 => 3 | 15 => 3 | _ => 0
def cO (o k : Nat) : Nat := match o with
  | 0 => 2 | 1 => 6 | 2 => 4 | 3 => 3
  | 4 => (match k with | 0 => 10 | 1 => 12 | _ => 8)
  | 5 => 13 | 6 => 15
  | 7 => (match k with | 0 => 8 | 1 => 12 | 2 => 14 | 3 => 0 | 4 => 0 | _ => 14)
  | 8 => 11 | 9 => 9 | 11 => 18 | 13 => 7 | 14 => 16 | _ => 17
def cK (o k : Nat) : Nat := match o with
  | 3 => k + 2
  | 4 => (match k with | 0 => 1 | 1 => 3 | _ => 2)
  | 7 => (match k with | 0 => 1 | 1 => 4 | 2 => 8 | 3 => 8 | 4 => 7 | _ => 7)
  | _ => k
def cI (a j : Nat) : Nat × Nat := match a with
  | 2 => (0, j) | 6 => (1, j) | 4 => (2, j) | 3 => (3, j - 2)
  | 14 => (match j with | 7 => (7, 5) | _ => (7, 2))
  | 12 => (match j with | 3 => (4, 1) | _ => (7, 1))
  | 0 => (match j with | 7 => (7, 4) | _ => (7, 3))
  | 10 => (4, 0)
  | 8 => (match j with | 2 => (4, 2) | _ => (7, 0))
  | 13 => (5, j) | 15 => (6, j) | 11 => (8, j) | 9 => (9, j) | 18 => (11, j) | 7 => (13, j) | 16 => (14, j) | _ => (15, j)
theorem c_inv : ∀ o k, k < cN o → cI (cO o k) (cK o k) = (o, k)
  | 0, _, _ => rfl
  | 1, _, _ => rfl
  | 2, _, _ => rfl
  | 3, _, _ => rfl
  | 4, 0, _ => rfl
  | 4, 1, _ => rfl
  | 4, 2, _ => rfl
  | 4, k + 3, h => absurd (show k + 3 < 3 from h) (by omega)
  | 5, _, _ => rfl
  | 6, _, _ => rfl
  | 7, 0, _ => rfl
  | 7, 1, _ => rfl
  | 7, 2, _ => rfl
  | 7, 3, _ => rfl
  | 7, 4, _ => rfl
  | 7, 5, _ => rfl
  | 7, k + 6, h => absurd (show k + 6 < 6 from h) (by omega)
  | 8, _, _ => rfl
  | 9, _, _ => rfl
  | 10, k, h => absurd (show k < 0 from h) (by omega)
  | 11, _, _ => rfl
  | 12, k, h => absurd (show k < 0 from h) (by omega)
  | 13, k, h => absurd (show k < 0 from h) (by omega)
  | 14, _, _ => rfl
  | 15, _, _ => rfl
  | o + 16, k, h => absurd (show k < 0 from h) (by omega)
def mN (o : Nat) : Nat := match o with
  | 0 => 512 | 1 => 512 | 2 => 8 | 3 => 7 | 4 => 3 | 6 => 20 | 8 => 64 | 10 => 40 | 12 => 4 | 16 => 5 | _ => 0
def mO (o : Nat) : Nat := match o with
  | 0 => 20 | 1 => 21 | 2 => 22 | 6 => 24 | 8 => 25 | 10 => 23 | 12 => 26 | _ => 19
def mK (o k : Nat) : Nat := match o with
  | 3 => mk k
  | 4 => (match k with | 0 => 17 | 1 => 6 | _ => 13)
  | 16 => (match k with | 0 => 0 | 1 => 20 | 2 => 19 | 3 => 12 | _ => 15)
  | _ => k
def mI (a j : Nat) : Nat × Nat := match a with
  | 20 => (0, j) | 21 => (1, j) | 22 => (2, j) | 24 => (6, j) | 25 => (8, j) | 23 => (10, j) | 26 => (12, j)
  | _ => (match j with | 4 => (3, 0) | 5 => (3, 1) | 7 => (3, 2) | 8 => (3, 3) | 10 => (3, 4) | 9 => (3, 5) | 11 => (3, 6) | 15 => (16, 4) | 6 => (4, 1) | 12 => (16, 3) | 17 => (4, 0) | 13 => (4, 2) | 19 => (16, 2) | 0 => (16, 0) | _ => (16, 1))
theorem m_inv : ∀ o k, k < mN o → mI (mO o) (mK o k) = (o, k)
  | 0, _, _ => rfl
  | 1, _, _ => rfl
  | 2, _, _ => rfl
  | 3, 0, _ => rfl
  | 3, 1, _ => rfl
  | 3, 2, _ => rfl
  | 3, 3, _ => rfl
  | 3, 4, _ => rfl
  | 3, 5, _ => rfl
  | 3, 6, _ => rfl
  | 3, k + 7, h => absurd (show k + 7 < 7 from h) (by omega)
  | 4, 0, _ => rfl
  | 4, 1, _ => rfl
  | 4, 2, _ => rfl
  | 4, k + 3, h => absurd (show k + 3 < 3 from h) (by omega)
  | 5, k, h => absurd (show k < 0 from h) (by omega)
  | 6, _, _ => rfl
  | 7, k, h => absurd (show k < 0 from h) (by omega)
  | 8, _, _ => rfl
  | 9, k, h => absurd (show k < 0 from h) (by omega)
  | 10, _, _ => rfl
  | 11, k, h => absurd (show k < 0 from h) (by omega)
  | 12, _, _ => rfl
  | 13, k, h => absurd (show k < 0 from h) (by omega)
  | 14, k, h => absurd (show k < 0 from h) (by omega)
  | 15, k, h => absurd (show k < 0 from h) (by omega)
  | 16, 0, _ => rfl
  | 16, 1, _ => rfl
  | 16, 2, _ => rfl
  | 16, 3, _ => rfl
  | 16, 4, _ => rfl
  | 16, k + 5, h => absurd (show k + 5 < 5 from h) (by omega)
  | o + 17, k, h => absurd (show k < 0 from h) (by omega)
def wN (o : Nat) : Nat := match o with
  | 0 => 512 | 1 => 512 | 2 => 8 | 3 => 7 | 4 => 3 | 5 => 4 | 6 => 20 | 7 => 6 | 8 => 64 | 9 => 40 | 10 => 40 | 11 => 4 | 12 => 4 | 13 => 256 | 14 => 3 | 15 => 3 | 16 => 5 | _ => 0
def wB (o k : Nat) : Nat := match o with
  | 3 => (match k with | 0 => 65536 | 1 => 70000 | _ => 2)
  | 4 => (match k with | 0 => 2147483648 | 1 => 65536 | _ => 41)
  | 7 => (match k with | 0 => 40 | 1 => 9 | 2 => 4 | 3 => 2147483648 | 4 => 3 | _ => 21)
  | 13 => 2
  | 14 => 21
  | 15 => 21
  | 16 => (match k with | 0 => 3 | 1 => 4294967296 | 2 => 2147483648 | 3 => 3 | _ => 21)
  | _ => 256
def RC (A : aS) (σ : xS) : Prop := ∀ o k, k < cN o → σ (cO o k) (cK o k) = nI (A o k)
def RM (A : aS) (σ : xS) : Prop := ∀ o k, k < mN o → σ (mO o) (mK o k) = nI (A o k)
def WX (A : aS) : Prop := ∀ o k, k < wN o → A o k < wB o k
def XC (A : aS) (σ : xS) : Prop := RC A σ ∧ WX A
def XM (A : aS) (σ : xS) : Prop := RM A σ ∧ WX A
theorem rc_up {A : aS} {σ : xS} (h : RC A σ) {o k : Nat} (v : Nat) (hk : k < cN o) : RC (a_up A o k v) (x_up σ (cO o k) (cK o k) (nI v)) := by
  intro a j hj
  by_cases e : a = o ∧ j = k
  · obtain ⟨rfl, rfl⟩ := e
    rw [x_up_at, a_at]
  · rw [a_ne e, ← h a j hj]
    by_cases e1 : cO a j = cO o k
    · by_cases e2 : cK a j = cK o k
      · have q := c_inv a j hj
        rw [e1, e2, c_inv o k hk] at q
        cases q
        exact absurd ⟨rfl, rfl⟩ e
      · rw [e1]
        exact x_up_off e2
    · exact x_up_oth e1 _
theorem rm_up {A : aS} {σ : xS} (h : RM A σ) {o k : Nat} (v : Nat) (hk : k < mN o) : RM (a_up A o k v) (x_up σ (mO o) (mK o k) (nI v)) := by
  intro a j hj
  by_cases e : a = o ∧ j = k
  · obtain ⟨rfl, rfl⟩ := e
    rw [x_up_at, a_at]
  · rw [a_ne e, ← h a j hj]
    by_cases e1 : mO a = mO o
    · by_cases e2 : mK a j = mK o k
      · have q := m_inv a j hj
        rw [e1, e2, m_inv o k hk] at q
        cases q
        exact absurd ⟨rfl, rfl⟩ e
      · rw [e1]
        exact x_up_off e2
    · exact x_up_oth e1 _
theorem wx_up {A : aS} (h : WX A) {o k v : Nat} (hv : v < wB o k) : WX (a_up A o k v) := by
  intro a j hj
  by_cases e : a = o ∧ j = k
  · obtain ⟨rfl, rfl⟩ := e
    rw [a_at]; exact hv
  · rw [a_ne e]; exact h a j hj
theorem xc_up {A : aS} {σ : xS} (h : XC A σ) (o k : Nat) {v : Nat} (hk : k < cN o) (hv : v < wB o k) : XC (a_up A o k v) (x_up σ (cO o k) (cK o k) (nI v)) := ⟨rc_up h.1 v hk, wx_up h.2 hv⟩
theorem xm_up {A : aS} {σ : xS} (h : XM A σ) (o k : Nat) {v : Nat} (hk : k < mN o) (hv : v < wB o k) : XM (a_up A o k v) (x_up σ (mO o) (mK o k) (nI v)) := ⟨rm_up h.1 v hk, wx_up h.2 hv⟩
/-- a number that only one side keeps -/
theorem xc_oth {A : aS} {σ : xS} (h : XC A σ) {o k v : Nat} (ho : cN o = 0) (hv : v < wB o k) : XC (a_up A o k v) σ := ⟨fun a j hj => by
  rw [a_ne (fun e => by rw [e.1, ho] at hj; omega)]
  exact h.1 a j hj, wx_up h.2 hv⟩
theorem xm_oth {A : aS} {σ : xS} (h : XM A σ) {o k v : Nat} (ho : mN o = 0) (hv : v < wB o k) : XM (a_up A o k v) σ := ⟨fun a j hj => by
  rw [a_ne (fun e => by rw [e.1, ho] at hj; omega)]
  exact h.1 a j hj, wx_up h.2 hv⟩
theorem wx_wq {A : aS} (h : WX A) : WQ A := ⟨fun i hi => h 0 i hi, fun i hi => h 2 i hi, h 3 0 (by decide), h 3 1 (by decide), fun k h2 h7 => by
  have q := h 3 k h7
  have hk : k = 2 ∨ k = 3 ∨ k = 4 ∨ k = 5 ∨ k = 6 := by omega
  rcases hk with rfl | rfl | rfl | rfl | rfl <;> exact q⟩
theorem xc_cp {A : aS} {σ : xS} (h : XC A σ) : CP A σ := ⟨⟨fun i hi => h.1 0 i hi, fun i hi => h.1 2 i hi, fun k hk => h.1 3 k hk⟩, wx_wq h.2⟩
theorem xm_cq {A : aS} {σ : xS} (h : XM A σ) : CQ A σ := ⟨⟨fun i hi => h.1 0 i hi, fun i hi => h.1 2 i hi, fun k hk => h.1 3 k hk⟩, wx_wq h.2⟩
/-- the processor's numbers from B, the rest from A -/
def aMg (A B : aS) : aS := fun o => if o = 0 ∨ o = 2 ∨ o = 3 then B o else A o
theorem aMg_p (A B : aS) {o : Nat} (h : o = 0 ∨ o = 2 ∨ o = 3) : aMg A B o = B o := if_pos h
theorem aMg_r (A B : aS) {o : Nat} (h : ¬ (o = 0 ∨ o = 2 ∨ o = 3)) : aMg A B o = A o := if_neg h
theorem wx_mg {A B : aS} (h : WX A) (w : WQ B) : WX (aMg A B) := by
  intro o k hk
  by_cases e : o = 0 ∨ o = 2 ∨ o = 3
  · rw [aMg_p A B e]
    rcases e with rfl | rfl | rfl
    · exact w.1 k hk
    · exact w.2.1 k hk
    · have hk : k < 7 := hk
      have hk' : k = 0 ∨ k = 1 ∨ k = 2 ∨ k = 3 ∨ k = 4 ∨ k = 5 ∨ k = 6 := by omega
      rcases hk' with rfl | rfl | rfl | rfl | rfl | rfl | rfl
      · exact w.2.2.1
      · exact w.2.2.2.1
      · exact w.2.2.2.2 2 (by decide) (by decide)
      · exact w.2.2.2.2 3 (by decide) (by decide)
      · exact w.2.2.2.2 4 (by decide) (by decide)
      · exact w.2.2.2.2 5 (by decide) (by decide)
      · exact w.2.2.2.2 6 (by decide) (by decide)
  · rw [aMg_r A B e]
    exact h o k hk
theorem cO_cpu : ∀ o k, k < cN o → ¬ (o = 0 ∨ o = 2 ∨ o = 3) → ¬ (cO o k = 2 ∨ cO o k = 3 ∨ cO o k = 4) := by
  intro o k hk ho hc
  have q := c_inv o k hk
  rcases hc with e | e | e
  · rw [e] at q
    have := congrArg Prod.fst q
    exact ho (Or.inl this.symm)
  · rw [e] at q
    have := congrArg Prod.fst q
    exact ho (Or.inr (Or.inr this.symm))
  · rw [e] at q
    have := congrArg Prod.fst q
    exact ho (Or.inr (Or.inl this.symm))
theorem xc_mg {A B : aS} {σ τ : xS} (h : XC A σ) (hb : CP B τ) (hf : ∀ a, a < 19 → ¬ (a = 1 ∨ a = 2 ∨ a = 3 ∨ a = 4) → τ a = σ a) : XC (aMg A B) τ := by
  refine ⟨fun o k hk => ?_, wx_mg h.2 hb.2⟩
  by_cases e : o = 0 ∨ o = 2 ∨ o = 3
  · rw [aMg_p A B e]
    rcases e with rfl | rfl | rfl
    · exact hb.1.1 k hk
    · exact hb.1.2.1 k hk
    · exact hb.1.2.2 k hk
  · have h1 : ∀ o k, ¬ cO o k = 1 := by
      intro o k
      unfold cO
      split <;> (try split) <;> decide
    rw [aMg_r A B e, ← h.1 o k hk, hf _ ?_ (fun z => z.elim (h1 o k) (cO_cpu o k hk e))]
    have h19 : ∀ o k, cO o k < 19 := by
      intro o k
      unfold cO
      split <;> (try split) <;> decide
    exact h19 o k
def K_cpuC (o : Nat) : Bool := (Nat.ble 1 o && Nat.ble o 4) || Nat.ble 900 o
theorem cpuC_keep {d j : Nat} {as : List Value} {σ : xS} {r : xR} (h : x_M d j as σ = some r) (has : ∀ v ∈ as, x_rk K_cpuC v) : ∀ a, a < 19 → ¬ (a = 1 ∨ a = 2 ∨ a = 3 ∨ a = 4) → r.2 a = σ a := fun a h1 h2 =>
  x_frame (K := K_cpuC) (x_clos_ok (by decide +kernel)) (fun i hi q o n1 n2 b hp => by
    have := x_sta3 i hi q o n1 n2 b hp
    unfold K_cpuC
    rw [Bool.or_eq_true]
    exact Or.inr (Nat.ble_eq_true_of_le this)) d j as σ r h has a (by
    have : ∀ a, a < 19 → ¬ (a = 1 ∨ a = 2 ∨ a = 3 ∨ a = 4) → K_cpuC a = false := by decide
    exact this a h1 h2)
theorem cO_7 {o k : Nat} (hk : k < cN o) : ¬ cO o k = 7 := by
  intro e
  have q := c_inv o k hk
  rw [e] at q
  have h13 : 13 = o := congrArg Prod.fst q
  subst h13
  exact absurd (show k < 0 from hk) (by omega)
/-- the marks of taken blocks are nobody's number -/
theorem xc_tak {A : aS} {σ : xS} (h : XC A σ) (k : Nat) (v : Int32) : XC A (x_up σ 7 k v) := ⟨fun o j hj => by
  rw [x_up_oth (cO_7 hj)]
  exact h.1 o j hj, h.2⟩
