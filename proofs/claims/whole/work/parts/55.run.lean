/-! A run -/
def Iv (c : Nat) (A : aS) : Prop := J A ∧ A 7 5 = A 16 4 ∧ A 7 3 = A 16 2 ∧ A 4 0 ≤ 171000 * c ∧ A 7 3 ≤ 1000 * c
section RN
variable (d : Nat)
theorem step_ok {A : aS} {σ τ : xS} (h : XC A σ) (k : XM A τ) (j : J A) (hl : A 7 5 = A 16 4) (ht : A 4 0 + 300 < 2147483648) : ∃ (b : Bool) (R : aS) (σ' τ' : xS), (if (σ 0 7) = 0 then x_M (d + 9) 46 [.ref 0] σ else x_M (d + 9) 94 [.ref 0] σ) = some (nI (bN b), σ') ∧ x_M (d + 10) 160 [.ref 19] τ = some (nI (bN b), τ') ∧ XC R σ' ∧ XM R τ' ∧ Sd A R := by
  have hm3 : A 7 4 < 3 := h.2 7 4 (by decide)
  by_cases g : A 7 4 = 0
  · obtain ⟨b, R, σ', τ', q, p, x, y, s⟩ := desk_ok (d + 2) (d + 3) h k j g hl ht
    exact ⟨b, R, σ', τ', by rw [if_pos (by rw [xv_mod h, g]; rfl)]; exact q, p, x, y, s⟩
  · obtain ⟨b, R, σ', τ', q, p, x, y, s⟩ := prog_ok d h k j g (by omega)
    obtain ⟨sj, ⟨s3, s5⟩, s0, ⟨s2, s4⟩, st⟩ := s
    exact ⟨b, R, σ', τ', by rw [if_neg (by rw [xv_mod h]; exact nI_ne0 (by omega) (by omega))]; exact q, p, x, y, sj, by rw [s5, s4]; exact hl, s3, s0, s2, st⟩
theorem c95 (n : Nat) (v1 v2 : Int32) (σ : xS) : xr x_i95 (d + 9) (n + 1) 22 [(0, .ref 0), (1, .int v1), (2, .int v2)] [] σ = (if v1 ≤ v2 then some (v1, σ) else ((if (σ 0 7) = 0 then x_M (d + 9) 46 [.ref 0] σ else x_M (d + 9) 94 [.ref 0] σ).bind fun r2 => (if r2.1 = 0 then some (v2, r2.2) else xr x_i95 (d + 9) n 22 [(0, .ref 0), (1, .int v1), (2, .int (v2 + (1 : Int32)))] [] (x_up r2.2 0 8 ((r2.2 0 8) + (1 : Int32)))))) := by
  rw [c95_22]
  by_cases g : (σ 0 7) = 0
  · rw [if_pos g, if_pos g]
  · rw [if_neg g, if_neg g]
theorem run_x {N s0 : Nat} (hN : N ≤ 1000) (hs : s0 + 1000 < 2147483648) : ∀ m, m ≤ N → ∀ (A : aS) (σ τ : xS) (n n2 : Nat), XC A σ → XM A τ → J A → A 7 5 = A 16 4 → A 7 3 = s0 + (N - m) → A 16 2 = s0 → A 4 0 + 170 * m + 300 < 2147483648 → m < n → m + 1 < n2 → ∃ (r : Nat) (R : aS) (σ' τ' : xS), N - m ≤ r ∧ r ≤ N ∧ xr x_i95 (d + 9) n 22 [(0, .ref 0), (1, .int (nI N)), (2, .int (nI (N - m)))] [] σ = some (nI r, σ') ∧ xr x_i161 (d + 10) n2 36 [(0, .ref 19), (1, .int (nI N)), (2, .int (nI (N - m))), (3, .int (1 : Int32))] [] τ = some (nI r, τ') ∧ XC R σ' ∧ XM R τ' ∧ J R ∧ R 7 5 = R 16 4 ∧ R 7 3 = s0 + r ∧ R 16 2 = s0 + r ∧ R 16 0 = A 16 0 ∧ R 4 0 ≤ A 4 0 + 170 * m := by
  have fin : ∀ {i : Nat} {A : aS} {τ : xS}, XM A τ → A 16 2 = s0 → i ≤ N → XM (a_up A 16 2 (s0 + i)) (x_up τ 19 19 (τ 19 19 + nI i)) := fun {i A τ} k e hi => by
    rw [yv_stp k, e, nI_add]
    exact xm_up k 16 2 (by decide) (show s0 + i < 2147483648 by omega)
  have fJ : ∀ {A : aS} {v : Nat}, J A → J (a_up A 16 2 v) := fun {A v} j => by
    obtain ⟨a, b, c, e, f⟩ := j
    exact ⟨kr_of (by rw [a_row (by decide)]) (a_row (by decide)) (a_row (by decide)) (by rw [a_row (by decide)]) a, lr_of (a_ne (by omega)) (by rw [a_row (by decide)]) b, by rw [a_row (by decide), a_ne (by omega)]; exact c, by rw [a_row (by decide)]; exact e, by rw [a_row (by decide), a_row (by decide)]; exact f⟩
  intro m
  induction m with
  | zero =>
    intro _ A σ τ n n2 h k j hl h3 h2 ht hn hn2
    obtain ⟨n, rfl⟩ : ∃ q, n = q + 1 := ⟨n - 1, by omega⟩
    obtain ⟨n2, rfl⟩ : ∃ q, n2 = q + 1 := ⟨n2 - 1, by omega⟩
    rw [Nat.sub_zero] at h3 ⊢
    refine ⟨N, a_up A 16 2 (s0 + N), σ, x_up τ 19 19 (τ 19 19 + nI N), Nat.le_refl _, Nat.le_refl _, ?_, ?_, xc_oth h rfl (show s0 + N < 2147483648 by omega), fin k h2 (Nat.le_refl _), fJ j, ?_, ?_, a_at _ _ _ _, a_ne (by omega), ?_⟩
    · rw [c95, if_pos (by exact (nI_leI (by omega) (by omega)).mpr (Nat.le_refl _))]
    · rw [c161_36, if_neg (show ¬ (1 : Int32) = 0 by decide), if_pos (by exact (nI_leI (by omega) (by omega)).mpr (Nat.le_refl _))]
    · rw [a_row (by decide), a_ne (by omega)]
      exact hl
    · rw [a_row (by decide)]
      exact h3
    · rw [a_row (by decide)]
      omega
  | succ m ih =>
    intro hm A σ τ n n2 h k j hl h3 h2 ht hn hn2
    obtain ⟨n, rfl⟩ : ∃ q, n = q + 1 := ⟨n - 1, by omega⟩
    obtain ⟨n2, rfl⟩ : ∃ q, n2 = q + 1 + 1 := ⟨n2 - 2, by omega⟩
    have e2 : N - (m + 1) + 1 = N - m := by omega
    obtain ⟨b, B, σ1, τ1, q1, p1, h1, k1, sj, s5, s3, s0', s2, st⟩ := step_ok d h k j hl (by omega)
    rw [c95, if_neg (by exact n_ge (by omega) (by omega)), q1, bnd0]
    dsimp only
    rw [c161_36, if_neg (show ¬ (1 : Int32) = 0 by decide), if_neg (show ¬ nI N ≤ nI (N - (m + 1)) from n_ge (by omega) (by omega)), p1, bnd0]
    dsimp only
    cases b
    · rw [if_pos (show nI (bN false) = (0 : Int32) from rfl), if_pos (show nI (bN false) = (0 : Int32) from rfl)]
      have f := fin (i := N - (m + 1)) k1 (s2.trans h2) (by omega)
      refine ⟨N - (m + 1), a_up B 16 2 (s0 + (N - (m + 1))), σ1, x_up τ1 19 19 (τ1 19 19 + nI (N - (m + 1))), Nat.le_refl _, by omega, rfl, ?_, xc_oth h1 rfl (show s0 + (N - (m + 1)) < 2147483648 by omega), f, fJ sj, ?_, ?_, a_at _ _ _ _, ?_, ?_⟩
      · rw [c161_36, if_pos (show nI (bN false) = (0 : Int32) from rfl), show nI (N - (m + 1)) + (0 : Int32) = nI (N - (m + 1)) from nI_add _ 0]
      · rw [a_row (by decide), a_ne (by omega)]
        exact s5
      · rw [a_row (by decide), s3]
        exact h3
      · rw [a_ne (by omega)]
        exact s0'
      · rw [a_row (by decide)]
        omega
    · rw [if_neg (show ¬ nI (bN true) = (0 : Int32) by decide), if_neg (show ¬ nI (bN true) = (0 : Int32) by decide)]
      have hc : B 7 3 = s0 + (N - (m + 1)) := s3.trans h3
      have h2' : XC (a_up B 7 3 (B 7 3 + 1)) (x_up σ1 0 8 (σ1 0 8 + (1 : Int32))) := by
        rw [xv_stp h1, nI_1]
        exact xc_up h1 7 3 (by decide) (show B 7 3 + 1 < 2147483648 by omega)
      have k2' : XM (a_up B 7 3 (B 7 3 + 1)) τ1 := xm_oth k1 rfl (show B 7 3 + 1 < 2147483648 by omega)
      obtain ⟨a, b, c, e, f⟩ := sj
      have j2 : J (a_up B 7 3 (B 7 3 + 1)) := ⟨kr_of (by rw [a_row (by decide)]) (a_row (by decide)) (a_row (by decide)) (a_ne (by omega)) a, lr_of (by rw [a_row (by decide)]) (a_ne (by omega)) b, by rw [a_ne (by omega), a_row (by decide)]; exact c, by rw [a_row (by decide)]; exact e, by rw [a_ne (by omega), a_row (by decide)]; exact f⟩
      obtain ⟨r, R, σ', τ', i1, i2, i3, i4, i5, i6, i7, i8, i9, i10, i11, i12⟩ := ih (by omega) (a_up B 7 3 (B 7 3 + 1)) _ τ1 n (n2 + 1) h2' k2' j2 (by rw [a_ne (by omega), a_row (by decide)]; exact s5) (by rw [a_at, hc]; omega) (by rw [a_row (by decide)]; exact s2.trans h2) (by rw [a_row (by decide)]; omega) (by omega) (by omega)
      rw [a_row (by decide)] at i11 i12
      refine ⟨r, R, σ', τ', by omega, i2, ?_, ?_, i5, i6, i7, i8, i9, i10, i11.trans s0', ?_⟩
      · rw [nI_1, e2]
        exact i3
      · rw [nI_1, e2]
        exact i4
      · omega
theorem iv_thr {c : Nat} {A : aS} (h : Iv c A) (t : Nat) : Iv (c + 1) (a_up A 16 0 t) := by
  obtain ⟨⟨a, b, e, f, g⟩, h1, h2, h3, h4⟩ := h
  exact ⟨⟨kr_of (by rw [a_row (by decide)]) (a_row (by decide)) (a_row (by decide)) (by rw [a_row (by decide)]) a, lr_of (a_ne (by omega)) (by rw [a_row (by decide)]) b, by rw [a_row (by decide), a_ne (by omega)]; exact e, by rw [a_row (by decide)]; exact f, by rw [a_row (by decide), a_row (by decide)]; exact g⟩, by rw [a_row (by decide), a_ne (by omega)]; exact h1, by rw [a_row (by decide), a_ne (by omega)]; exact h2, by rw [a_row (by decide)]; omega, by rw [a_row (by decide)]; omega⟩
theorem xm_thr {A : aS} {τ : xS} (k : XM A τ) {t : Nat} (ht : t < 3) : XM (a_up A 16 0 t) (x_up τ 19 0 (nI t)) := xm_up k 16 0 (by decide) ht
theorem xc_thr {A : aS} {σ : xS} (h : XC A σ) {t : Nat} (ht : t < 3) : XC (a_up A 16 0 t) σ := xc_oth h rfl ht
theorem run_ok {A : aS} {σ τ : xS} {c N : Nat} (h : XC A σ) (k : XM A τ) (iv : Iv c A) (hc : c ≤ 600) (h1 : 1 ≤ N) (hN : N ≤ 1000) : ∃ (r : Nat) (R : aS) (σ' τ' : xS), r ≤ N ∧ x_M (d + 10) 95 [.ref 0, .int (nI N)] σ = some (nI r, σ') ∧ x_M (d + 11) 161 [.ref 19, .int (nI N)] τ = some (nI r, τ') ∧ XC R σ' ∧ XM R τ' ∧ Iv (c + 1) R ∧ R 16 0 = 0 := by
  have iv2 := iv_thr iv 0
  have h' := xc_thr h (t := 0) (by decide)
  have k' := xm_thr k (t := 0) (by decide)
  have z0 : a_up A 16 0 0 16 0 = 0 := a_at _ _ _ _
  have z4 : a_up A 16 0 0 4 0 = A 4 0 := by rw [a_row (by decide)]
  have z7 : a_up A 16 0 0 7 3 = A 7 3 := by rw [a_row (by decide)]
  obtain ⟨-, -, -, i3, i4⟩ := iv
  generalize a_up A 16 0 0 = B at iv2 h' k' z0 z4 z7
  obtain ⟨j, l5, l3, -, -⟩ := iv2
  obtain ⟨r, R, σ', τ', e1, e2, q, p, x, y, jr, r5, r3, r2, r0, rt⟩ := run_x d (N := N) (s0 := B 16 2) hN (by omega) N (Nat.le_refl _) B σ (x_up τ 19 0 (nI 0)) 4999 4999 h' k' j l5 (by omega) rfl (by omega) (by omega) (by omega)
  rw [Nat.sub_self] at q p
  refine ⟨r, R, σ', τ', e2, ?_, ?_, x, y, ⟨jr, r5, by omega, by omega, by omega⟩, r0.trans z0⟩
  · rw [m95, if_neg (show ¬ nI N < (1 : Int32) from fun z => absurd ((nI_ltI (b := 1) (by omega) (by omega)).mp z) (by omega)), if_pos (show nI N ≤ (1000 : Int32) from (nI_leI (b := 1000) (by omega) (by omega)).mpr hN)]
    exact q
  · rw [m161, if_neg (show ¬ nI N < (1 : Int32) from fun z => absurd ((nI_ltI (b := 1) (by omega) (by omega)).mp z) (by omega)), if_pos (show nI N ≤ (1000 : Int32) from (nI_leI (b := 1000) (by omega) (by omega)).mpr hN), if_pos (x_up_at _ _ _ _)]
    exact p
theorem run_no {A : aS} {σ τ : xS} {c : Nat} (h : XC A σ) (k : XM A τ) (iv : Iv c A) {v : Int32} (hv : v < 1 ∨ ¬ v ≤ 1000) : ∃ (R : aS) (r : Int32) (τ' : xS), x_M (d + 1) 161 [.ref 19, .int v] τ = some (r, τ') ∧ XC R σ ∧ XM R τ' ∧ Iv (c + 1) R ∧ R 16 0 = 1 := by
  have k' := xm_thr k (t := 1) (by decide)
  have z2 : a_up A 16 0 1 16 2 = A 16 2 := a_ne (by omega)
  have w2 : A 16 2 < 2147483648 := k.2 16 2 (by decide)
  have k2 : XM (a_up A 16 0 1) (x_up (x_up τ 19 0 (1 : Int32)) 19 19 ((x_up τ 19 0 (1 : Int32)) 19 19 + (0 : Int32))) := by
    have e : (x_up τ 19 0 (1 : Int32)) 19 19 = nI (A 16 2) := by rw [x_up_off (by decide)]; exact yv_stp k
    have s := xm_up k' 16 2 (v := A 16 2) (by decide) w2
    rw [a_self _ z2.symm] at s
    rw [e, show nI (A 16 2) + (0 : Int32) = nI (A 16 2) from nI_add _ 0]
    exact s
  have e3 : xr x_i161 d 4999 36 [(0, .ref 19), (1, .int v), (2, .int (0 : Int32)), (3, .int (0 : Int32))] [] (x_up τ 19 0 (1 : Int32)) = some ((0 : Int32), x_up (x_up τ 19 0 (1 : Int32)) 19 19 ((x_up τ 19 0 (1 : Int32)) 19 19 + (0 : Int32))) := (c161_36 d 4998 _ _ _ _).trans (if_pos rfl)
  refine ⟨a_up A 16 0 1, 0, _, ?_, xc_thr h (by decide), k2, iv_thr iv 1, a_at _ _ _ _⟩
  by_cases g : v < 1
  · rw [m161, if_pos g, if_neg (by rw [x_up_at]; decide)]
    exact e3
  · rw [m161, if_neg g, if_neg (hv.resolve_left g), if_neg (by rw [x_up_at]; decide)]
    exact e3
end RN
