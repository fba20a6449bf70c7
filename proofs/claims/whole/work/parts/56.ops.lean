/-! The other calls, class and model -/
theorem iv_mem {c : Nat} {A : aS} (h : Iv c A) {o : Nat} (ho : o = 0 ∨ o = 1) (k v : Nat) : Iv c (a_up A o k v) := by
  obtain ⟨⟨a, b, e, f, g⟩, h1, h2, h3, h4⟩ := h
  exact ⟨⟨kr_of (by rw [a_row (by omega)]) (a_row (by omega)) (a_row (by omega)) (by rw [a_row (by omega)]) a, lr_of (by rw [a_row (by omega)]) (by rw [a_row (by omega)]) b, by rw [a_row (by omega), a_row (by omega)]; exact e, by rw [a_row (by omega)]; exact f, by rw [a_row (by omega), a_row (by omega)]; exact g⟩, by rw [a_row (by omega), a_row (by omega)]; exact h1, by rw [a_row (by omega), a_row (by omega)]; exact h2, by rw [a_row (by omega)]; exact h3, by rw [a_row (by omega)]; exact h4⟩
/-- the model notes that a call throws t, and nothing else changes -/
def ThR (d j : Nat) (as : List Value) (c : Nat) (A : aS) (σ τ : xS) (t : Nat) : Prop := ∃ (R : aS) (r : Int32) (τ' : xS), x_M (d + 2) j as τ = some (r, τ') ∧ XC R σ ∧ XM R τ' ∧ Iv (c + 1) R ∧ R 16 0 = t
/-- both answer the same -/
def SmR (d j jm : Nat) (as asm : List Value) (c : Nat) (A : aS) (σ τ : xS) : Prop := ∃ (r : Int32) (R : aS) (σ' τ' : xS), x_M (d + 2) j as σ = some (r, σ') ∧ x_M (d + 2) jm asm τ = some (r, τ') ∧ XC R σ' ∧ XM R τ' ∧ Iv (c + 1) R ∧ R 16 0 = 0
section OP
variable {A : aS} {σ τ : xS} {c : Nat} (d : Nat)
theorem key_no1 (h : XC A σ) (k : XM A τ) (iv : Iv c A) {v : Int32} (hv : v < 0 ∨ ¬ v ≤ 255) : ThR d 106 [.ref 19, .int v] c A σ τ 1 := by
  have e : xr x_i106 (d + 1) 4999 30 [(0, .ref 19), (1, .int v)] [.int (1 : Int32), .ref 19] τ = some (((x_up τ 19 0 (1 : Int32)) 19 13), (x_up τ 19 0 (1 : Int32))) := (c106_30 (d + 1) 4998 _ _ _).trans (if_neg (by rw [x_up_at]; decide))
  refine ⟨a_up A 16 0 1, (x_up τ 19 0 (1 : Int32)) 19 13, x_up τ 19 0 (nI 1), ?_, xc_thr h (by decide), xm_thr k (by decide), iv_thr iv 1, a_at _ _ _ _⟩
  rw [m106]
  by_cases g : v < 0
  · rw [if_pos g]
    exact e
  · rw [if_neg g, if_neg (hv.resolve_left g)]
    exact e
theorem key_no2 (h : XC A σ) (k : XM A τ) (iv : Iv c A) {v : Int32} (h0 : ¬ v < 0) (h1 : v ≤ 255) (h40 : A 4 2 = 40) : ThR d 106 [.ref 19, .int v] c A σ τ 2 := by
  have e : xr x_i106 (d + 1) 4999 30 [(0, .ref 19), (1, .int v)] [.int (2 : Int32), .ref 19] τ = some (((x_up τ 19 0 (2 : Int32)) 19 13), (x_up τ 19 0 (2 : Int32))) := (c106_30 (d + 1) 4998 _ _ _).trans (if_neg (by rw [x_up_at]; decide))
  refine ⟨a_up A 16 0 2, (x_up τ 19 0 (2 : Int32)) 19 13, x_up τ 19 0 (nI 2), ?_, xc_thr h (by decide), xm_thr k (by decide), iv_thr iv 2, a_at _ _ _ _⟩
  rw [m106, if_neg h0, if_pos h1, if_pos (by rw [yv_cnt k, h40]; rfl)]
  exact e
theorem key_yes (h : XC A σ) (k : XM A τ) (iv : Iv c A) {v : Nat} (hv : v < 256) (h40 : ¬ A 4 2 = 40) : SmR d 4 106 [.ref 0, .int (nI v)] [.ref 19, .int (nI v)] c A σ τ := by
  have hc := x_cnt_lt h.2
  have hf := x_fst_lt h.2
  have s1 : XC (a_up A 9 ((A 7 0 + A 4 2) % 40) v) (x_up σ 9 ((A 7 0 + A 4 2) % 40) (nI v)) := xc_up h 9 _ (show (A 7 0 + A 4 2) % 40 < 40 by omega) hv
  have s2 : XC (a_up (a_up A 9 ((A 7 0 + A 4 2) % 40) v) 4 2 (A 4 2 + 1)) (x_up (x_up σ 9 ((A 7 0 + A 4 2) % 40) (nI v)) 8 2 (nI (A 4 2 + 1))) := xc_up s1 4 2 (by decide) (show A 4 2 + 1 < 41 by omega)
  have s3 : XC (a_up (a_up (a_up A 9 ((A 7 0 + A 4 2) % 40) v) 4 2 (A 4 2 + 1)) 10 (A 4 2) v) _ := xc_oth s2 rfl hv
  have u1 : XM (a_up (a_up A 16 0 0) 9 ((A 7 0 + A 4 2) % 40) v) (x_up τ 19 0 (0 : Int32)) := xm_oth (xm_thr k (by decide)) rfl hv
  have u2 : XM (a_up (a_up (a_up A 16 0 0) 9 ((A 7 0 + A 4 2) % 40) v) 10 (A 4 2) v) (x_up (x_up τ 19 0 (0 : Int32)) 23 (A 4 2) (nI v)) := xm_up u1 10 _ (show A 4 2 < 40 by omega) hv
  have u4 : XM (a_up (a_up (a_up (a_up A 16 0 0) 9 ((A 7 0 + A 4 2) % 40) v) 10 (A 4 2) v) 4 2 (A 4 2 + 1)) (x_up (x_up (x_up τ 19 0 (0 : Int32)) 23 (A 4 2) (nI v)) 19 13 (nI (A 4 2 + 1))) := xm_up u2 4 2 (by decide) (show A 4 2 + 1 < 41 by omega)
  have ee : a_up (a_up (a_up (a_up A 16 0 0) 9 ((A 7 0 + A 4 2) % 40) v) 10 (A 4 2) v) 4 2 (A 4 2 + 1) = a_up (a_up (a_up (a_up A 9 ((A 7 0 + A 4 2) % 40) v) 4 2 (A 4 2 + 1)) 10 (A 4 2) v) 16 0 0 := by
    funext o j
    simp only [a_up]
    by_cases e4 : o = 4
    · subst e4; simp
    · by_cases e16 : o = 16
      · subst e16; simp
      · simp [e4, e16]
  rw [ee] at u4
  have rr : ∀ {o : Nat}, ¬ o = 9 → ¬ o = 4 → ¬ o = 10 → a_up (a_up (a_up A 9 ((A 7 0 + A 4 2) % 40) v) 4 2 (A 4 2 + 1)) 10 (A 4 2) v o = A o := fun a b e => by rw [a_row e, a_row b, a_row a]
  have r4 : a_up (a_up (a_up A 9 ((A 7 0 + A 4 2) % 40) v) 4 2 (A 4 2 + 1)) 10 (A 4 2) v 4 0 = A 4 0 := by rw [a_row (by decide), a_ne (by omega), a_row (by decide)]
  have iv2 : Iv c (a_up (a_up (a_up A 9 ((A 7 0 + A 4 2) % 40) v) 4 2 (A 4 2 + 1)) 10 (A 4 2) v) := by
    obtain ⟨⟨a, b, e, f, g⟩, h1, h2, h3, h4⟩ := iv
    refine ⟨⟨fun i hi => ?_, lr_of (by rw [rr (by decide) (by decide) (by decide)]) (by rw [rr (by decide) (by decide) (by decide)]) b, by rw [rr (by decide) (by decide) (by decide), rr (by decide) (by decide) (by decide)]; exact e, by rw [rr (by decide) (by decide) (by decide)]; exact f, by rw [rr (by decide) (by decide) (by decide), rr (by decide) (by decide) (by decide)]; exact g⟩, by rw [rr (by decide) (by decide) (by decide), rr (by decide) (by decide) (by decide)]; exact h1, by rw [rr (by decide) (by decide) (by decide), rr (by decide) (by decide) (by decide)]; exact h2, by rw [r4]; exact h3, by rw [rr (by decide) (by decide) (by decide)]; exact h4⟩
    rw [a_row (by decide), a_at] at hi
    rw [rr (o := 7) (by decide) (by decide) (by decide), a_row (o := 10) (a := 9) (by decide), a_row (o := 4) (a := 9) (by decide)]
    by_cases e : i = A 4 2
    · subst e
      rw [a_at, a_at]
    · rw [a_ne (by omega), a_row (by decide), a_row (by decide), a_ne (by omega)]
      exact a i (by omega)
  refine ⟨nI (A 4 2 + 1), _, _, _, ?_, ?_, xc_thr s3 (t := 0) (by decide), u4, iv_thr iv2 0, a_at _ _ _ _⟩
  · rw [m4, m0, if_neg (nI_pos (by omega)), if_neg (by exact fun z => absurd ((nI_ltI (a := 255) (by omega) (by omega)).mp z) (by omega)), bnd0]
    dsimp only
    rw [if_neg (show ¬ (1 : Int32) = 0 by decide), m1, xv_cnt h, if_neg (by exact fun z => h40 ((nI_eq (b := 40) (by omega) (by omega)).mp z)), bnd0]
    dsimp only
    rw [if_pos (show (0 : Int32) = 0 from rfl), m2, xv_fst h, xv_cnt h, show (40 : Int32) = nI 40 from rfl, nI_add, n_rem (by omega) (by decide) (by decide), if_neg (n_ok (by omega) (by decide)), n_cl (by omega), x_up_oth (by decide), xv_cnt h, nI_1, bnd0]
    dsimp only
    rw [m3, x_up_at, bnd0]
  · have e := c106_30 (d + 1) 4998 (nI v) (0 : Int32) τ
    have y13 : (x_up τ 19 0 (0 : Int32)) 19 13 = nI (A 4 2) := by rw [x_up_off (by decide)]; exact yv_cnt k
    rw [if_pos (x_up_at _ _ _ _), y13, if_neg (n_ok (n := 40) (by omega) (by decide)), n_cl (by omega), x_up_oth (a := 19) (o := 23) (by decide), y13, nI_1, x_up_at] at e
    rw [m106, if_neg (nI_pos (by omega)), if_pos (show nI v ≤ (255 : Int32) from (nI_leI (b := 255) (by omega) (by omega)).mpr (by omega)), if_neg (by rw [yv_cnt k]; exact fun z => h40 ((nI_eq (b := 40) (by omega) (by omega)).mp z))]
    exact e
theorem peek_no (h : XC A σ) (k : XM A τ) (iv : Iv c A) {v : Int32} (hv : v < 0 ∨ ¬ v ≤ 511) : ThR d 164 [.ref 19, .int v] c A σ τ 1 := by
  refine ⟨a_up A 16 0 1, 0, x_up τ 19 0 (nI 1), ?_, xc_thr h (by decide), xm_thr k (by decide), iv_thr iv 1, a_at _ _ _ _⟩
  rw [m164]
  by_cases g : v < 0
  · rw [if_pos g, if_neg (by rw [x_up_at]; decide)]
    rfl
  · rw [if_neg g, if_neg (hv.resolve_left g), if_neg (by rw [x_up_at]; decide)]
    rfl
theorem peek_yes (h : XC A σ) (k : XM A τ) (iv : Iv c A) {v : Nat} (hv : v < 512) : SmR d 98 164 [.ref 0, .int (nI v)] [.ref 19, .int (nI v)] c A σ τ := by
  have g := c_mget d h (a := v) (by omega)
  rw [Nat.mod_eq_of_lt hv] at g
  refine ⟨nI (A 0 v), a_up A 16 0 0, σ, x_up τ 19 0 (nI 0), ?_, ?_, xc_thr h (by decide), xm_thr k (by decide), iv_thr iv 0, a_at _ _ _ _⟩
  · rw [m98, m96, if_neg (nI_pos (by omega)), if_neg (show ¬ (512 : Int32) ≤ nI v from n_ge (c := 512) hv (by decide)), bnd0]
    dsimp only
    rw [if_neg (show ¬ (1 : Int32) = 0 by decide), g, bnd0]
  · rw [m164, if_neg (nI_pos (by omega)), if_pos (show nI v ≤ (511 : Int32) from (nI_leI (b := 511) (by omega) (by omega)).mpr (by omega)), if_pos (x_up_at _ _ _ _), if_neg (n_ok hv (by decide)), n_cl (by omega), x_up_oth (by decide), yv_mem k hv]
    rfl
theorem poke_no (h : XC A σ) (k : XM A τ) (iv : Iv c A) {v w : Int32} (hv : v < 0 ∨ ¬ v ≤ 511 ∨ w < 0 ∨ ¬ w ≤ 255) : ThR d 163 [.ref 19, .int v, .int w] c A σ τ 1 := by
  have e : xr x_i163 (d + 1) 4999 19 [(0, .ref 19), (1, .int v), (2, .int w)] [.ref 19] τ = some ((0 : Int32), (x_up τ 19 0 (1 : Int32))) := by
    refine (c163_19 (d + 1) 4998 _ _ _).trans ?_
    rw [if_neg (by rw [x_up_at]; decide), if_neg (by rw [x_up_at]; decide)]
  refine ⟨a_up A 16 0 1, 0, x_up τ 19 0 (nI 1), ?_, xc_thr h (by decide), xm_thr k (by decide), iv_thr iv 1, a_at _ _ _ _⟩
  rw [m163]
  by_cases g : v < 0
  · rw [if_pos g]
    exact e
  · rw [if_neg g]
    by_cases g2 : (511 : Int32) < v
    · rw [if_pos g2]
      exact e
    · rw [if_neg g2, m162]
      by_cases g3 : w < 0
      · rw [if_pos g3, bnd0]
        dsimp only
        rw [if_pos (show (0 : Int32) = 0 from rfl)]
        exact e
      · rw [if_neg g3]
        by_cases g4 : (255 : Int32) < w
        · rw [if_pos g4, bnd0]
          dsimp only
          rw [if_pos (show (0 : Int32) = 0 from rfl)]
          exact e
        · exact absurd hv (by
            intro z
            rcases z with z | z | z | z
            · exact g z
            · exact g2 (Int32.not_le.mp z)
            · exact g3 z
            · exact g4 (Int32.not_le.mp z))
theorem poke_yes (h : XC A σ) (k : XM A τ) (iv : Iv c A) {v w : Nat} (hv : v < 512) (hw : w < 256) : SmR d 97 163 [.ref 0, .int (nI v), .int (nI w)] [.ref 19, .int (nI v), .int (nI w)] c A σ τ := by
  obtain ⟨σ1, q1, h1⟩ := c_mput d h (a := v) (v := w) (by omega) (by omega)
  rw [Nat.mod_eq_of_lt hv, Nat.mod_eq_of_lt hw] at h1
  have k1 : XM (a_up (a_up A 16 0 0) 0 v w) (x_up (x_up τ 19 0 (nI 0)) 20 v (nI w)) := xm_up (xm_thr k (by decide)) 0 v hv hw
  have ee : a_up (a_up A 16 0 0) 0 v w = a_up (a_up A 0 v w) 16 0 0 := by
    funext o j
    simp only [a_up]
    by_cases e4 : o = 0
    · subst e4; simp
    · simp [e4]
  rw [ee] at k1
  refine ⟨1, _, σ1, _, ?_, ?_, xc_thr h1 (t := 0) (by decide), k1, iv_thr (iv_mem iv (Or.inl rfl) v w) 0, a_at _ _ _ _⟩
  · rw [m97, m96, if_neg (nI_pos (by omega)), if_neg (show ¬ (512 : Int32) ≤ nI v from n_ge (c := 512) hv (by decide)), bnd0]
    dsimp only
    rw [if_neg (show ¬ (1 : Int32) = 0 by decide), m0, if_neg (nI_pos (by omega)), if_neg (by exact fun z => absurd ((nI_ltI (a := 255) (by omega) (by omega)).mp z) (by omega)), bnd0]
    dsimp only
    rw [if_neg (show ¬ (1 : Int32) = 0 by decide), q1, bnd0]
  · rw [m163, if_neg (nI_pos (by omega)), if_neg (by exact fun z => absurd ((nI_ltI (a := 511) (by omega) (by omega)).mp z) (by omega)), m162, if_neg (nI_pos (by omega)), if_neg (by exact fun z => absurd ((nI_ltI (a := 255) (by omega) (by omega)).mp z) (by omega)), bnd0]
    dsimp only
    rw [if_neg (show ¬ (1 : Int32) = 0 by decide), if_pos (x_up_at _ _ _ _), if_neg (n_ok hv (by decide)), n_cl (by omega), if_pos (by rw [x_up_oth (by decide), x_up_at])]
    rfl
end OP
section OQ
variable {A : aS} {σ τ : xS} {c : Nat} (d : Nat)
/-- is (v, w) a place of the disk? -/
def plc (v w : Int32) : Bool := decide (¬ v < 0 ∧ ¬ (31 : Int32) < v ∧ ¬ w < 0 ∧ ¬ (15 : Int32) < w)
theorem y_plc (v w : Int32) (τ : xS) : x_M (d + 1) 165 [.int v, .int w] τ = some (nI (bN (plc v w)), τ) := by
  rw [m165]
  unfold plc
  by_cases g : v < 0
  · rw [if_pos g, decide_eq_false (fun z => z.1 g)]
    rfl
  · rw [if_neg g]
    by_cases g2 : (31 : Int32) < v
    · rw [if_pos g2, decide_eq_false (fun z => z.2.1 g2)]
      rfl
    · rw [if_neg g2]
      by_cases g3 : w < 0
      · rw [if_pos g3, decide_eq_false (fun z => z.2.2.1 g3)]
        rfl
      · rw [if_neg g3]
        by_cases g4 : (15 : Int32) < w
        · rw [if_pos g4, decide_eq_false (fun z => z.2.2.2 g4)]
          rfl
        · rw [if_neg g4, decide_eq_true ⟨g, g2, g3, g4⟩]
          rfl
def byt (v : Int32) : Bool := decide (¬ v < 0 ∧ ¬ (255 : Int32) < v)
theorem y_byt (v : Int32) (τ : xS) : x_M (d + 1) 162 [.int v] τ = some (nI (bN (byt v)), τ) := by
  rw [m162]
  unfold byt
  by_cases g : v < 0
  · rw [if_pos g, decide_eq_false (fun z => z.1 g)]
    rfl
  · rw [if_neg g]
    by_cases g2 : (255 : Int32) < v
    · rw [if_pos g2, decide_eq_false (fun z => z.2 g2)]
      rfl
    · rw [if_neg g2, decide_eq_true ⟨g, g2⟩]
      rfl
theorem c_plc {v w : Nat} (hv : v < 32) (hw : w < 16) (σ : xS) : x_M (d + 1) 99 [.int (nI v), .int (nI w)] σ = some ((1 : Int32), σ) := by
  rw [m99, if_neg (nI_pos (by omega)), if_neg (show ¬ (32 : Int32) ≤ nI v from n_ge (c := 32) hv (by decide)), if_neg (nI_pos (by omega)), if_neg (show ¬ (16 : Int32) ≤ nI w from n_ge (c := 16) hw (by decide))]
theorem plc_yes {v w : Nat} (hv : v < 32) (hw : w < 16) : plc (nI v) (nI w) = true := decide_eq_true ⟨nI_pos (by omega), fun z => absurd ((nI_ltI (a := 31) (by omega) (by omega)).mp z) (by omega), nI_pos (by omega), fun z => absurd ((nI_ltI (a := 15) (by omega) (by omega)).mp z) (by omega)⟩
theorem byt_yes {v : Nat} (hv : v < 256) : byt (nI v) = true := decide_eq_true ⟨nI_pos (by omega), fun z => absurd ((nI_ltI (a := 255) (by omega) (by omega)).mp z) (by omega)⟩
theorem disk_no (h : XC A σ) (k : XM A τ) (iv : Iv c A) {v w : Int32} (hv : plc v w = false) : ThR d 166 [.ref 19, .int v, .int w] c A σ τ 1 := by
  refine ⟨a_up A 16 0 1, 0, x_up τ 19 0 (nI 1), ?_, xc_thr h (by decide), xm_thr k (by decide), iv_thr iv 1, a_at _ _ _ _⟩
  rw [m166, y_plc, hv, bnd0]
  dsimp only
  rw [if_pos (show nI (bN false) = (0 : Int32) from rfl), if_neg (by rw [x_up_at]; decide)]
  rfl
theorem disk_yes (h : XC A σ) (k : XM A τ) (iv : Iv c A) {v w : Nat} (hv : v < 32) (hw : w < 16) : SmR d 100 166 [.ref 0, .int (nI v), .int (nI w)] [.ref 19, .int (nI v), .int (nI w)] c A σ τ := by
  refine ⟨nI (A 1 (16 * v + w)), a_up A 16 0 0, σ, x_up τ 19 0 (nI 0), ?_, ?_, xc_thr h (by decide), xm_thr k (by decide), iv_thr iv 0, a_at _ _ _ _⟩
  · rw [m100, c_plc d hv hw, bnd0]
    dsimp only
    rw [if_neg (show ¬ (1 : Int32) = 0 by decide), c_dget d h hv hw, bnd0]
  · rw [m166, y_plc, plc_yes hv hw, bnd0]
    dsimp only
    rw [if_neg (show ¬ nI (bN true) = (0 : Int32) by decide), if_pos (x_up_at _ _ _ _), y_16i, if_neg (n_ok (by omega) (by decide)), n_cl (by omega), x_up_oth (by decide), yv_dsk k (by omega)]
    rfl
theorem burn_no (h : XC A σ) (k : XM A τ) (iv : Iv c A) {v w u : Int32} (hv : plc v w = false ∨ byt u = false) : ThR d 167 [.ref 19, .int v, .int w, .int u] c A σ τ 1 := by
  refine ⟨a_up A 16 0 1, 0, x_up τ 19 0 (nI 1), ?_, xc_thr h (by decide), xm_thr k (by decide), iv_thr iv 1, a_at _ _ _ _⟩
  rw [m167, y_plc, bnd0]
  dsimp only
  cases g : plc v w
  · rw [if_pos (show nI (bN false) = (0 : Int32) from rfl), if_neg (by rw [x_up_at]; decide), if_neg (by rw [x_up_at]; decide)]
    rfl
  · rw [if_neg (show ¬ nI (bN true) = (0 : Int32) by decide), y_byt, bnd0]
    dsimp only
    rw [g] at hv
    rw [hv.resolve_left (by decide), if_pos (show nI (bN false) = (0 : Int32) from rfl), if_neg (by rw [x_up_at]; decide), if_neg (by rw [x_up_at]; decide)]
    rfl
theorem burn_yes (h : XC A σ) (k : XM A τ) (iv : Iv c A) {v w u : Nat} (hv : v < 32) (hw : w < 16) (hu : u < 256) : SmR d 101 167 [.ref 0, .int (nI v), .int (nI w), .int (nI u)] [.ref 19, .int (nI v), .int (nI w), .int (nI u)] c A σ τ := by
  obtain ⟨σ1, q1, h1⟩ := c_dput d h (b := v) (i := w) (v := u) hv hw hu
  have k1 : XM (a_up (a_up A 16 0 0) 1 (16 * v + w) u) (x_up (x_up τ 19 0 (nI 0)) 21 (16 * v + w) (nI u)) := xm_up (xm_thr k (by decide)) 1 (16 * v + w) (show 16 * v + w < 512 by omega) hu
  have ee : a_up (a_up A 16 0 0) 1 (16 * v + w) u = a_up (a_up A 1 (16 * v + w) u) 16 0 0 := by
    funext o j
    simp only [a_up]
    by_cases e4 : o = 1
    · subst e4; simp
    · simp [e4]
  rw [ee] at k1
  refine ⟨1, _, σ1, _, ?_, ?_, xc_thr h1 (t := 0) (by decide), k1, iv_thr (iv_mem iv (Or.inr rfl) _ u) 0, a_at _ _ _ _⟩
  · rw [m101, c_plc d hv hw, bnd0]
    dsimp only
    rw [if_neg (show ¬ (1 : Int32) = 0 by decide), m0, if_neg (nI_pos (by omega)), if_neg (by exact fun z => absurd ((nI_ltI (a := 255) (by omega) (by omega)).mp z) (by omega)), bnd0]
    dsimp only
    rw [if_neg (show ¬ (1 : Int32) = 0 by decide), q1, bnd0]
  · rw [m167, y_plc, plc_yes hv hw, bnd0]
    dsimp only
    rw [if_neg (show ¬ nI (bN true) = (0 : Int32) by decide), y_byt, byt_yes hu, bnd0]
    dsimp only
    rw [if_neg (show ¬ nI (bN true) = (0 : Int32) by decide), if_pos (x_up_at _ _ _ _), y_16i, if_neg (n_ok (by omega) (by decide)), n_cl (by omega), if_pos (by rw [x_up_oth (by decide), x_up_at])]
    rfl
theorem shown_ok (h : XC A σ) (k : XM A τ) (iv : Iv c A) (v : Int32) : SmR d 103 168 [.ref 0, .int v] [.ref 19, .int v] c A σ τ := by
  have ht : A 4 0 < 2147483648 := h.2 4 0 (by decide)
  have y17 : (x_up τ 19 0 (0 : Int32)) 19 17 = nI (A 4 0) := by rw [x_up_off (by decide)]; exact yv_tot k
  have fin : ∀ r : Int32, x_M (d + 1) 102 [.ref 10, .int v] σ = some (r, σ) → x_M (d + 2) 168 [.ref 19, .int v] τ = some (r, x_up τ 19 0 (0 : Int32)) → SmR d 103 168 [.ref 0, .int v] [.ref 19, .int v] c A σ τ := fun r e1 e2 => ⟨r, a_up A 16 0 0, σ, x_up τ 19 0 (nI 0), by rw [m103, e1, bnd0], e2, xc_thr h (by decide), xm_thr k (by decide), iv_thr iv 0, a_at _ _ _ _⟩
  have M := m102 d v σ
  have M2 := m168 (d + 1) v τ
  rw [xv_tot h] at M
  rw [y17] at M2
  by_cases g : v < 0
  · rw [if_pos g] at M M2
    exact fin _ M M2
  · rw [if_neg g] at M M2
    obtain ⟨w, hw, rfl⟩ := nI_of g
    by_cases g2 : 64 ≤ w
    · rw [if_pos (show (64 : Int32) ≤ nI w from (nI_leI (a := 64) (by omega) (by omega)).mpr g2)] at M
      rw [if_pos (show (63 : Int32) < nI w from (nI_ltI (a := 63) (by omega) (by omega)).mpr (by omega))] at M2
      exact fin _ M M2
    · rw [if_neg (show ¬ (64 : Int32) ≤ nI w from fun z => g2 ((nI_leI (a := 64) (by omega) (by omega)).mp z))] at M
      rw [if_neg (show ¬ (63 : Int32) < nI w from fun z => absurd ((nI_ltI (a := 63) (by omega) (by omega)).mp z) (by omega))] at M2
      by_cases g3 : w < A 4 0
      · have e1 : nI (A 4 0) - (1 : Int32) - nI w = nI (A 4 0 - 1 - w) := by
          rw [show (1 : Int32) = nI 1 from rfl, nI_sub (by omega), nI_sub (by omega)]
        have hb : (A 4 0 - 1 - w) % 64 < 64 := by omega
        rw [if_pos ((nI_ltI (by omega) (by omega)).mpr g3), e1, n_and63 (by omega), if_neg (n_ok hb (by decide)), n_cl (by omega), xv_rng h hb] at M
        rw [if_pos ((nI_ltI (by omega) (by omega)).mpr g3), e1, show (64 : Int32) = nI 64 from rfl, n_rem (by omega) (by decide) (by decide), if_neg (n_ok hb (by decide)), n_cl (by omega), x_up_oth (by decide), yv_rng k hb] at M2
        exact fin _ M M2
      · rw [if_neg (fun z => g3 ((nI_ltI (by omega) (by omega)).mp z))] at M M2
        exact fin _ M M2
theorem reg_ok (h : XC A σ) (k : XM A τ) (iv : Iv c A) (v : Int32) : SmR d 104 169 [.ref 0, .int v] [.ref 19, .int v] c A σ τ := by
  have fin : ∀ r : Int32, x_M (d + 2) 104 [.ref 0, .int v] σ = some (r, σ) → x_M (d + 2) 169 [.ref 19, .int v] τ = some (r, x_up τ 19 0 (0 : Int32)) → SmR d 104 169 [.ref 0, .int v] [.ref 19, .int v] c A σ τ := fun r e1 e2 => ⟨r, a_up A 16 0 0, σ, x_up τ 19 0 (nI 0), e1, e2, xc_thr h (by decide), xm_thr k (by decide), iv_thr iv 0, a_at _ _ _ _⟩
  have k0 := xm_thr k (t := 0) (by decide)
  have M := m104 (d + 1) v σ
  have M2 := m169 (d + 1) v τ
  have cs : ∀ i, i < 8 → σ 4 i = nI (A 2 i) := fun i hi => (xc_cp h).1.2.1 i hi
  have ms : ∀ i, i < 8 → τ 22 i = nI (A 2 i) := fun i hi => (xm_cq k).1.2.1 i hi
  have c3 : ∀ i, i < 7 → σ 3 (i + 2) = nI (A 3 i) := fun i hi => h.1 3 i hi
  by_cases g : v < 0
  · have n : ∀ x : Nat, x < 100 → ¬ v = nI x := fun x hx z => by rw [z] at g; exact nI_pos (n := x) (by omega) g
    rw [if_neg (show ¬ v = (6 : Int32) from n 6 (by decide)), if_neg (show ¬ v = (7 : Int32) from n 7 (by decide)), if_neg (show ¬ v = (8 : Int32) from n 8 (by decide)), if_neg (show ¬ v = (9 : Int32) from n 9 (by decide)), if_neg (show ¬ v = (10 : Int32) from n 10 (by decide)), if_pos g] at M
    rw [if_pos g] at M2
    exact fin _ M M2
  · obtain ⟨w, hw, rfl⟩ := nI_of g
    rw [if_neg g] at M2
    have ne : ∀ x : Nat, x < 100 → ¬ w = x → ¬ nI w = nI x := fun x hx z y => z ((nI_eq (by omega) (by omega)).mp y)
    by_cases g11 : 10 < w
    · rw [if_neg (show ¬ nI w ≤ (10 : Int32) from n_ge (i := 10) g11 (by omega))] at M2
      rw [if_neg (show ¬ nI w = (6 : Int32) from ne 6 (by decide) (by omega)), if_neg (show ¬ nI w = (7 : Int32) from ne 7 (by decide) (by omega)), if_neg (show ¬ nI w = (8 : Int32) from ne 8 (by decide) (by omega)), if_neg (show ¬ nI w = (9 : Int32) from ne 9 (by decide) (by omega)), if_neg (show ¬ nI w = (10 : Int32) from ne 10 (by decide) (by omega)), if_neg g, if_pos (show (8 : Int32) ≤ nI w from (nI_leI (a := 8) (by omega) (by omega)).mpr (by omega))] at M
      exact fin _ M M2
    · rw [if_pos (show nI w ≤ (10 : Int32) from (nI_leI (b := 10) (by omega) (by omega)).mpr (by omega))] at M2
      by_cases g6 : w = 6
      · subst g6
        have q := c_flags d (xc_cp h)
        have p := m_flags d (xm_cq k0)
        have p : x_M (d + 1) 155 [.ref 19] (x_up τ 19 0 (0 : Int32)) = some (nI (aFg (a_up A 16 0 0)), x_up τ 19 0 (0 : Int32)) := p
        rw [if_pos (show nI 6 = (6 : Int32) from rfl), q, bnd0] at M
        rw [if_pos (show nI 6 = (6 : Int32) from rfl), p, bnd0] at M2
        have e : aFg (a_up A 16 0 0) = aFg A := by
          unfold aFg
          rw [a_row (by decide)]
        rw [e] at M2
        exact fin _ M M2
      · rw [if_neg (show ¬ nI w = (6 : Int32) from ne 6 (by decide) g6)] at M M2
        by_cases g8 : 8 ≤ w
        · rw [if_pos (show (8 : Int32) ≤ nI w from (nI_leI (a := 8) (by omega) (by omega)).mpr g8)] at M2
          rw [if_neg (show ¬ nI w = (7 : Int32) from ne 7 (by decide) (by omega))] at M
          by_cases e8 : w = 8
          · subst e8
            rw [if_pos (show nI 8 = (8 : Int32) from rfl), c3 0 (by decide)] at M
            rw [if_pos (show nI 8 = (8 : Int32) from rfl), show (x_up τ 19 0 (0 : Int32)) 19 4 = nI (A 3 0) from (x_up_off (by decide)).trans (k.1 3 0 (by decide))] at M2
            exact fin _ M M2
          · rw [if_neg (show ¬ nI w = (8 : Int32) from ne 8 (by decide) e8)] at M M2
            by_cases e9 : w = 9
            · subst e9
              rw [if_pos (show nI 9 = (9 : Int32) from rfl), c3 1 (by decide)] at M
              rw [if_pos (show nI 9 = (9 : Int32) from rfl), show (x_up τ 19 0 (0 : Int32)) 19 5 = nI (A 3 1) from (x_up_off (by decide)).trans (k.1 3 1 (by decide))] at M2
              exact fin _ M M2
            · have e10 : w = 10 := by omega
              subst e10
              rw [if_neg (show ¬ nI 10 = (9 : Int32) by decide)] at M M2
              rw [if_pos (show nI 10 = (10 : Int32) from rfl), xv_buf h] at M
              rw [show (x_up τ 19 0 (0 : Int32)) 19 6 = nI (A 4 1) from (x_up_off (by decide)).trans (yv_buf k)] at M2
              exact fin _ M M2
        · have w8 : w < 8 := by omega
          rw [if_neg (show ¬ (8 : Int32) ≤ nI w from fun z => g8 ((nI_leI (a := 8) (by omega) (by omega)).mp z)), if_neg (n_ok w8 (by decide)), n_cl (by omega), x_up_oth (by decide), ms w w8] at M2
          by_cases e7 : w = 7
          · subst e7
            rw [if_pos (show nI 7 = (7 : Int32) from rfl), if_neg g, if_neg (show ¬ (8 : Int32) ≤ nI 7 by decide), if_neg (n_ok (n := 8) (by decide) (by decide)), n_cl (by decide), cs 7 (by decide)] at M
            exact fin _ M M2
          · rw [if_neg (show ¬ nI w = (7 : Int32) from ne 7 (by decide) e7), if_neg (show ¬ nI w = (8 : Int32) from ne 8 (by decide) (by omega)), if_neg (show ¬ nI w = (9 : Int32) from ne 9 (by decide) (by omega)), if_neg (show ¬ nI w = (10 : Int32) from ne 10 (by decide) (by omega)), if_neg g, if_neg (show ¬ (8 : Int32) ≤ nI w from fun z => g8 ((nI_leI (a := 8) (by omega) (by omega)).mp z)), if_neg (n_ok w8 (by decide)), n_cl (by omega), cs w w8] at M
            exact fin _ M M2
theorem about_ok (h : XC A σ) (k : XM A τ) (iv : Iv c A) (v : Int32) : SmR d 105 170 [.ref 0, .int v] [.ref 19, .int v] c A σ τ := by
  have fin : ∀ r : Int32, x_M (d + 2) 105 [.ref 0, .int v] σ = some (r, σ) → x_M (d + 2) 170 [.ref 19, .int v] τ = some (r, x_up τ 19 0 (0 : Int32)) → SmR d 105 170 [.ref 0, .int v] [.ref 19, .int v] c A σ τ := fun r e1 e2 => ⟨r, a_up A 16 0 0, σ, x_up τ 19 0 (nI 0), e1, e2, xc_thr h (by decide), xm_thr k (by decide), iv_thr iv 0, a_at _ _ _ _⟩
  obtain ⟨⟨-, -, jm, -, -⟩, hl, hs, -, -⟩ := iv
  have M := m105 (d + 1) v σ
  have M2 := m170 (d + 1) v τ
  rw [show (x_up τ 19 0 (0 : Int32)) 19 12 = nI (A 16 3) from (x_up_off (by decide)).trans (yv_mod k), show (x_up τ 19 0 (0 : Int32)) 19 13 = nI (A 4 2) from (x_up_off (by decide)).trans (yv_cnt k), show (x_up τ 19 0 (0 : Int32)) 19 17 = nI (A 4 0) from (x_up_off (by decide)).trans (yv_tot k), show (x_up τ 19 0 (0 : Int32)) 19 19 = nI (A 16 2) from (x_up_off (by decide)).trans (yv_stp k), show (x_up τ 19 0 (0 : Int32)) 19 15 = nI (A 16 4) from (x_up_off (by decide)).trans (yv_len k), ← jm, ← hl, ← hs] at M2
  rw [m3, xv_mod h, xv_cnt h, xv_tot h, xv_stp h, xv_len h, bnd0] at M
  by_cases g0 : v = 0
  · rw [if_pos g0] at M M2
    exact fin _ M M2
  · rw [if_neg g0] at M M2
    by_cases g1 : v = 1
    · rw [if_pos g1] at M M2
      exact fin _ M M2
    · rw [if_neg g1] at M M2
      by_cases g2 : v = 2
      · rw [if_pos g2] at M M2
        exact fin _ M M2
      · rw [if_neg g2] at M M2
        by_cases g3 : v = 3
        · rw [if_pos g3] at M M2
          exact fin _ M M2
        · rw [if_neg g3] at M M2
          by_cases g4 : v = 4
          · rw [if_pos g4] at M M2
            exact fin _ M M2
          · rw [if_neg g4] at M M2
            exact fin _ M M2
end OQ
