/-! The calls of the law, class and model in one store -/
theorem i_nI (x : Int32) : ∃ m : Nat, m < 4294967296 ∧ x = nI m := ⟨x.toBitVec.toNat, x.toBitVec.isLt, Int32.toBitVec_inj.mp (by
  show x.toBitVec = BitVec.ofNat 32 x.toBitVec.toNat
  rw [BitVec.ofNat_toNat, BitVec.setWidth_eq])⟩
theorem mO_r (o : Nat) : 19 ≤ mO o ∧ mO o < 27 := by
  unfold mO
  split <;> decide
theorem cO_r (o k : Nat) : cO o k < 19 := by
  unfold cO
  split
  all_goals first
    | decide
    | (split <;> decide)
theorem xm_fr {A9 : aS} {σ σ1 : xS} (k : XM A9 σ) (h : ∀ o, 19 ≤ o → o < 27 → σ1 o = σ o) : XM A9 σ1 := ⟨fun o j hj => by rw [h (mO o) (mO_r o).1 (mO_r o).2]; exact k.1 o j hj, k.2⟩
theorem xc_fr {A9 : aS} {σ σ1 : xS} (k : XC A9 σ) (h : ∀ o, o < 19 → σ1 o = σ o) : XC A9 σ1 := ⟨fun o j hj => by rw [h (cO o j) (cO_r o j)]; exact k.1 o j hj, k.2⟩
theorem rk_c (vs : List Int32) : ∀ v ∈ Value.ref 0 :: vs.map Value.int, x_rk x_KC v := fun v hv a e => by
  subst e
  rcases List.mem_cons.mp hv with h | h
  · cases h; rfl
  · obtain ⟨x, -, hx⟩ := List.mem_map.mp h
    cases hx
theorem rk_m (vs : List Int32) : ∀ v ∈ Value.ref 19 :: vs.map Value.int, x_rk x_KM v := fun v hv a e => by
  subst e
  rcases List.mem_cons.mp hv with h | h
  · cases h; rfl
  · obtain ⟨x, -, hx⟩ := List.mem_map.mp h
    cases hx
theorem law_same {d j jm c : Nat} {vs : List Int32} {A9 : aS} {σ : xS} (k : XM A9 σ) (sm : ∀ τ, XM A9 τ → SmR d j jm (.ref 0 :: vs.map Value.int) (.ref 19 :: vs.map Value.int) c A9 σ τ) : ∃ (r : Int32) (R : aS) (σ1 σ2 : xS), x_M (d + 2) j (.ref 0 :: vs.map Value.int) σ = some (r, σ1) ∧ x_M (d + 2) jm (.ref 19 :: vs.map Value.int) σ1 = some (r, σ2) ∧ XC R σ2 ∧ XM R σ2 ∧ Iv (c + 1) R ∧ R 16 0 = 0 := by
  obtain ⟨r, R0, σ1, τ0, q1, -⟩ := sm σ k
  have k1 := xm_fr k (frC q1 (rk_c vs))
  obtain ⟨r', R, σ1', σ2, q1', q2, x, y, iv, z⟩ := sm σ1 k1
  cases q1.symm.trans q1'
  exact ⟨r, R, σ1, σ2, q1, q2, xc_fr x (frM q2 (rk_m vs)), y, iv, z⟩
theorem law_thr {d jm c t : Nat} {vs : List Int32} {A9 : aS} {σ : xS} (th : ThR d jm (.ref 19 :: vs.map Value.int) c A9 σ σ t) : ∃ (R : aS) (r : Int32) (σ2 : xS), x_M (d + 2) jm (.ref 19 :: vs.map Value.int) σ = some (r, σ2) ∧ XC R σ2 ∧ XM R σ2 ∧ Iv (c + 1) R ∧ R 16 0 = t := by
  obtain ⟨R, r, σ2, q, x, y, iv, z⟩ := th
  exact ⟨R, r, σ2, q, xc_fr x (frM q (rk_m vs)), y, iv, z⟩
def OpR (l : Launch) (D : va_G) (tys : List (ClassId × FieldType)) (A : Nat → Prop) (ad adV : Nat → Nat) (cI cZ cJ : ClassId) (qo : Nat) (yl : MethodName) (wl : List Cond) (jm : Nat) (vs : List Int32) (L : Int32 → Int64) (c : Nat) (σ : xS) (f : Nat → Int64) : Prop := ∃ (t : Nat) (σ1 : xS) (f1 : Nat → Int64) (r2 : Int32) (σ2 : xS) (R : aS) (d2 : Nat), t < 3 ∧ Met l yl wl hl_rm (hl_P D tys A ad adV cI cZ qo cJ (.ref (ad 0) :: (vs.map Value.int ++ [.ref qo])) σ f) (hl_Q D A ad cI cZ qo cJ (nI t) σ1 f1) 1 6 (hl_A A qo) ∧ x_M d2 jm (.ref 19 :: vs.map Value.int) σ1 = some (r2, σ2) ∧ XC R σ2 ∧ XM R σ2 ∧ Iv (c + 1) R ∧ R 16 0 = t ∧ (t = 0 → f1 0 = L r2)
abbrev L_i : Int32 → Int64 := fun r => r.toInt64
abbrev L_b : Int32 → Int64 := fun r => if r = 0 then 0 else 1
theorem upd0 (f : Nat → Int64) (x : Int64) : vp_updL f 0 x 0 = x := by unfold vp_updL; rw [if_pos rfl]
section OPR
theorem m0_no {v : Int32} (h : v < 0 ∨ ¬ v ≤ 255) (σ : xS) : x_M 1 0 [.int v] σ = some ((0 : Int32), σ) := by
  rw [m0]
  by_cases g : v < 0
  · rw [if_pos g]
  · rw [if_neg g, if_pos (Int32.not_le.mp (h.resolve_left g))]
theorem m0_yes {v : Nat} (h : v < 256) (σ : xS) : x_M 1 0 [.int (nI v)] σ = some ((1 : Int32), σ) := by
  rw [m0, if_neg (nI_pos (by omega)), if_neg (by exact fun z => absurd ((nI_ltI (a := 255) (by omega) (by omega)).mp z) (by omega))]
theorem m96_no {v : Int32} (h : v < 0 ∨ ¬ v ≤ 511) (σ : xS) : x_M 1 96 [.int v] σ = some ((0 : Int32), σ) := by
  rw [m96]
  by_cases g : v < 0
  · rw [if_pos g]
  · obtain ⟨w, hw, rfl⟩ := nI_of g
    rw [if_neg g, if_pos (show (512 : Int32) ≤ nI w from (nI_leI (a := 512) (by omega) (by omega)).mpr (by
      have := h.resolve_left g
      have : ¬ w ≤ 511 := fun z => this ((nI_leI (b := 511) (by omega) (by omega)).mpr z)
      omega))]
theorem m96_yes {v : Nat} (h : v < 512) (σ : xS) : x_M 1 96 [.int (nI v)] σ = some ((1 : Int32), σ) := by
  rw [m96, if_neg (nI_pos (by omega)), if_neg (show ¬ (512 : Int32) ≤ nI v from n_ge (c := 512) h (by decide))]
theorem by_nat {v M : Int32} {n : Nat} (hM : M.toInt = n) (h : ¬ (v < 0 ∨ ¬ v ≤ M)) : ∃ w : Nat, w ≤ n ∧ v = nI w := nI_of2 hM (fun z => h (Or.inl z)) (Decidable.byContradiction (fun z => h (Or.inr z)))
theorem op_key {l : Launch} (hlt : l.stackTraces = false) {D : va_G} {tys : List (ClassId × FieldType)} {A : Nat → Prop} {ad adV : Nat → Nat} {cI cZ cJ : ClassId} (hD : ∀ σ : xS, va_D A (x_w ad cI cZ x_sh σ)) {t1 t2 t3 : Nat} (ht1 : tys[t1]? = some (cI, .int)) (ht2 : tys[t2]? = some (cZ, .boolean)) (ht3 : tys[t3]? = some (cJ, .long)) {qo : Nat} (hq : ¬ A qo) {σ : xS} {f : Nat → Int64} {A9 : aS} {c : Nat} (h : XC A9 σ) (k : XM A9 σ) (iv : Iv c A9) (v1 : Int32) : OpR l D tys A ad adV cI cZ cJ qo yL_key wl_key 106 [v1] L_i c σ f := by
  by_cases g : v1 < 0 ∨ ¬ v1 ≤ 255
  · obtain ⟨R, r, σ2, q, x, y, i, z⟩ := law_thr (vs := [v1]) (key_no1 0 h k iv g)
    exact ⟨1, σ, f, r, σ2, R, 2, by decide, hl_key_t1 hD ht1 ht2 ht3 hq (th_key1 hlt hD ht1 ht2 (m0_no g σ)), q, x, y, i, z, fun e => absurd e (by decide)⟩
  · obtain ⟨w, hw, rfl⟩ := by_nat (n := 255) (by decide) g
    by_cases g4 : A9 4 2 = 40
    · obtain ⟨R, r, σ2, q, x, y, i, z⟩ := law_thr (vs := [nI w]) (key_no2 0 h k iv (nI_pos (by omega)) ((nI_leI (b := 255) (by omega) (by omega)).mpr hw) g4)
      exact ⟨2, σ, f, r, σ2, R, 2, by decide, hl_key_t2 hD ht1 ht2 ht3 hq (th_key2 hlt hD ht1 ht2 (m0_yes (by omega) σ) (by rw [m1, if_pos (by rw [xv_cnt h, g4]; rfl)])), q, x, y, i, z, fun e => absurd e (by decide)⟩
    · obtain ⟨r, R, σ1, σ2, q1, q2, x, y, i, z⟩ := law_same (d := 0) (vs := [nI w]) k (fun τ kt => key_yes 0 h kt iv (by omega) g4)
      exact ⟨0, σ1, _, r, σ2, R, 2, by decide, hl_key hD ht1 ht2 ht3 hq q1, q2, x, y, i, z, fun _ => upd0 f _⟩
theorem op_peek {l : Launch} (hlt : l.stackTraces = false) {D : va_G} {tys : List (ClassId × FieldType)} {A : Nat → Prop} {ad adV : Nat → Nat} {cI cZ cJ : ClassId} (hD : ∀ σ : xS, va_D A (x_w ad cI cZ x_sh σ)) {t1 t2 t3 : Nat} (ht1 : tys[t1]? = some (cI, .int)) (ht2 : tys[t2]? = some (cZ, .boolean)) (ht3 : tys[t3]? = some (cJ, .long)) {qo : Nat} (hq : ¬ A qo) {σ : xS} {f : Nat → Int64} {A9 : aS} {c : Nat} (h : XC A9 σ) (k : XM A9 σ) (iv : Iv c A9) (v1 : Int32) : OpR l D tys A ad adV cI cZ cJ qo yl_peek wl_peek 164 [v1] L_i c σ f := by
  by_cases g : v1 < 0 ∨ ¬ v1 ≤ 511
  · obtain ⟨R, r, σ2, q, x, y, i, z⟩ := law_thr (vs := [v1]) (peek_no 0 h k iv g)
    exact ⟨1, σ, f, r, σ2, R, 2, by decide, hl_peek_t1 hD ht1 ht2 ht3 hq (th_peek hlt hD ht1 ht2 (m96_no g σ)), q, x, y, i, z, fun e => absurd e (by decide)⟩
  · obtain ⟨w, hw, rfl⟩ := by_nat (n := 511) (by decide) g
    obtain ⟨r, R, σ1, σ2, q1, q2, x, y, i, z⟩ := law_same (d := 0) (vs := [nI w]) k (fun τ kt => peek_yes 0 h kt iv (by omega))
    exact ⟨0, σ1, _, r, σ2, R, 2, by decide, hl_peek hD ht1 ht2 ht3 hq q1, q2, x, y, i, z, fun _ => upd0 f _⟩
theorem op_poke {l : Launch} (hlt : l.stackTraces = false) {D : va_G} {tys : List (ClassId × FieldType)} {A : Nat → Prop} {ad adV : Nat → Nat} {cI cZ cJ : ClassId} (hD : ∀ σ : xS, va_D A (x_w ad cI cZ x_sh σ)) {t1 t2 t3 : Nat} (ht1 : tys[t1]? = some (cI, .int)) (ht2 : tys[t2]? = some (cZ, .boolean)) (ht3 : tys[t3]? = some (cJ, .long)) {qo : Nat} (hq : ¬ A qo) {σ : xS} {f : Nat → Int64} {A9 : aS} {c : Nat} (h : XC A9 σ) (k : XM A9 σ) (iv : Iv c A9) (v1 v2 : Int32) : OpR l D tys A ad adV cI cZ cJ qo yl_poke wl_poke 163 [v1, v2] L_b c σ f := by
  by_cases g : v1 < 0 ∨ ¬ v1 ≤ 511
  · obtain ⟨R, r, σ2, q, x, y, i, z⟩ := law_thr (vs := [v1, v2]) (poke_no 0 h k iv (v := v1) (w := v2) (g.elim Or.inl (fun z => Or.inr (Or.inl z))))
    exact ⟨1, σ, f, r, σ2, R, 2, by decide, hl_poke_t1 hD ht1 ht2 ht3 hq (th_poke1 hlt hD ht1 ht2 (m96_no g σ)), q, x, y, i, z, fun e => absurd e (by decide)⟩
  · obtain ⟨w, hw, rfl⟩ := by_nat (n := 511) (by decide) g
    by_cases g2 : v2 < 0 ∨ ¬ v2 ≤ 255
    · obtain ⟨R, r, σ2, q, x, y, i, z⟩ := law_thr (vs := [nI w, v2]) (poke_no 0 h k iv (v := nI w) (w := v2) (Or.inr (Or.inr g2)))
      exact ⟨1, σ, f, r, σ2, R, 2, by decide, hl_poke_t1 hD ht1 ht2 ht3 hq (th_poke2 hlt hD ht1 ht2 (m96_yes (by omega) σ) (m0_no g2 σ)), q, x, y, i, z, fun e => absurd e (by decide)⟩
    · obtain ⟨w2, hw2, rfl⟩ := by_nat (n := 255) (by decide) g2
      obtain ⟨r, R, σ1, σ2, q1, q2, x, y, i, z⟩ := law_same (d := 0) (vs := [nI w, nI w2]) k (fun τ kt => poke_yes 0 h kt iv (by omega) (by omega))
      exact ⟨0, σ1, _, r, σ2, R, 2, by decide, hl_poke hD ht1 ht2 ht3 hq q1, q2, x, y, i, z, fun _ => upd0 f _⟩
theorem plc_nat {v w : Int32} (h : plc v w = true) : ∃ a b : Nat, a < 32 ∧ b < 16 ∧ v = nI a ∧ w = nI b := by
  obtain ⟨h1, h2, h3, h4⟩ := of_decide_eq_true h
  obtain ⟨a, ha, rfl⟩ := nI_of2 (M := 31) (n := 31) (by decide) h1 (Int32.not_lt.mp h2)
  obtain ⟨b, hb, rfl⟩ := nI_of2 (M := 15) (n := 15) (by decide) h3 (Int32.not_lt.mp h4)
  exact ⟨a, b, by omega, by omega, rfl, rfl⟩
theorem byt_nat {v : Int32} (h : byt v = true) : ∃ a : Nat, a < 256 ∧ v = nI a := by
  obtain ⟨h1, h2⟩ := of_decide_eq_true h
  obtain ⟨a, ha, rfl⟩ := nI_of2 (M := 255) (n := 255) (by decide) h1 (Int32.not_lt.mp h2)
  exact ⟨a, by omega, rfl⟩
theorem m99_no {v w : Int32} (h : plc v w = false) (σ : xS) : x_M 1 99 [.int v, .int w] σ = some ((0 : Int32), σ) := by
  have h := of_decide_eq_false h
  rw [m99]
  by_cases g : v < 0
  · rw [if_pos g]
  · rw [if_neg g]
    by_cases g2 : (32 : Int32) ≤ v
    · rw [if_pos g2]
    · rw [if_neg g2]
      by_cases g3 : w < 0
      · rw [if_pos g3]
      · rw [if_neg g3]
        by_cases g4 : (16 : Int32) ≤ w
        · rw [if_pos g4]
        · obtain ⟨a, ha, rfl⟩ := nI_of g
          obtain ⟨b, hb, rfl⟩ := nI_of g3
          exact absurd ⟨g, fun z => g2 ((nI_leI (a := 32) (by omega) (by omega)).mpr (by have := (nI_ltI (a := 31) (by omega) (by omega)).mp z; omega)), g3, fun z => g4 ((nI_leI (a := 16) (by omega) (by omega)).mpr (by have := (nI_ltI (a := 15) (by omega) (by omega)).mp z; omega))⟩ h
theorem m0_byt {v : Int32} (h : byt v = false) (σ : xS) : x_M 1 0 [.int v] σ = some ((0 : Int32), σ) := by
  have h := of_decide_eq_false h
  rw [m0]
  by_cases g : v < 0
  · rw [if_pos g]
  · by_cases g2 : (255 : Int32) < v
    · rw [if_neg g, if_pos g2]
    · exact absurd ⟨g, g2⟩ h
theorem op_disk {l : Launch} (hlt : l.stackTraces = false) {D : va_G} {tys : List (ClassId × FieldType)} {A : Nat → Prop} {ad adV : Nat → Nat} {cI cZ cJ : ClassId} (hD : ∀ σ : xS, va_D A (x_w ad cI cZ x_sh σ)) {t1 t2 t3 : Nat} (ht1 : tys[t1]? = some (cI, .int)) (ht2 : tys[t2]? = some (cZ, .boolean)) (ht3 : tys[t3]? = some (cJ, .long)) {qo : Nat} (hq : ¬ A qo) {σ : xS} {f : Nat → Int64} {A9 : aS} {c : Nat} (h : XC A9 σ) (k : XM A9 σ) (iv : Iv c A9) (v1 v2 : Int32) : OpR l D tys A ad adV cI cZ cJ qo yl_disk wl_disk 166 [v1, v2] L_i c σ f := by
  cases g : plc v1 v2
  · obtain ⟨R, r, σ2, q, x, y, i, z⟩ := law_thr (vs := [v1, v2]) (disk_no 0 h k iv g)
    exact ⟨1, σ, f, r, σ2, R, 2, by decide, hl_disk_t1 hD ht1 ht2 ht3 hq (th_disk hlt hD ht1 ht2 (m99_no g σ)), q, x, y, i, z, fun e => absurd e (by decide)⟩
  · obtain ⟨a, b, ha, hb, rfl, rfl⟩ := plc_nat g
    obtain ⟨r, R, σ1, σ2, q1, q2, x, y, i, z⟩ := law_same (d := 0) (vs := [nI a, nI b]) k (fun τ kt => disk_yes 0 h kt iv ha hb)
    exact ⟨0, σ1, _, r, σ2, R, 2, by decide, hl_disk hD ht1 ht2 ht3 hq q1, q2, x, y, i, z, fun _ => upd0 f _⟩
theorem op_burn {l : Launch} (hlt : l.stackTraces = false) {D : va_G} {tys : List (ClassId × FieldType)} {A : Nat → Prop} {ad adV : Nat → Nat} {cI cZ cJ : ClassId} (hD : ∀ σ : xS, va_D A (x_w ad cI cZ x_sh σ)) {t1 t2 t3 : Nat} (ht1 : tys[t1]? = some (cI, .int)) (ht2 : tys[t2]? = some (cZ, .boolean)) (ht3 : tys[t3]? = some (cJ, .long)) {qo : Nat} (hq : ¬ A qo) {σ : xS} {f : Nat → Int64} {A9 : aS} {c : Nat} (h : XC A9 σ) (k : XM A9 σ) (iv : Iv c A9) (v1 v2 v3 : Int32) : OpR l D tys A ad adV cI cZ cJ qo yl_burn wl_burn 167 [v1, v2, v3] L_b c σ f := by
  cases g : plc v1 v2
  · obtain ⟨R, r, σ2, q, x, y, i, z⟩ := law_thr (vs := [v1, v2, v3]) (burn_no 0 h k iv (Or.inl g))
    exact ⟨1, σ, f, r, σ2, R, 2, by decide, hl_burn_t1 hD ht1 ht2 ht3 hq (th_burn1 hlt hD ht1 ht2 (m99_no g σ)), q, x, y, i, z, fun e => absurd e (by decide)⟩
  · obtain ⟨a, b, ha, hb, rfl, rfl⟩ := plc_nat g
    cases g2 : byt v3
    · obtain ⟨R, r, σ2, q, x, y, i, z⟩ := law_thr (vs := [nI a, nI b, v3]) (burn_no 0 h k iv (Or.inr g2))
      exact ⟨1, σ, f, r, σ2, R, 2, by decide, hl_burn_t1 hD ht1 ht2 ht3 hq (th_burn2 hlt hD ht1 ht2 (c_plc 0 ha hb σ) (m0_byt g2 σ)), q, x, y, i, z, fun e => absurd e (by decide)⟩
    · obtain ⟨u, hu, rfl⟩ := byt_nat g2
      obtain ⟨r, R, σ1, σ2, q1, q2, x, y, i, z⟩ := law_same (d := 0) (vs := [nI a, nI b, nI u]) k (fun τ kt => burn_yes 0 h kt iv ha hb hu)
      exact ⟨0, σ1, _, r, σ2, R, 2, by decide, hl_burn hD ht1 ht2 ht3 hq q1, q2, x, y, i, z, fun _ => upd0 f _⟩
theorem op_run {l : Launch} (hlt : l.stackTraces = false) {D : va_G} {tys : List (ClassId × FieldType)} {A : Nat → Prop} {ad adV : Nat → Nat} {cI cZ cJ : ClassId} (hD : ∀ σ : xS, va_D A (x_w ad cI cZ x_sh σ)) {t1 t2 t3 : Nat} (ht1 : tys[t1]? = some (cI, .int)) (ht2 : tys[t2]? = some (cZ, .boolean)) (ht3 : tys[t3]? = some (cJ, .long)) {qo : Nat} (hq : ¬ A qo) {σ : xS} {f : Nat → Int64} {A9 : aS} {c : Nat} (h : XC A9 σ) (k : XM A9 σ) (iv : Iv c A9) (hc : c ≤ 600) (v1 : Int32) : OpR l D tys A ad adV cI cZ cJ qo yl_run wl_run 161 [v1] L_i c σ f := by
  by_cases g : v1 < 1
  · obtain ⟨R, r, σ2, q, x, y, i, z⟩ := run_no 0 h k iv (v := v1) (Or.inl g)
    exact ⟨1, σ, f, r, σ2, R, 1, by decide, hl_run_t1 hD ht1 ht2 ht3 hq (th_run1 hlt hD ht1 ht2 g), q, xc_fr x (frM q (rk_m [v1])), y, i, z, fun e => absurd e (by decide)⟩
  · by_cases g2 : v1 ≤ 1000
    · have g0 : ¬ v1 < 0 := fun z => g (Int32.lt_trans z (by decide))
      obtain ⟨N, hN, rfl⟩ := nI_of2 (M := 1000) (n := 1000) (by decide) g0 g2
      have h1 : 1 ≤ N := by
        by_cases e : N = 0
        · exact absurd (show nI N < 1 by rw [e]; decide) g
        · omega
      obtain ⟨r, R0, σ1, τ0, hr, q1, -⟩ := run_ok 0 h k iv hc h1 hN
      have k1 := xm_fr k (frC q1 (rk_c [nI N]))
      obtain ⟨r', R, σ1', σ2, hr', q1', q2, x, y, i, z⟩ := run_ok 0 h k1 iv hc h1 hN
      have e1 := q1.symm.trans q1'
      rw [Option.some.injEq, Prod.mk.injEq] at e1
      obtain ⟨e1, rfl⟩ := e1
      rw [← e1] at q2
      exact ⟨0, σ1, _, nI r, σ2, R, 11, by decide, hl_run hD ht1 ht2 ht3 hq q1, q2, xc_fr x (frM q2 (rk_m [nI N])), y, i, z, fun _ => upd0 f _⟩
    · obtain ⟨R, r, σ2, q, x, y, i, z⟩ := run_no 0 h k iv (v := v1) (Or.inr g2)
      exact ⟨1, σ, f, r, σ2, R, 1, by decide, hl_run_t1 hD ht1 ht2 ht3 hq (th_run2 hlt hD ht1 ht2 g g2), q, xc_fr x (frM q (rk_m [v1])), y, i, z, fun e => absurd e (by decide)⟩
end OPR
