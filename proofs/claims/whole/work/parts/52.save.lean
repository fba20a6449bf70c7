/-! The commands: save, load -/
def svN (C : aS) (e i : Nat) : aS := a_up (a_up (aWr C (aFB0 C) (256 + 16 * i) 0) 1 (16 * e + (6 + i)) (aFB0 C)) 1 (16 * e + 5) (i + 1)
def svS (e c : Nat) : Nat → aS → aS
  | 0, C => C
  | m + 1, C => if aFB0 C < 32 then svS e c m (svN C e (c - (m + 1))) else C
def svB (e c : Nat) : Nat → aS → Bool
  | 0, _ => true
  | m + 1, C => if aFB0 C < 32 then svB e c m (svN C e (c - (m + 1))) else false
theorem svN_row (C : aS) (e i : Nat) {o : Nat} (h : ¬ o = 1) : svN C e i o = C o := by
  unfold svN
  rw [a_row h, a_row h, aWr_row _ _ _ _ h]
theorem svS_row (e c : Nat) {o : Nat} (h : ¬ o = 1) : ∀ m (C : aS), svS e c m C o = C o
  | 0, _ => rfl
  | m + 1, C => by
    rw [svS]
    split
    · rw [svS_row e c h m, svN_row _ _ _ h]
    · rfl
theorem aFB0_lt (C : aS) : aFB0 C = 4294967295 ∨ (8 ≤ aFB0 C ∧ aFB0 C < 32) := aLu_lt _ 24 (Nat.le_refl _)
theorem svN_eq {C : aS} {b a p q v : Nat} (hb : 8 ≤ b) (hp : p < 128) (hq : q < 128) : aWr (a_up (a_up C 1 p b) 1 q v) b a 0 = a_up (a_up (aWr C b a 0) 1 p b) 1 q v := by
  funext o k
  unfold aWr
  rw [a_row (a := 0) (by decide), a_row (a := 0) (by decide), aLq_v _ 1 (16 * b) _ (by omega)]
  by_cases c : o = 1 ∧ 16 * b + 0 ≤ k ∧ k < 16 * b + 16
  · rw [if_pos c, a_ne (by omega), a_ne (by omega), aLq_v _ 1 (16 * b) _ (by omega), if_pos c]
  · rw [if_neg c]
    simp only [a_up]
    rw [aLq_v _ 1 (16 * b) _ (by omega), if_neg c]
section SV
variable (d : Nat)
theorem c_sv {e c : Nat} (he : e < 8) (hc : c ≤ 9) : ∀ m, m ≤ c → ∀ (C : aS) (σ : xS) (n : Nat), XC C σ → m < n → ∃ σ', xr x_i35 (d + 2) n 2 [(0, .ref 14), (1, .int (nI e)), (2, .int (nI c)), (3, .int (nI (c - m)))] [] σ = some (nI (bN (svB e c m C)), σ') ∧ XC (svS e c m C) σ' := by
  intro m
  induction m with
  | zero =>
    intro _ C σ n h hn
    obtain ⟨n, rfl⟩ : ∃ q, n = q + 1 := ⟨n - 1, by omega⟩
    rw [c35_2, if_pos (by exact (nI_leI (by omega) (by omega)).mpr (by omega))]
    exact ⟨σ, rfl, h⟩
  | succ m ih =>
    intro hm C σ n h hn
    obtain ⟨n, rfl⟩ : ∃ q, n = q + 1 := ⟨n - 1, by omega⟩
    have e2 : c - (m + 1) + 1 = c - m := by omega
    obtain ⟨σ1, q1, h1, t1⟩ := c_marks d h
    have q2 : x_M (d + 2) 32 [.ref 5] σ1 = some (nI (aFB0 C), σ1) := c_least (d + 1) t1
    rw [c35_2, if_neg (by exact n_ge (by omega) (by omega)), q1, bnd0, svB, svS]
    dsimp only
    rw [q2, bnd0]
    dsimp only
    rcases aFB0_lt C with g | g
    · rw [g, if_pos (show nI 4294967295 = (-1 : Int32) from rfl), if_neg (by decide), if_neg (by decide)]
      exact ⟨σ1, rfl, h1⟩
    · obtain ⟨σ2, q3, h2⟩ := c_write d h1 (b := aFB0 C) (a := 256 + 16 * (c - (m + 1))) (by omega) (by omega)
      obtain ⟨σ3, q4, h3⟩ := c_dput (d + 1) h2 (b := e) (i := 6 + (c - (m + 1))) (v := aFB0 C) (by omega) (by omega) (by omega)
      obtain ⟨σ4, q5, h4⟩ := c_dput (d + 1) h3 (b := e) (i := 5) (v := c - (m + 1) + 1) (by omega) (by omega) (by omega)
      obtain ⟨σ5, q6, h5⟩ := ih (by omega) (svN C e (c - (m + 1))) σ4 n h4 (by omega)
      rw [if_neg (by exact n_m1 (by omega)), if_pos g.2, if_pos g.2, y_16, show (256 : Int32) = nI 256 from rfl, nI_add, q3, bnd0]
      dsimp only
      rw [show (6 : Int32) = nI 6 from rfl, nI_add, q4, bnd0]
      dsimp only
      rw [show (1 : Int32) = nI 1 from rfl, nI_add, show (5 : Int32) = nI 5 from rfl, q5, bnd0]
      dsimp only
      rw [e2]
      exact ⟨σ5, q6, h5⟩
theorem y_sv {e c : Nat} (he : e < 8) (hc : c ≤ 9) : ∀ m, m ≤ c → ∀ (C : aS) (σ : xS) (n : Nat), XM C σ → 20 * m < n → ∃ σ', xr x_i124 (d + 3) n 39 [(0, .ref 19), (1, .int (nI c)), (3, .int (nI e)), (4, .int (nI (c - m)))] [] σ = some (nI (bN (svB e c m C)), σ') ∧ XM (svS e c m C) σ' := by
  intro m
  induction m with
  | zero =>
    intro _ C σ n h hn
    obtain ⟨n, rfl⟩ : ∃ q, n = q + 1 := ⟨n - 1, by omega⟩
    rw [c124_39, if_pos (by exact (nI_leI (by omega) (by omega)).mpr (by omega))]
    exact ⟨σ, rfl, h⟩
  | succ m ih =>
    intro hm C σ n h hn
    obtain ⟨n, rfl⟩ : ∃ q, n = q + 1 + 16 + 1 := ⟨n - 18, by omega⟩
    have e2 : c - (m + 1) + 1 = c - m := by omega
    rw [c124_39, if_neg (by exact n_ge (by omega) (by omega)), y_freeN d h, bnd0, svB, svS]
    dsimp only
    rcases aFB0_lt C with g | g
    · rw [g, if_pos (show nI 4294967295 = (-1 : Int32) from rfl), if_neg (by decide), if_neg (by decide)]
      exact ⟨σ, rfl, h⟩
    · have s1 : XM (a_up C 1 (16 * e + (6 + (c - (m + 1)))) (aFB0 C)) (x_up σ 21 (16 * e + (6 + (c - (m + 1)))) (nI (aFB0 C))) := xm_up h 1 (16 * e + (6 + (c - (m + 1)))) (show 16 * e + (6 + (c - (m + 1))) < 512 by omega) (show aFB0 C < 256 by omega)
      have s2 : XM (a_up (a_up C 1 (16 * e + (6 + (c - (m + 1)))) (aFB0 C)) 1 (16 * e + 5) (c - (m + 1) + 1)) (x_up (x_up σ 21 (16 * e + (6 + (c - (m + 1)))) (nI (aFB0 C))) 21 (16 * e + 5) (nI (c - (m + 1) + 1))) := xm_up s1 1 (16 * e + 5) (show 16 * e + 5 < 512 by omega) (show c - (m + 1) + 1 < 256 by omega)
      have ew := svN_eq (C := C) (b := aFB0 C) (a := 256 + 16 * (c - (m + 1))) (p := 16 * e + (6 + (c - (m + 1)))) (q := 16 * e + 5) (v := c - (m + 1) + 1) g.1 (by omega) (by omega)
      generalize a_up (a_up C 1 (16 * e + (6 + (c - (m + 1)))) (aFB0 C)) 1 (16 * e + 5) (c - (m + 1) + 1) = D at s2 ew
      obtain ⟨σ1, q1, h1⟩ := loopX (X := XM) (F := fun n i σ => xr x_i124 (d + 3) n 95 [(0, .ref 19), (1, .int (nI c)), (3, .int (nI e)), (4, .int (nI (c - (m + 1)))), (5, .int (nI (aFB0 C))), (6, .int (nI i))] [] σ) (S := fun i => aLq D 1 (fun i => 16 * aFB0 C + i) (fun i => D 0 ((256 + 16 * (c - (m + 1)) + i) % 512)) 0 i) 0 16 (by
        intro n i σ hl hi h
        obtain ⟨q1, h2⟩ := y_m2d (d + 2) (b := aFB0 C) (a := 256 + 16 * (c - (m + 1))) g.2 (by omega) hl hi h
        refine ⟨_, ?_, h2⟩
        rw [c124_95, if_neg (by exact n_ge hi (by decide)), y_16, show (256 : Int32) = nI 256 from rfl, nI_add, nI_add, q1, bnd0]
        dsimp only
        rw [y_16i, if_neg (n_ok (by omega) (by decide)), n_cl (by omega), show (1 : Int32) = nI 1 from rfl, nI_add]) 16 0 (n + 1) _ (by omega) (by omega) (by rw [aLq_s]; exact s2)
      have h1 : XM (svN C e (c - (m + 1))) σ1 := by
        have h1 : XM (aWr D (aFB0 C) (256 + 16 * (c - (m + 1))) 0) σ1 := h1
        rw [ew] at h1
        exact h1
      obtain ⟨σ5, q6, h5⟩ := ih (by omega) (svN C e (c - (m + 1))) σ1 n h1 (by omega)
      rw [if_neg (by exact n_m1 (by omega)), if_pos g.2, if_pos g.2, show (6 : Int32) = nI 6 from rfl, y_16i, nI_add, Nat.add_assoc (16 * e), if_neg (n_ok (by omega) (by decide)), show (5 : Int32) = nI 5 from rfl, y_16i, if_neg (n_ok (by omega) (by decide)), n_cl (by omega), n_cl (by omega), show (1 : Int32) = nI 1 from rfl, nI_add]
      refine ⟨σ5, q1.trans ((c124_95 (d + 3) n _ _ _ _ _ _).trans ?_), h5⟩
      rw [if_pos (by decide), show (1 : Int32) = nI 1 from rfl, nI_add, e2]
      exact q6
def svO (N : Nat → Nat) (C : aS) : aS := if aFd N C 0 8 < 8 then a_up C 1 (16 * aFd N C 0 8) 229 else C
def svR (N : Nat → Nat) (D : aS) (c : Nat) : aS := if aFF D 8 < 8 then svS (aFF D 8) c c (aMake N D) else aMake N D
def svA (N : Nat → Nat) (D : aS) (c : Nat) : Bool := if aFF D 8 < 8 then svB (aFF D 8) c c (aMake N D) else false
theorem svO_row (N : Nat → Nat) (C : aS) {o : Nat} (h : ¬ o = 1) : svO N C o = C o := by
  unfold svO
  split
  · rw [a_row h]
  · rfl
theorem aMake_row (N : Nat → Nat) (C : aS) {o : Nat} (h : ¬ o = 1) : aMake N C o = C o := by
  unfold aMake
  split
  · rw [aMk_row _ _ _ h]
  · rfl
theorem svR_row (N : Nat → Nat) (C : aS) (c : Nat) {o : Nat} (h : ¬ o = 1) : svR N C c o = C o := by
  unfold svR
  split
  · rw [svS_row _ _ h, aMake_row _ _ h]
  · rw [aMake_row _ _ h]
theorem c_mks {D : aS} {σ : xS} {N : Nat → Nat} (h : XC D σ) (hN : D 11 = N) {c : Nat} (hc : c ≤ 9) : ∃ σ', ((x_M (d + 3) 29 [.ref 5, .ref 18] σ).bind fun r2 => (if r2.1 = (-1 : Int32) then some ((0 : Int32), r2.2) else ((x_M (d + 3) 35 [.ref 14, .int r2.1, .int (nI c)] r2.2).bind fun r3 => (if r3.1 = 0 then some ((0 : Int32), r3.2) else some ((1 : Int32), r3.2))))) = some (nI (bN (svA N D c)), σ') ∧ XC (svR N D c) σ' := by
  obtain ⟨σ1, q1, h1⟩ := c_make18 d h
  rw [hN] at h1
  unfold svA svR
  rw [q1, bnd0]
  dsimp only
  rcases aFF_lt D 8 (by omega) with g | g
  · rw [g, if_pos (show nI 4294967295 = (-1 : Int32) from rfl), if_neg (by decide), if_neg (by decide)]
    exact ⟨σ1, rfl, h1⟩
  · obtain ⟨σ2, q2, h2⟩ := c_sv d g hc c (Nat.le_refl _) (aMake N D) σ1 4999 h1 (by omega)
    rw [Nat.sub_self] at q2
    rw [if_neg (by exact n_m1 (by omega)), if_pos g, if_pos g, m35, show (0 : Int32) = nI 0 from rfl, q2, bnd0]
    dsimp only
    refine ⟨σ2, ?_, h2⟩
    cases svB (aFF D 8) c c (aMake N D)
    · rw [if_pos (show nI (bN false) = nI 0 from rfl)]
      rfl
    · rw [if_neg (show ¬ nI (bN true) = nI 0 by decide)]
      rfl
theorem y_mks {D : aS} {σ : xS} {N : Nat → Nat} (h : XM D σ) (hN : D 12 = N) {c : Nat} (hc : c ≤ 9) : ∃ σ', ((x_M (d + 3) 119 [.ref 19] σ).bind fun r2 => (if r2.1 = (-1 : Int32) then some ((0 : Int32), r2.2) else xr x_i124 (d + 3) 4999 39 [(0, .ref 19), (1, .int (nI c)), (3, .int r2.1), (4, .int (0 : Int32))] [] r2.2)) = some (nI (bN (svA N D c)), σ') ∧ XM (svR N D c) σ' := by
  obtain ⟨σ1, q1, h1⟩ := y_makes d h
  rw [hN] at h1
  unfold svA svR
  rw [q1, bnd0]
  dsimp only
  rcases aFF_lt D 8 (by omega) with g | g
  · rw [g, if_pos (show nI 4294967295 = (-1 : Int32) from rfl), if_neg (by decide), if_neg (by decide)]
    exact ⟨σ1, rfl, h1⟩
  · obtain ⟨σ2, q2, h2⟩ := y_sv d g hc c (Nat.le_refl _) (aMake N D) σ1 4999 h1 (by omega)
    rw [Nat.sub_self] at q2
    rw [if_neg (by exact n_m1 (by omega)), if_pos g, if_pos g]
    exact ⟨σ2, q2, h2⟩
/-- the model's saves -/
theorem y_saves {C : aS} {σ : xS} {N : Nat → Nat} (h : XM C σ) (hN : C 12 = N) {c : Nat} (hc : c ≤ 9) : ∃ σ', x_M (d + 4) 124 [.ref 19, .int (nI c)] σ = some (nI (bN (svA N (svO N C) c)), σ') ∧ XM (svR N (svO N C) c) σ' := by
  have q : x_M (d + 3) 116 [.ref 19, .int (0 : Int32), .int (0 : Int32)] σ = some (nI (aFd N C 0 8), σ) := by
    have q := y_find (d + 1) h (f := 0) (a := 0) (by decide) (by decide)
    rw [hN] at q
    exact q
  rw [m124, q, bnd0]
  dsimp only
  unfold svO
  rcases aFd_lt N C 0 8 (by omega) with g | g
  · rw [g, if_pos (show nI 4294967295 = (-1 : Int32) from rfl), if_neg (by decide)]
    exact y_mks d h hN hc
  · have s1 : XM (a_up C 1 (16 * aFd N C 0 8) 229) (x_up σ 21 (16 * aFd N C 0 8) (nI 229)) := xm_up h 1 (16 * aFd N C 0 8) (show 16 * aFd N C 0 8 < 512 by omega) (show 229 < 256 by decide)
    rw [if_neg (by exact n_m1 (by omega)), if_pos g, y_16, if_neg (n_ok (by omega) (by decide)), n_cl (by omega)]
    exact y_mks d s1 (by rw [a_row (by decide)]; exact hN) hc
/-- the class's part after findFile -/
theorem c_saves {C : aS} {σ : xS} {N : Nat → Nat} (h : XC C σ) (hN : C 11 = N) {c : Nat} (hc : c ≤ 9) : ∃ σ', (if nI (aFd N C 0 8) = (-1 : Int32) then ((x_M (d + 3) 29 [.ref 5, .ref 18] σ).bind fun r2 => (if r2.1 = (-1 : Int32) then some ((0 : Int32), r2.2) else ((x_M (d + 3) 35 [.ref 14, .int r2.1, .int (nI c)] r2.2).bind fun r3 => (if r3.1 = 0 then some ((0 : Int32), r3.2) else some ((1 : Int32), r3.2))))) else ((x_M (d + 3) 25 [.ref 5, .int (nI (aFd N C 0 8))] σ).bind fun r4 => ((x_M (d + 3) 29 [.ref 5, .ref 18] r4.2).bind fun r5 => (if r5.1 = (-1 : Int32) then some ((0 : Int32), r5.2) else ((x_M (d + 3) 35 [.ref 14, .int r5.1, .int (nI c)] r5.2).bind fun r6 => (if r6.1 = 0 then some ((0 : Int32), r6.2) else some ((1 : Int32), r6.2))))))) = some (nI (bN (svA N (svO N C) c)), σ') ∧ XC (svR N (svO N C) c) σ' := by
  unfold svO
  rcases aFd_lt N C 0 8 (by omega) with g | g
  · rw [g, if_pos (show nI 4294967295 = (-1 : Int32) from rfl), if_neg (by decide)]
    exact c_mks d h hN hc
  · obtain ⟨σ1, q1, h1⟩ := c_dput (d + 1) h (b := aFd N C 0 8) (i := 0) (v := 229) (by omega) (by omega) (by omega)
    rw [Nat.add_zero] at h1
    have q1 : x_M (d + 2) 24 [.ref 5, .int (nI (aFd N C 0 8)), .int (0 : Int32), .int (229 : Int32)] σ = some (0, σ1) := q1
    rw [if_neg (by exact n_m1 (by omega)), if_pos g, m25, q1, bnd0, bnd0]
    dsimp only
    exact c_mks d h1 (by rw [a_row (by decide)]; exact hN) hc
theorem n_m48 : ∀ x, x < 48 → nI x - (48 : Int32) < 0 := by decide
variable {B : aS} {σ τ : xS} {l : Nat → Nat} {L : Nat}
theorem cmd_save (d2 : Nat) (h : XC B σ) (k : XM B τ) (w : Wd B l L) (h0 : wS l L 0 < L) (hl : isW l L 76 73 83 84 = false) (hw : isW l L 83 65 86 69 = true) (hp1 : wS l L 1 < L) (hp : wS l L 2 < L) : CmdR d d2 B σ τ 4 := by
  have y := y_132 d2 k w.1 w.2.1 h0 hl (isW_ex hw (by decide)) (isW_ex hw (by decide)) (isW_ex hw (by decide)) hw
  rw [decide_eq_true hp, if_neg (by simp)] at y
  have hL := w.2.2.1
  have hE := wE_le l L 1
  have hS := (p_iff l L 1 hL).mpr hp1
  obtain ⟨wa, wb⟩ := w.2.2.2.2 1 (by decide) hp1
  have v16 := xv_wst h (i := 1) (by decide)
  have v17 := xv_wen h (i := 1) (by decide)
  rw [wa] at v16
  rw [wb] at v17
  have v15 : σ 15 (wS l L 1) = nI (l (wS l L 1)) := by rw [← w.1]; exact xv_lin h (by rw [w.1]; omega)
  have lx : l (wS l L 1) < 256 := by rw [← w.1]; exact x_lin_lt h.2 (by rw [w.1]; omega)
  have ch0 : chr l L 1 0 = l (wS l L 1) := by
    unfold chr
    rw [Nat.add_zero, if_pos hS]
  have c1lt : chr l L 1 1 < 256 := by rw [← w.1]; exact chr_lt h.2 hL
  have ch1 : chr l L 1 1 = 32 ↔ wE l L 1 - wS l L 1 = 1 := by
    unfold chr
    constructor
    · intro z
      by_cases g : wS l L 1 + 1 < wE l L 1
      · rw [if_pos g] at z
        have q := (skp_in l L false 20 (wS l L 1) (wS l L 1 + 1) (by omega) g).2
        rw [decide_eq_true z] at q
        cases q
      · omega
    · intro z
      rw [if_neg (by omega)]
  obtain ⟨τ1, p1, -, k1⟩ := y_ff (d2 + 1) k w.1 w.2.1 (i := 2) (by decide)
  have p1 : x_M (d2 + 4) 115 [.ref 19, .int (2 : Int32)] τ = some (0, τ1) := p1
  have p0 : x_M (d2 + 4) 110 [.ref 19, .int (1 : Int32), .int (0 : Int32)] τ = some (nI (l (wS l L 1)), τ) := by
    have q := y_char (d2 + 2) k (w := 1) (k := 0) (by decide) (by decide)
    rw [w.1, w.2.1, ch0] at q
    exact q
  have kd := kd_nd B (fun k => chr l L 2 k)
  have w1 : Wd (aND B (fun k => chr l L 2 k)) l L := kd_Wd kd w
  have p2 : x_M (d2 + 4) 110 [.ref 19, .int (1 : Int32), .int (1 : Int32)] τ1 = some (nI (chr l L 1 1), τ1) := by
    have q := y_char (d2 + 2) k1 (w := 1) (k := 1) (by decide) (by decide)
    rw [w1.1, w1.2.1] at q
    exact q
  have r12 : WX (aSr B 12 (fun k => chr l L 2 k)) := fun o j hj => by
    have q := k1.2 o j hj
    by_cases e : o = 12
    · subst e
      rw [aND_12] at q
      rw [aSr_at]
      exact q
    · rw [aSr_r _ _ e]
      exact h.2 o j hj
  have fC : XC (aSr B 12 (fun k => chr l L 2 k)) σ := xc_congr h (fun o j hj => by
    by_cases e : o = 12
    · subst e
      exact absurd (show j < 0 from hj) (by omega)
    · rw [aSr_r _ _ e]) r12
  have fM : XM (aSr B 12 (fun k => chr l L 2 k)) τ1 := xm_congr k1 (fun o j hj => by
    by_cases e : o = 12
    · subst e
      rw [aSr_at, aND_12]
    · by_cases e2 : o = 11
      · subst e2
        exact absurd (show j < 0 from hj) (by omega)
      · rw [aSr_r _ _ e, aND_r _ _ (by omega)]) r12
  have fK : Kd 160 B (aSr B 12 (fun k => chr l L 2 k)) := kd_le (kd_of fun o ho => aSr_r _ _ (by omega)) (by decide)
  have fin : ∀ {X : Option xR}, X = some ((0 : Int32), σ) → x_M (d + 5) 40 [.ref 14, .int (nI 4)] σ = (X.bind fun r2 => (if r2.1 = 0 ∨ r2.1 = 1 then some (r2.1, r2.2) else none)) → xr x_i132 (d2 + 4) 4999 119 [(0, .ref 19), (1, .int (nI (bN false))), (2, .int (nI (bN false))), (3, .int (nI (bN false))), (4, .int (nI (bN true)))] [] τ = some ((0 : Int32), τ1) → CmdR d d2 B σ τ 4 := fun {X} e1 e2 e3 => by
    refine ⟨false, _, σ, τ1, ?_, y.trans e3, fC, fM, fK⟩
    rw [e2, e1, bnd0]
    rfl
  have m40' : x_M (d + 5) 40 [.ref 14, .int (nI 4)] σ = ((x_M (d + 4) 36 [.ref 14] σ).bind fun r2 => (if r2.1 = 0 ∨ r2.1 = 1 then some (r2.1, r2.2) else none)) := by
    rw [m40, if_neg (show ¬ nI 4 = (0 : Int32) by decide), if_neg (show ¬ nI 4 = (1 : Int32) by decide), if_neg (show ¬ nI 4 = (2 : Int32) by decide), if_neg (show ¬ nI 4 = (3 : Int32) by decide), if_pos (show nI 4 = (4 : Int32) from rfl)]
  have m36' := m36 (d + 3) σ
  rw [v16, v17, if_neg (n_ok (by omega) (by decide)), n_cl (by omega), v15, nI_sub (by omega)] at m36'
  have x119 := c132_119 (d2 + 4) 4998 (nI (bN false)) (nI (bN false)) (nI (bN false)) (nI (bN true)) τ
  rw [if_pos (show nI (bN false) = (0 : Int32) from rfl), if_neg (show ¬ nI (bN true) = (0 : Int32) by decide), p0, bnd0] at x119
  dsimp only at x119
  rw [p1, bnd0] at x119
  dsimp only at x119
  by_cases g1 : l (wS l L 1) < 48
  · rw [if_pos (n_m48 _ g1), if_pos (show (0 : Int32) = 0 from rfl)] at x119
    refine fin (X := x_M (d + 4) 36 [.ref 14] σ) ?_ m40' x119
    rw [m36', if_pos (n_m48 _ g1)]
    split <;> rfl
  · have e48 : nI (l (wS l L 1)) - (48 : Int32) = nI (l (wS l L 1) - 48) := nI_sub (b := 48) (by omega)
    rw [e48, if_neg (nI_pos (n := l (wS l L 1) - 48) (by omega))] at x119 m36'
    by_cases g9 : 9 < l (wS l L 1) - 48
    · rw [if_pos (show (9 : Int32) < nI (l (wS l L 1) - 48) from (nI_ltI (a := 9) (by omega) (by omega)).mpr g9), if_pos (show (0 : Int32) = 0 from rfl)] at x119
      refine fin (X := x_M (d + 4) 36 [.ref 14] σ) ?_ m40' x119
      rw [m36', if_neg (show ¬ nI (l (wS l L 1) - 48) ≤ (9 : Int32) from n_ge (i := 9) g9 (by omega))]
      split <;> rfl
    · rw [if_neg (show ¬ (9 : Int32) < nI (l (wS l L 1) - 48) from fun z => g9 ((nI_ltI (a := 9) (by omega) (by omega)).mp z)), p2, bnd0] at x119
      dsimp only at x119
      rw [if_pos (show nI (l (wS l L 1) - 48) ≤ (9 : Int32) from (nI_leI (b := 9) (by omega) (by omega)).mpr (by omega))] at m36'
      by_cases g2 : wE l L 1 - wS l L 1 = 1
      · obtain ⟨σ1, q1, h1⟩ := c_ff d h w (i := 2) (by decide) hp
        have q1 : x_M (d + 3) 19 [.ref 14, .int (2 : Int32)] σ = some (nI (aFd (fun k => chr l L 2 k) (aND B (fun k => chr l L 2 k)) 0 8), σ1) := q1
        obtain ⟨σ2, q2, h2⟩ := c_saves d h1 (aND_11 _ _) (c := l (wS l L 1) - 48) (by omega)
        obtain ⟨τ2, p3, k2⟩ := y_saves d2 k1 (aND_12 _ _) (c := l (wS l L 1) - 48) (by omega)
        rw [if_pos (by rw [g2]; rfl), q1, bnd0] at m36'
        dsimp only at m36'
        rw [q2] at m36'
        rw [ch1.mpr g2, if_pos (show nI 32 = (32 : Int32) from rfl), if_neg (show ¬ (1 : Int32) = 0 by decide), p3, bnd0] at x119
        dsimp only at x119
        refine ⟨svA (fun k => chr l L 2 k) (svO (fun k => chr l L 2 k) (aND B fun k => chr l L 2 k)) (l (wS l L 1) - 48), _, σ2, τ2, ?_, y.trans (x119.trans ?_), h2, by rw [show decide (4 = 5) = false from rfl, Bool.and_false, iF]; exact k2, kd_le (kd_trans kd (kd_of fun o ho => by rw [svR_row _ _ _ (by omega), svO_row _ _ (by omega)])) (by decide)⟩
        · rw [m40', m36', bnd0]
          cases svA (fun k => chr l L 2 k) (svO (fun k => chr l L 2 k) (aND B fun k => chr l L 2 k)) (l (wS l L 1) - 48) <;> rfl
        · cases svA (fun k => chr l L 2 k) (svO (fun k => chr l L 2 k) (aND B fun k => chr l L 2 k)) (l (wS l L 1) - 48) <;> rfl
      · rw [if_neg (show ¬ nI (chr l L 1 1) = (32 : Int32) from fun z => g2 (ch1.mp ((nI_eq (b := 32) (by omega) (by omega)).mp z))), if_pos (show (0 : Int32) = 0 from rfl)] at x119
        refine fin (X := x_M (d + 4) 36 [.ref 14] σ) ?_ m40' x119
        rw [m36', if_neg (show ¬ nI (wE l L 1 - wS l L 1) = (1 : Int32) from fun z => g2 ((nI_eq (b := 1) (by omega) (by omega)).mp z))]
theorem cmd_load (d2 : Nat) (h : XC B σ) (k : XM B τ) (w : Wd B l L) (h0 : wS l L 0 < L) (hl : isW l L 76 73 83 84 = false) (w1 : isW l L 83 72 79 87 = false) (w2 : isW l L 68 82 79 80 = false) (w3 : isW l L 67 65 76 76 = false) (w4 : isW l L 83 65 86 69 = false) : CmdR d d2 B σ τ 5 := by
  have y := y_132 d2 k w.1 w.2.1 h0 hl w1 w2 w3 w4
  rw [if_neg (by simp)] at y
  obtain ⟨σ1, q1, h1⟩ := c_ff d h w (i := 0) (by decide) h0
  obtain ⟨τ1, p1, p2, k1⟩ := y_ff (d2 + 1) k w.1 w.2.1 (i := 0) (by decide)
  have kd := kd_nd B (fun k => chr l L 0 k)
  have q1 : x_M (d + 3) 19 [.ref 14, .int (0 : Int32)] σ = some (nI (aFd (fun k => chr l L 0 k) (aND B (fun k => chr l L 0 k)) 0 8), σ1) := q1
  have p1 : x_M (d2 + 4) 115 [.ref 19, .int (0 : Int32)] τ = some (0, τ1) := p1
  have p2 : x_M (d2 + 4) 116 [.ref 19, .int (0 : Int32), .int (0 : Int32)] τ1 = some (nI (aFd (fun k => chr l L 0 k) (aND B (fun k => chr l L 0 k)) 0 8), τ1) := p2
  generalize aND B (fun k => chr l L 0 k) = C at q1 h1 p1 p2 k1 kd
  have fl := aFd_lt (fun k => chr l L 0 k) C 0 8 (by omega)
  generalize aFd (fun k => chr l L 0 k) C 0 8 = e at q1 p2 fl
  have x119 := c132_119 (d2 + 4) 4998 (nI (bN false)) (nI (bN false)) (nI (bN false)) (nI (bN false)) τ
  rw [if_pos (show nI (bN false) = (0 : Int32) from rfl), if_pos (show nI (bN false) = (0 : Int32) from rfl), if_pos (show nI (bN false) = (0 : Int32) from rfl), if_pos (show nI (bN false) = (0 : Int32) from rfl), p1, bnd0] at x119
  dsimp only at x119
  rw [p2, bnd0] at x119
  dsimp only at x119
  have m40' : x_M (d + 5) 40 [.ref 14, .int (nI 5)] σ = ((x_M (d + 4) 39 [.ref 14] σ).bind fun r2 => (if r2.1 = 0 ∨ r2.1 = 1 then some (r2.1, r2.2) else none)) := by
    rw [m40, if_neg (show ¬ nI 5 = (0 : Int32) by decide), if_neg (show ¬ nI 5 = (1 : Int32) by decide), if_neg (show ¬ nI 5 = (2 : Int32) by decide), if_neg (show ¬ nI 5 = (3 : Int32) by decide), if_neg (show ¬ nI 5 = (4 : Int32) by decide), if_pos (show nI 5 = (5 : Int32) from rfl)]
  rcases fl with g | g
  · subst g
    rw [if_pos (show nI 4294967295 = (-1 : Int32) from rfl)] at x119
    refine ⟨false, C, σ1, τ1, ?_, y.trans x119, h1, k1, kd_le kd (by decide)⟩
    rw [m40', m39, q1, bnd0]
    dsimp only
    rw [if_pos (show nI 4294967295 = (-1 : Int32) from rfl), bnd0]
    rfl
  · have h5 : C 1 (16 * e + 5) < 256 := x_dsk_lt h1.2 (by omega)
    obtain ⟨σ2, q2, h2⟩ := c_ld (d + 1) (D := C 1) (e := e) (c := min (C 1 (16 * e + 5)) 10) g (by omega) (min (C 1 (16 * e + 5)) 10) (Nat.le_refl _) C σ1 4999 h1 rfl (by omega)
    obtain ⟨τ2, n', hn, p3, k2⟩ := y_ld d2 (D := C 1) (e := e) (c := min (C 1 (16 * e + 5)) 10) g rfl (min (C 1 (16 * e + 5)) 10) (Nat.le_refl _) C τ1 4999 k1 rfl (by omega)
    obtain ⟨n, rfl⟩ : ∃ q, n' = q + 9 := ⟨n' - 9, by omega⟩
    obtain ⟨τ3, p4, k3⟩ := y_start d2 k2 n
    rw [Nat.sub_self] at q2 p3
    have p5 : x_M (d2 + 4) 131 [.ref 19, .int (nI e)] τ1 = some (0, τ3) := (m131 (d2 + 3) _ _).trans (p3.trans p4)
    rw [if_neg (n_m1 (by omega)), if_pos (show nI (bN false) = (0 : Int32) from rfl), if_pos (show nI (bN false) = (0 : Int32) from rfl), p5, bnd0] at x119
    dsimp only at x119
    refine ⟨true, _, σ2, τ3, ?_, y.trans x119, h2, k3, kd_le (kd_trans kd (kd_of fun o ho => ldS_row _ _ _ (by omega) _ _)) (by decide)⟩
    rw [m40', m39, q1, bnd0]
    dsimp only
    rw [if_neg (by exact n_m1 (by omega)), c_recs (d + 2) h1 g, bnd0]
    dsimp only
    rw [show (0 : Int32) = nI 0 from rfl, q2, bnd0]
    rfl
end SV
