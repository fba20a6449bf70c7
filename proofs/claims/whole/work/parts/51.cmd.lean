/-! The commands: list, show, drop, call -/
theorem tF : (nI (bN false) = (0 : Int32)) = True := eq_true rfl
theorem tT : (nI (bN true) = (0 : Int32)) = False := eq_false (by decide)
def Kd (n : Nat) (A R : aS) : Prop := (∀ o, ¬ (o = 0 ∨ o = 1 ∨ o = 4 ∨ o = 8 ∨ o = 11 ∨ o = 12) → R o = A o) ∧ (∀ k, ¬ k = 0 → R 4 k = A 4 k) ∧ R 4 0 ≤ A 4 0 + n
theorem sh_Kd {n : Nat} {A R : aS} (h : Sh n A R) : Kd n A R := ⟨fun o ho => h.1 o (by omega), h.2.1, h.2.2⟩
theorem kd_of {A R : aS} (h : ∀ o, ¬ (o = 0 ∨ o = 1 ∨ o = 8 ∨ o = 11 ∨ o = 12) → R o = A o) : Kd 0 A R := ⟨fun o ho => h o (by omega), fun k _ => by rw [h 4 (by decide)], by rw [h 4 (by decide)]; omega⟩
theorem kd_trans {n m : Nat} {A B C : aS} (h : Kd n A B) (k : Kd m B C) : Kd (n + m) A C := ⟨fun o ho => by rw [k.1 o ho, h.1 o ho], fun j hj => by rw [k.2.1 j hj, h.2.1 j hj], by have := h.2.2; have := k.2.2; omega⟩
theorem kd_le {n m : Nat} {A B : aS} (h : Kd n A B) (e : n ≤ m) : Kd m A B := ⟨h.1, h.2.1, by have := h.2.2; omega⟩
theorem kd_nd (A : aS) (N : Nat → Nat) : Kd 0 A (aND A N) := kd_of fun o ho => aND_r A N (by omega)
theorem kd_Wd {n : Nat} {A B : aS} (h : Kd n A B) {l : Nat → Nat} {L : Nat} (w : Wd A l L) : Wd B l L := by
  obtain ⟨a, b, c, e, f⟩ := w
  exact ⟨by rw [h.1 6 (by decide)]; exact a, by rw [h.1 16 (by decide)]; exact b, c, by rw [h.1 7 (by decide)]; exact e, fun i hi hp => by rw [h.1 14 (by decide), h.1 15 (by decide)]; exact f i hi hp⟩
theorem aEc_le (N : Nat → Nat) : ∀ m (A : aS), aEc N m A ≤ m
  | 0, _ => Nat.le_refl _
  | m + 1, A => by
    rw [aEc]
    split
    · have := aEc_le N m (a_up A 1 (16 * (7 - m)) 229)
      omega
    · have := aEc_le N m A
      omega
/-- what a command answers, in class and model -/
def CmdR (d d2 : Nat) (B : aS) (σ τ : xS) (m : Nat) : Prop := ∃ (b : Bool) (R : aS) (σ' τ' : xS), x_M (d + 5) 40 [.ref 14, .int (nI m)] σ = some (nI (bN b), σ') ∧ x_M (d2 + 5) 132 [.ref 19] τ = some (nI (bN b), τ') ∧ XC R σ' ∧ XM (if (b && decide (m = 5)) = true then a_up (a_up (aMg R (aBeg R)) 4 1 128) 16 3 1 else R) τ' ∧ Kd 160 B R
section CM
variable {B : aS} {σ τ : xS} (d : Nat) {l : Nat → Nat} {L : Nat}
theorem y_132 (k : XM B τ) (w6 : B 6 = l) (wL : B 16 4 = L) (h0 : wS l L 0 < L) (hl : isW l L 76 73 83 84 = false) {s dr ca sa : Bool} (hs : isW l L 83 72 79 87 = s) (hd : isW l L 68 82 79 80 = dr) (hc : isW l L 67 65 76 76 = ca) (ha : isW l L 83 65 86 69 = sa) : x_M (d + 5) 132 [.ref 19] τ = if (((s || dr) && !decide (wS l L 1 < L)) || ((ca || sa) && !decide (wS l L 2 < L))) = true then some ((0 : Int32), τ) else xr x_i132 (d + 4) 4999 119 [(0, .ref 19), (1, .int (nI (bN s))), (2, .int (nI (bN dr))), (3, .int (nI (bN ca))), (4, .int (nI (bN sa)))] [] τ := by
  subst w6
  subst wL
  have t0 : x_M (d + 4) 109 [.ref 19, .int (0 : Int32)] τ = some (nI (bN true), τ) := by
    have q := y_there (d + 2) k (w := 0) (by decide)
    rw [decide_eq_true h0] at q
    exact q
  have t1 : x_M (d + 4) 109 [.ref 19, .int (1 : Int32)] τ = some (nI (bN (decide (wS (B 6) (B 16 4) 1 < B 16 4))), τ) := y_there (d + 2) k (w := 1) (by decide)
  have t2 : x_M (d + 4) 109 [.ref 19, .int (2 : Int32)] τ = some (nI (bN (decide (wS (B 6) (B 16 4) 2 < B 16 4))), τ) := y_there (d + 2) k (w := 2) (by decide)
  have i0 : x_M (d + 4) 111 [.ref 19, .int (76 : Int32), .int (73 : Int32), .int (83 : Int32), .int (84 : Int32)] τ = some (nI (bN false), τ) := by
    have q := y_isW (d + 1) k (a := 76) (b := 73) (c := 83) (e := 84) (by decide) (by decide) (by decide) (by decide)
    rw [hl] at q
    exact q
  have i1 : x_M (d + 4) 111 [.ref 19, .int (83 : Int32), .int (72 : Int32), .int (79 : Int32), .int (87 : Int32)] τ = some (nI (bN s), τ) := by
    have q := y_isW (d + 1) k (a := 83) (b := 72) (c := 79) (e := 87) (by decide) (by decide) (by decide) (by decide)
    rw [hs] at q
    exact q
  have i2 : x_M (d + 4) 111 [.ref 19, .int (68 : Int32), .int (82 : Int32), .int (79 : Int32), .int (80 : Int32)] τ = some (nI (bN dr), τ) := by
    have q := y_isW (d + 1) k (a := 68) (b := 82) (c := 79) (e := 80) (by decide) (by decide) (by decide) (by decide)
    rw [hd] at q
    exact q
  have i3 : x_M (d + 4) 111 [.ref 19, .int (67 : Int32), .int (65 : Int32), .int (76 : Int32), .int (76 : Int32)] τ = some (nI (bN ca), τ) := by
    have q := y_isW (d + 1) k (a := 67) (b := 65) (c := 76) (e := 76) (by decide) (by decide) (by decide) (by decide)
    rw [hc] at q
    exact q
  have i4 : x_M (d + 4) 111 [.ref 19, .int (83 : Int32), .int (65 : Int32), .int (86 : Int32), .int (69 : Int32)] τ = some (nI (bN sa), τ) := by
    have q := y_isW (d + 1) k (a := 83) (b := 65) (c := 86) (e := 69) (by decide) (by decide) (by decide) (by decide)
    rw [ha] at q
    exact q
  rw [m132, t0, bnd0]
  dsimp only
  rw [if_neg (show ¬ nI (bN true) = (0 : Int32) by decide), i0, bnd0]
  dsimp only
  rw [if_pos (show nI (bN false) = (0 : Int32) from rfl), i1, bnd0]
  dsimp only
  rw [i2, bnd0]
  dsimp only
  rw [i3, bnd0]
  dsimp only
  rw [i4, bnd0]
  dsimp only
  generalize decide (wS (B 6) (B 16 4) 1 < B 16 4) = p1 at t1 ⊢
  generalize decide (wS (B 6) (B 16 4) 2 < B 16 4) = p2 at t2 ⊢
  cases s <;> cases dr <;> cases ca <;> cases sa <;> cases p1 <;> cases p2 <;> simp only [tF, tT, if_true, if_false, t1, t2, bnd0, Bool.or_false, Bool.false_or, Bool.or_true, Bool.true_or, Bool.and_true, Bool.true_and, Bool.and_false, Bool.false_and, Bool.not_true, Bool.not_false, reduceCtorEq]
/-- the class's findFile -/
theorem c_ff (h : XC B σ) (w : Wd B l L) {i : Nat} (hi : i < 3) (hp : wS l L i < L) : ∃ σ', x_M (d + 3) 19 [.ref 14, .int (nI i)] σ = some (nI (aFd (fun k => chr l L i k) (aND B (fun k => chr l L i k)) 0 8), σ') ∧ XC (aND B (fun k => chr l L i k)) σ' := by
  obtain ⟨σ1, q1, h1⟩ := c_tn (d + 1) h hi
  rw [wN4_eq w hi hp] at h1
  have q2 := c_find18 d h1
  rw [aND_11] at q2
  refine ⟨σ1, ?_, h1⟩
  rw [m19, q1, bnd0]
  dsimp only
  rw [q2, bnd0]
/-- the model's nameOf and find -/
theorem y_ff (k : XM B τ) (w6 : B 6 = l) (wL : B 16 4 = L) {i : Nat} (hi : i < 3) : ∃ τ', x_M (d + 3) 115 [.ref 19, .int (nI i)] τ = some (0, τ') ∧ x_M (d + 3) 116 [.ref 19, .int (nI 0), .int (nI 0)] τ' = some (nI (aFd (fun k => chr l L i k) (aND B (fun k => chr l L i k)) 0 8), τ') ∧ XM (aND B (fun k => chr l L i k)) τ' := by
  obtain ⟨τ1, p1, k1⟩ := y_nameOf d k hi
  rw [w6, wL] at k1
  have p2 := y_find (d + 1) k1 (f := 0) (a := 0) (by decide) (by decide)
  rw [aND_12] at p2
  exact ⟨τ1, p1, p2, k1⟩
theorem cmd_list (d2 : Nat) (h : XC B σ) (k : XM B τ) (w : Wd B l L) (h0 : wS l L 0 < L) (hw : isW l L 76 73 83 84 = true) (ht : B 4 0 + 200 < 2147483648) : CmdR d d2 B σ τ 0 := by
  obtain ⟨σ1, q1, h1⟩ := c_lists (d + 2) h (by omega)
  obtain ⟨τ1, p1, k1⟩ := y_lists (d2 + 2) k (by omega)
  have t0 : x_M (d2 + 4) 109 [.ref 19, .int (0 : Int32)] τ = some (nI (bN true), τ) := by
    have q := y_there (d2 + 2) k (w := 0) (by decide)
    rw [w.1, w.2.1, decide_eq_true h0] at q
    exact q
  have i0 : x_M (d2 + 4) 111 [.ref 19, .int (76 : Int32), .int (73 : Int32), .int (83 : Int32), .int (84 : Int32)] τ = some (nI (bN true), τ) := by
    have q := y_isW (d2 + 1) k (a := 76) (b := 73) (c := 83) (e := 84) (by decide) (by decide) (by decide) (by decide)
    rw [w.1, w.2.1, hw] at q
    exact q
  refine ⟨true, aLs 8 B, σ1, τ1, ?_, ?_, h1, k1, kd_le (sh_Kd (sh_ls 8 B)) (by decide)⟩
  · rw [m40, if_pos (by rfl), q1, bnd0]
    rfl
  · rw [m132, t0, bnd0]
    dsimp only
    rw [if_neg (show ¬ nI (bN true) = (0 : Int32) by decide), i0, bnd0]
    dsimp only
    rw [if_neg (show ¬ nI (bN true) = (0 : Int32) by decide), p1, bnd0]
    rfl
theorem cmd_show (d2 : Nat) (h : XC B σ) (k : XM B τ) (w : Wd B l L) (h0 : wS l L 0 < L) (hl : isW l L 76 73 83 84 = false) (hw : isW l L 83 72 79 87 = true) (hp : wS l L 1 < L) (ht : B 4 0 + 200 < 2147483648) : CmdR d d2 B σ τ 1 := by
  have y := y_132 d2 k w.1 w.2.1 h0 hl hw (isW_ex hw (by decide)) (isW_ex hw (by decide)) (isW_ex hw (by decide))
  rw [decide_eq_true hp, if_neg (by simp)] at y
  obtain ⟨σ1, q1, h1⟩ := c_ff d h w (i := 1) (by decide) hp
  obtain ⟨τ1, p1, p2, k1⟩ := y_ff (d2 + 1) k w.1 w.2.1 (i := 1) (by decide)
  have kd := kd_nd B (fun k => chr l L 1 k)
  have q1 : x_M (d + 3) 19 [.ref 14, .int (1 : Int32)] σ = some (nI (aFd (fun k => chr l L 1 k) (aND B (fun k => chr l L 1 k)) 0 8), σ1) := q1
  have p1 : x_M (d2 + 4) 115 [.ref 19, .int (1 : Int32)] τ = some (0, τ1) := p1
  have p2 : x_M (d2 + 4) 116 [.ref 19, .int (0 : Int32), .int (0 : Int32)] τ1 = some (nI (aFd (fun k => chr l L 1 k) (aND B (fun k => chr l L 1 k)) 0 8), τ1) := p2
  generalize aND B (fun k => chr l L 1 k) = C at q1 h1 p1 p2 k1 kd
  have fl := aFd_lt (fun k => chr l L 1 k) C 0 8 (by omega)
  generalize aFd (fun k => chr l L 1 k) C 0 8 = e at q1 p2 fl
  rcases fl with g | g
  · subst g
    refine ⟨false, C, σ1, τ1, ?_, y.trans ((c132_119 (d2 + 4) 4998 _ _ _ _ _).trans ?_), h1, k1, kd_le kd (by decide)⟩
    · rw [m40, if_neg (show ¬ nI 1 = (0 : Int32) by decide), if_pos (show nI 1 = (1 : Int32) from rfl), m23, q1, bnd0]
      dsimp only
      rw [if_pos (show nI 4294967295 = (-1 : Int32) from rfl), bnd0]
      rfl
    · rw [if_pos (show nI (bN false) = (0 : Int32) from rfl), if_pos (show nI (bN false) = (0 : Int32) from rfl), if_neg (show ¬ nI (bN true) = (0 : Int32) by decide), p1, bnd0]
      dsimp only
      rw [p2, bnd0]
      dsimp only
      rw [if_pos (show nI 4294967295 = (-1 : Int32) from rfl)]
      rfl
  · have h5 : C 1 (16 * e + 5) < 256 := x_dsk_lt h1.2 (by omega)
    have k4 := kd.2.2
    obtain ⟨σ2, q2, h2⟩ := c_ty (d + 1) (D := C 1) (e := e) (c := min (C 1 (16 * e + 5)) 10) g (by omega) (min (C 1 (16 * e + 5)) 10) (Nat.le_refl _) C σ1 4999 h1 rfl (by omega) (by omega)
    obtain ⟨τ2, p3, k2⟩ := y_ty (d2 + 2) (D := C 1) (e := e) (c := min (C 1 (16 * e + 5)) 10) g rfl (min (C 1 (16 * e + 5)) 10) (Nat.le_refl _) C τ1 4999 k1 rfl (by omega) (by omega)
    rw [Nat.sub_self] at q2 p3
    refine ⟨true, _, σ2, τ2, ?_, y.trans ((c132_119 (d2 + 4) 4998 _ _ _ _ _).trans ?_), h2, k2, kd_le (kd_trans kd (sh_Kd (sh_ty _ _ _ _ _))) (by omega)⟩
    · rw [m40, if_neg (show ¬ nI 1 = (0 : Int32) by decide), if_pos (show nI 1 = (1 : Int32) from rfl), m23, q1, bnd0]
      dsimp only
      rw [if_neg (by exact n_m1 (by omega)), c_recs (d + 2) h1 g, bnd0]
      dsimp only
      rw [show (0 : Int32) = nI 0 from rfl, q2, bnd0]
      rfl
    · rw [if_pos (show nI (bN false) = (0 : Int32) from rfl), if_pos (show nI (bN false) = (0 : Int32) from rfl), if_neg (show ¬ nI (bN true) = (0 : Int32) by decide), p1, bnd0]
      dsimp only
      rw [p2, bnd0]
      dsimp only
      rw [if_neg (by exact n_m1 (by omega)), if_neg (show ¬ nI (bN true) = (0 : Int32) by decide), m126]
      have p3 : xr x_i126 (d2 + 3) 4999 4 [(0, .ref 19), (1, .int (nI e)), (2, .int (1 : Int32)), (3, .int (0 : Int32))] [] τ1 = some (0, τ2) := p3
      rw [p3, bnd0]
      rfl
theorem cmd_drop (d2 : Nat) (h : XC B σ) (k : XM B τ) (w : Wd B l L) (h0 : wS l L 0 < L) (hl : isW l L 76 73 83 84 = false) (hw : isW l L 68 82 79 80 = true) (hp : wS l L 1 < L) : CmdR d d2 B σ τ 2 := by
  have y := y_132 d2 k w.1 w.2.1 h0 hl (isW_ex hw (by decide)) hw (isW_ex hw (by decide)) (isW_ex hw (by decide))
  rw [decide_eq_true hp, if_neg (by simp)] at y
  obtain ⟨σ1, q1, h1⟩ := c_tn (d + 3) h (w := 1) (by decide)
  rw [wN4_eq w (by decide) hp] at h1
  obtain ⟨τ1, p1, p2, k1⟩ := y_ff (d2 + 1) k w.1 w.2.1 (i := 1) (by decide)
  have kd := kd_nd B (fun k => chr l L 1 k)
  have q1 : x_M (d + 4) 16 [.ref 14, .int (1 : Int32)] σ = some (0, σ1) := q1
  have p1 : x_M (d2 + 4) 115 [.ref 19, .int (1 : Int32)] τ = some (0, τ1) := p1
  obtain ⟨σ2, q2, h2⟩ := c_erase18 (d + 1) h1
  obtain ⟨τ2, p3, k2⟩ := y_erase (d2 + 1) k1
  rw [aND_11] at h2
  rw [aND_12] at k2 p3
  have c8 : aEc (fun k => chr l L 1 k) 8 (aND B fun k => chr l L 1 k) ≤ 8 := aEc_le _ 8 _
  refine ⟨true, _, σ2, τ2, ?_, y.trans ((c132_119 (d2 + 4) 4998 _ _ _ _ _).trans ?_), h2, k2, kd_le (kd_trans kd (kd_of fun o ho => aEr_row _ _ _ (by omega))) (by omega)⟩
  · rw [m40, if_neg (show ¬ nI 2 = (0 : Int32) by decide), if_neg (show ¬ nI 2 = (1 : Int32) by decide), if_pos (show nI 2 = (2 : Int32) from rfl), q1, bnd0]
    dsimp only
    rw [q2, bnd0]
    rfl
  · rw [if_neg (show ¬ nI (bN true) = (0 : Int32) by decide), p1, bnd0]
    dsimp only
    rw [p3, bnd0]
    dsimp only
    rw [if_neg (by exact nI_pos (by omega))]
    rfl
/-- the model's renaming -/
theorem y_274 (k : XM B τ) {e : Nat} (he : e < 8) : ∃ τ', xr x_i132 d 4998 274 [(0, .ref 19), (5, .int (nI e)), (6, .int (0 : Int32))] [] τ = some ((1 : Int32), τ') ∧ XM (aRn (B 12) B e) τ' := by
  have hN : ∀ i, i < 4 → B 12 i < 256 := fun i hi => k.2 12 i hi
  obtain ⟨σ1, q1, h1⟩ := loopX (X := XM) (F := fun n i σ => xr x_i132 d n 274 [(0, .ref 19), (5, .int (nI e)), (6, .int (nI i))] [] σ) (S := fun i => aLp B 1 (fun k => (16 * e + 1) + k) (B 12) i) 0 4 (by
    intro n i σ hl hi h
    have r12 : aLp B 1 (fun k => (16 * e + 1) + k) (B 12) i 12 = B 12 := aLp_row _ _ _ _ (by decide) _
    have v := yv_nam h hi
    rw [r12] at v
    refine ⟨x_up σ 21 (16 * e + 1 + i) (nI (B 12 i)), ?_, ?_⟩
    · rw [c132_274, if_neg (by exact n_ge hi (by decide)), if_neg (n_ok hi (by decide)), show (1 : Int32) = nI 1 from rfl, y_16i, nI_add, nI_add, if_neg (n_ok (by omega) (by decide)), n_cl (a := i) (by omega), n_cl (by omega), v]
    · exact xm_up h 1 (16 * e + 1 + i) (show 16 * e + 1 + i < 512 by omega) (hN i hi)) 4 0 4994 τ (by omega) (by omega) k
  refine ⟨σ1, q1.trans ((c132_274 d 4993 _ _ _).trans ?_), h1⟩
  rw [if_pos (by decide)]
theorem cmd_call (d2 : Nat) (h : XC B σ) (k : XM B τ) (w : Wd B l L) (h0 : wS l L 0 < L) (hl : isW l L 76 73 83 84 = false) (hw : isW l L 67 65 76 76 = true) (hp1 : wS l L 1 < L) (hp : wS l L 2 < L) : CmdR d d2 B σ τ 3 := by
  have y := y_132 d2 k w.1 w.2.1 h0 hl (isW_ex hw (by decide)) (isW_ex hw (by decide)) hw (isW_ex hw (by decide))
  rw [decide_eq_true hp, if_neg (by simp)] at y
  obtain ⟨σ1, q1, h1⟩ := c_ff d h w (i := 1) (by decide) hp1
  obtain ⟨τ1, p1, p2, k1⟩ := y_ff (d2 + 1) k w.1 w.2.1 (i := 1) (by decide)
  have kd := kd_nd B (fun k => chr l L 1 k)
  have q1 : x_M (d + 3) 19 [.ref 14, .int (1 : Int32)] σ = some (nI (aFd (fun k => chr l L 1 k) (aND B (fun k => chr l L 1 k)) 0 8), σ1) := q1
  have p1 : x_M (d2 + 4) 115 [.ref 19, .int (1 : Int32)] τ = some (0, τ1) := p1
  have p2 : x_M (d2 + 4) 116 [.ref 19, .int (0 : Int32), .int (0 : Int32)] τ1 = some (nI (aFd (fun k => chr l L 1 k) (aND B (fun k => chr l L 1 k)) 0 8), τ1) := p2
  generalize aND B (fun k => chr l L 1 k) = C at q1 h1 p1 p2 k1 kd
  have fl := aFd_lt (fun k => chr l L 1 k) C 0 8 (by omega)
  generalize aFd (fun k => chr l L 1 k) C 0 8 = e at q1 p2 fl
  have w1 : Wd C l L := kd_Wd kd w
  rcases fl with g | g
  · subst g
    refine ⟨false, C, σ1, τ1, ?_, y.trans ((c132_119 (d2 + 4) 4998 _ _ _ _ _).trans ?_), h1, k1, kd_le kd (by decide)⟩
    · rw [m40, if_neg (show ¬ nI 3 = (0 : Int32) by decide), if_neg (show ¬ nI 3 = (1 : Int32) by decide), if_neg (show ¬ nI 3 = (2 : Int32) by decide), if_pos (show nI 3 = (3 : Int32) from rfl), m28, q1, bnd0]
      dsimp only
      rw [if_pos (show nI 4294967295 = (-1 : Int32) from rfl), bnd0]
      rfl
    · rw [if_pos (show nI (bN false) = (0 : Int32) from rfl), if_pos (show nI (bN false) = (0 : Int32) from rfl), if_pos (show nI (bN false) = (0 : Int32) from rfl), if_neg (show ¬ nI (bN true) = (0 : Int32) by decide), p1, bnd0]
      dsimp only
      rw [p2, bnd0]
      dsimp only
      rw [if_pos (show nI 4294967295 = (-1 : Int32) from rfl)]
      rfl
  · obtain ⟨σ2, q2, h2⟩ := c_tn (d + 2) h1 (w := 2) (by decide)
    rw [wN4_eq w1 (by decide) hp] at h2
    obtain ⟨τ2, p3, -, k2⟩ := y_ff (d2 + 1) k1 w1.1 w1.2.1 (i := 2) (by decide)
    have q2 : x_M (d + 3) 16 [.ref 14, .int (2 : Int32)] σ1 = some (0, σ2) := q2
    have p3 : x_M (d2 + 4) 115 [.ref 19, .int (2 : Int32)] τ1 = some (0, τ2) := p3
    obtain ⟨σ3, q3, h3⟩ := c_rename18 (d + 1) h2 g
    obtain ⟨τ3, p4, k3⟩ := y_274 (d2 + 4) k2 g
    rw [aND_11] at h3
    rw [aND_12] at k3
    refine ⟨true, _, σ3, τ3, ?_, y.trans ((c132_119 (d2 + 4) 4998 _ _ _ _ _).trans ?_), h3, k3, kd_le (kd_trans kd (kd_trans (kd_nd C _) (kd_of fun o ho => aRn_row _ _ _ (by omega)))) (by omega)⟩
    · rw [m40, if_neg (show ¬ nI 3 = (0 : Int32) by decide), if_neg (show ¬ nI 3 = (1 : Int32) by decide), if_neg (show ¬ nI 3 = (2 : Int32) by decide), if_pos (show nI 3 = (3 : Int32) from rfl), m28, q1, bnd0]
      dsimp only
      rw [if_neg (by exact n_m1 (by omega)), q2, bnd0]
      dsimp only
      rw [q3, bnd0]
      rfl
    · rw [if_pos (show nI (bN false) = (0 : Int32) from rfl), if_pos (show nI (bN false) = (0 : Int32) from rfl), if_pos (show nI (bN false) = (0 : Int32) from rfl), if_neg (show ¬ nI (bN true) = (0 : Int32) by decide), p1, bnd0]
      dsimp only
      rw [p2, bnd0]
      dsimp only
      rw [if_neg (by exact n_m1 (by omega)), if_pos (show nI (bN false) = (0 : Int32) from rfl), if_neg (show ¬ nI (bN true) = (0 : Int32) by decide), p3, bnd0]
      dsimp only
      exact p4
end CM
