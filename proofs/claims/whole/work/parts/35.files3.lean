/-! All the calls of files, class beside model -/
theorem aEr_row (N : Nat → Nat) : ∀ m (A : aS) {o : Nat}, ¬ o = 1 → aEr N m A o = A o
  | 0, _, _, _ => rfl
  | m + 1, A, o, h => by
    rw [aEr]
    split
    · rw [aEr_row N m _ h, a_row h]
    · exact aEr_row N m _ h
theorem aMk_row (N : Nat → Nat) (A : aS) (e : Nat) {o : Nat} (h : ¬ o = 1) : aMk N A e o = A o := aLp_row _ _ _ _ h _
theorem aRn_row (N : Nat → Nat) (A : aS) (e : Nat) {o : Nat} (h : ¬ o = 1) : aRn N A e o = A o := aLp_row _ _ _ _ h _
theorem aZm_row (A : aS) (a : Nat) {o : Nat} (h : ¬ o = 0) : aZm A a o = A o := aLq_row _ _ _ _ _ _ h
theorem aRec_row (A : aS) (a : Nat) {o : Nat} (h : ¬ o = 0) : aRec A a o = A o := by
  unfold aRec
  rw [a_row h, aRd_row _ _ _ _ h]
theorem aWf_row (A : aS) (b a x : Nat) {o : Nat} (h0 : ¬ o = 0) (h1 : ¬ o = 1) : aWf A b a x o = A o := by
  unfold aWf
  rw [a_row h0]
  split
  · rw [a_row h0, aWr_row _ _ _ _ h1]
  · rw [aWr_row _ _ _ _ h1]
theorem wSt_row (A : aS) (a x : Nat) {o : Nat} (h0 : ¬ o = 0) (h1 : ¬ o = 1) : wSt A a x o = A o := by
  unfold wSt
  split
  · split
    · exact aWf_row _ _ _ _ h0 h1
    · split
      · rw [aWf_row _ _ _ _ h0 h1, a_row h0]
      · rfl
  · rfl
/-- where a search goes on: the class's number and the model's -/
def LR (A : aS) : Prop := (A 16 1 = 4294967295 ∧ A 7 1 = 0) ∨ (A 16 1 < 8 ∧ A 7 1 = A 16 1 + 1) ∨ (A 16 1 = 8 ∧ A 7 1 = 8)
/-- what a call of files leaves -/
def Kp (A R : aS) : Prop := (∀ o, ¬ (o = 0 ∨ o = 1 ∨ o = 5 ∨ o = 7 ∨ o = 12 ∨ o = 16) → R o = A o) ∧ (∀ k, ¬ k = 1 → R 7 k = A 7 k) ∧ (∀ k, ¬ k = 1 → R 16 k = A 16 k) ∧ LR R
theorem kp_of {A R : aS} (l : LR A) (h : ∀ o, ¬ (o = 0 ∨ o = 1 ∨ o = 5 ∨ o = 12) → R o = A o) : Kp A R := by
  have h7 := h 7 (by decide)
  have h16 := h 16 (by decide)
  refine ⟨fun o ho => h o (by omega), fun k _ => by rw [h7], fun k _ => by rw [h16], ?_⟩
  unfold LR
  rw [h7, h16]
  exact l
def FilesOK (A : aS) (σ τ : xS) (c a d : Nat) : Prop := ∃ r R σ' τ', x_M (d + 5) 90 [.ref 12, .int (nI c), .int (nI a)] σ = some (nI r, σ') ∧ x_M (d + 5) 139 [.ref 19, .int (nI c), .int (nI a)] τ = some (nI r, τ') ∧ XC R σ' ∧ XM R τ' ∧ r < 256 ∧ Kp A R
theorem aNF_kp (A : aS) (N : Nat → Nat) {o : Nat} (h : ¬ (o = 0 ∨ o = 1 ∨ o = 5 ∨ o = 12)) : aNF A N o = A o := aNF_r A N (by omega)
section A1
variable {A : aS} {σ τ : xS} {a : Nat} (d : Nat)
/-- the pieces that every call has in common -/
theorem f_start (h : XC A σ) (k : XM A τ) (ha : a < 65536) : ∃ B σ1 τ1 N, XC B σ1 ∧ XM B τ1 ∧ B 5 = N ∧ B 12 = N ∧ (∀ o, ¬ (o = 0 ∨ o = 1 ∨ o = 5 ∨ o = 12) → B o = A o) ∧ x_M (d + 4) 79 [.ref 12, .int (nI a + 1)] σ = some (0, σ1) ∧ x_M (d + 4) 135 [.ref 19, .int (nI a + 1)] τ = some (0, τ1) := by
  obtain ⟨σ1, q1, h1⟩ := c_tname (d + 2) h (a := a + 1) (by omega)
  obtain ⟨τ1, p1, k1⟩ := y_nameAt (d + 2) k (a := a + 1) (by omega)
  exact ⟨_, σ1, τ1, _, h1, k1, aNF_5 _ _, aNF_12 _ _, fun o ho => aNF_kp _ _ ho, by rw [show (1 : Int32) = nI 1 from rfl, nI_add]; exact q1, by rw [show (1 : Int32) = nI 1 from rfl, nI_add]; exact p1⟩
theorem f_19 (h : XC A σ) (k : XM A τ) (ha : a < 65536) (l : LR A) : FilesOK A σ τ 19 a d := by
  obtain ⟨B, σ1, τ1, N, h1, k1, n5, n12, hB, q1, p1⟩ := f_start d h k ha
  obtain ⟨σ2, q2, h2⟩ := c_erase13 (d + 1) h1
  obtain ⟨τ2, p2, k2⟩ := y_erase (d + 1) k1
  rw [n5] at q2 h2
  rw [n12] at p2 k2
  have hc : ∀ m (A : aS), aEc N m A ≤ m := by
    intro m
    induction m with
    | zero => intro A; exact Nat.le_refl 0
    | succ m ih =>
      intro A
      rw [aEc]
      split
      · have := ih (a_up A 1 (16 * (7 - m)) 229); omega
      · have := ih A; omega
  have hc := hc 8 B
  refine ⟨if 0 < aEc N 8 B then 0 else 255, aEr N 8 B, σ2, τ2, ?_, ?_, h2, k2, by split <;> decide, kp_of l (fun o ho => by rw [aEr_row _ _ _ (by omega)]; exact hB o ho)⟩
  · rw [m90, q1, bnd0]
    dsimp only
    rw [if_neg (by decide), if_neg (by decide), if_neg (by decide), if_neg (by decide), if_pos (by decide), q2, bnd0]
    dsimp only
    by_cases g : 0 < aEc N 8 B
    · rw [decide_eq_true g, if_neg (by decide), if_pos g]; rfl
    · rw [decide_eq_false g, if_pos (by decide), if_neg g]; rfl
  · rw [m139, p1, bnd0]
    dsimp only
    rw [if_neg (by decide), if_neg (by decide), if_pos (by decide), p2, bnd0]
    dsimp only
    by_cases g : 0 < aEc N 8 B
    · rw [if_neg (by exact nz (by omega) (by omega)), if_pos g]; rfl
    · rw [show aEc N 8 B = 0 from by omega, if_pos (by decide), if_neg (by decide)]; rfl
theorem f_20 (h : XC A σ) (k : XM A τ) (ha : a < 65536) (l : LR A) : FilesOK A σ τ 20 a d := by
  obtain ⟨B, σ1, τ1, N, h1, k1, n5, n12, hB, q1, p1⟩ := f_start d h k ha
  obtain ⟨σ2, q2, h2⟩ := c_fread (d + 1) h1 ha
  obtain ⟨τ2, p2, k2⟩ := y_reads (d + 2) k1 ha
  refine ⟨if okR B a = true then 0 else 1, _, σ2, τ2, ?_, ?_, h2, k2, by split <;> decide, kp_of l (fun o ho => ?_)⟩
  · rw [m90, q1, bnd0]
    dsimp only
    rw [if_neg (by decide), if_neg (by decide), if_neg (by decide), if_neg (by decide), if_neg (by decide), if_pos (by decide), q2, bnd0]
  · rw [m139, p1, bnd0]
    dsimp only
    rw [if_neg (by decide), if_neg (by decide), if_neg (by decide), if_pos (by decide), p2, bnd0]
  · split
    · rw [aRec_row _ _ (by omega)]; exact hB o ho
    · exact hB o ho
theorem f_21 (h : XC A σ) (k : XM A τ) (ha : a < 65536) (l : LR A) : FilesOK A σ τ 21 a d := by
  obtain ⟨B, σ1, τ1, N, h1, k1, n5, n12, hB, q1, p1⟩ := f_start d h k ha
  obtain ⟨σ2, q2, h2⟩ := c_fwrite d h1 ha
  obtain ⟨τ2, p2, k2⟩ := y_writes d k1 ha
  refine ⟨wAns B a (B 0 ((a + 16) % 512)), _, σ2, τ2, ?_, ?_, h2, k2, ?_, kp_of l (fun o ho => by rw [wSt_row _ _ _ (by omega) (by omega)]; exact hB o ho)⟩
  · rw [m90, q1, bnd0]
    dsimp only
    rw [if_neg (by decide), if_neg (by decide), if_neg (by decide), if_neg (by decide), if_neg (by decide), if_neg (by decide), if_pos (by decide), q2, bnd0]
  · rw [m139, p1, bnd0]
    dsimp only
    rw [if_neg (by decide), if_neg (by decide), if_neg (by decide), if_neg (by decide), if_pos (by decide), p2, bnd0]
  · unfold wAns
    split
    · split
      · decide
      · split <;> decide
    · decide
theorem f_22 (h : XC A σ) (k : XM A τ) (ha : a < 65536) (l : LR A) : FilesOK A σ τ 22 a d := by
  obtain ⟨B, σ1, τ1, N, h1, k1, n5, n12, hB, q1, p1⟩ := f_start d h k ha
  obtain ⟨σ2, q2, h2⟩ := c_fmake d h1 ha
  obtain ⟨τ2, p2, k2⟩ := y_makes (d + 1) k1
  rw [n5] at h2
  rw [n12] at k2
  unfold aMake at k2
  have C : x_M (d + 5) 90 [.ref 12, .int (nI 22), .int (nI a)] σ = some (nI (if aFF B 8 < 8 then aFF B 8 else 255), σ2) := by
    rw [m90, q1, bnd0]
    dsimp only
    rw [if_neg (by decide), if_neg (by decide), if_neg (by decide), if_neg (by decide), if_neg (by decide), if_neg (by decide), if_neg (by decide), if_pos (by decide), q2, bnd0]
  have M : x_M (d + 5) 139 [.ref 19, .int (nI 22), .int (nI a)] τ = xr x_i139 (d + 4) 4999 97 [(0, .ref 19), (2, .int (nI a)), (3, .int (nI (aFF B 8))), (4, .int (5 : Int32))] [] τ2 := by
    rw [m139, p1, bnd0]
    dsimp only
    rw [if_neg (by decide), if_neg (by decide), if_neg (by decide), if_neg (by decide), if_neg (by decide), if_pos (by decide), p2, bnd0]
  rcases aFF_lt B 8 (by omega) with g | g
  · rw [g, if_neg (by decide)] at h2 k2
    rw [g, if_neg (by decide)] at C
    rw [g] at M
    refine ⟨255, B, σ2, τ2, C, M.trans ((c139_97 (d + 4) 4998 _ _ _ _).trans ?_), h2, k2, by decide, kp_of l hB⟩
    rw [if_neg (by decide), if_pos (by rfl), if_pos (by rfl)]
    rfl
  · rw [if_pos g] at h2 k2 C
    refine ⟨aFF B 8, aZm (aMk N B (aFF B 8)) a, σ2, ?_⟩
    obtain ⟨τ3, p3, k3⟩ := loopX (X := XM) (F := fun n i σ => xr x_i139 (d + 4) n 97 [(0, .ref 19), (2, .int (nI a)), (3, .int (nI (aFF B 8))), (4, .int (nI i))] [] σ) (S := fun i => aLq (aMk N B (aFF B 8)) 0 (fun i => (a + i) % 512) (fun _ => 0) 5 i) 5 16 (by
      intro n i σ hl hi h
      obtain ⟨σ', q2, h2⟩ := y_mput (d + 3) h (a := a + i) (v := 0) (by omega) (by omega)
      refine ⟨σ', ?_, by rw [aLq_n _ _ _ _ hl]; exact h2⟩
      rw [c139_97, if_neg (by exact n_ge hi (by decide)), if_neg (by exact n_m1 (by omega)), nI_add, show (0 : Int32) = nI 0 from rfl, q2, bnd0]
      dsimp only
      rw [show (1 : Int32) = nI 1 from rfl, nI_add]) 11 5 4988 τ2 (by omega) (by omega) (by rw [aLq_s]; exact k2)
    refine ⟨τ3, C, M.trans (p3.trans ((c139_97 (d + 4) 4987 _ _ _ _).trans ?_)), h2, k3, by omega, kp_of l (fun o ho => ?_)⟩
    · rw [if_pos (by decide), if_neg (by exact n_m1 (by omega))]
    · rw [aZm_row _ _ (by omega), aMk_row _ _ _ (by omega)]; exact hB o ho
theorem y_166 (k : XM A τ) {c e : Nat} (hc : c < 100) (h15 : ¬ c = 15) (n : Nat) : xr x_i139 (d + 4) (n + 1) 166 [(0, .ref 19), (1, .int (nI c)), (2, .int (nI a)), (3, .int (nI e)), (4, .int (1 : Int32))] [] τ = xr x_i139 (d + 4) n 208 [(0, .ref 19), (1, .int (nI c)), (2, .int (nI a)), (3, .int (nI e)), (4, .int (5 : Int32))] [] τ := by
  rw [c139_166, if_neg (by decide), if_neg (by intro z; exact h15 ((nI_eq (b := 15) (by omega) (by omega)).mp z))]
theorem f_15 (h : XC A σ) (k : XM A τ) (ha : a < 65536) (l : LR A) : FilesOK A σ τ 15 a d := by
  obtain ⟨B, σ1, τ1, N, h1, k1, n5, n12, hB, q1, p1⟩ := f_start d h k ha
  obtain ⟨σ2, q2, h2⟩ := c_open (d + 1) h1 ha
  have p2 := y_find (d + 2) k1 (f := 0) (a := 1) (by omega) (by omega)
  rw [n5] at h2 q2
  rw [n12] at p2
  have C : x_M (d + 5) 90 [.ref 12, .int (nI 15), .int (nI a)] σ = some (nI (if aFd N B 1 8 < 8 then aFd N B 1 8 else 255), σ2) := by
    rw [m90, q1, bnd0]
    dsimp only
    rw [if_pos (by decide), q2, bnd0]
  have M : x_M (d + 5) 139 [.ref 19, .int (nI 15), .int (nI a)] τ = if nI (aFd N B 1 8) = (-1 : Int32) then some (255, τ1) else xr x_i139 (d + 4) 4999 166 [(0, .ref 19), (1, .int (nI 15)), (2, .int (nI a)), (3, .int (nI (aFd N B 1 8))), (4, .int (1 : Int32))] [] τ1 := by
    rw [m139, p1, bnd0]
    dsimp only
    rw [if_neg (by decide), if_neg (by decide), if_neg (by decide), if_neg (by decide), if_neg (by decide), if_neg (by decide), if_pos (by decide), show (0 : Int32) = nI 0 from rfl, show (1 : Int32) = nI 1 from rfl, p2, bnd0]
  rcases aFd_lt N B 1 8 (by omega) with g | g
  · rw [g, if_neg (by decide)] at h2 C
    rw [g, if_pos (by rfl)] at M
    exact ⟨255, B, σ2, τ1, C, M, h2, k1, by decide, kp_of l hB⟩
  · rw [if_pos g] at h2 C
    rw [if_neg (by exact n_m1 (by omega))] at M
    generalize aFd N B 1 8 = e at g h2 C M
    obtain ⟨τ3, p3, k3⟩ := loopX (X := XM) (F := fun n i σ => xr x_i139 (d + 4) n 166 [(0, .ref 19), (1, .int (nI 15)), (2, .int (nI a)), (3, .int (nI e)), (4, .int (nI i))] [] σ) (S := fun i => aLq B 0 (fun i => (a + i) % 512) (fun i => B 1 (16 * e + i)) 1 i) 1 16 (by
      intro n i σ hl hi h
      obtain ⟨q1, σ', q2, h2⟩ := y_d2m (d + 3) (by omega) (by omega) hl hi h
      refine ⟨σ', ?_, h2⟩
      rw [c139_166, if_neg (by exact n_ge hi (by decide)), if_pos (by decide), y_16i, if_neg (n_ok (by omega) (by decide)), n_cl (by omega), q1, nI_add, q2, bnd0]
      dsimp only
      rw [show (1 : Int32) = nI 1 from rfl, nI_add]) 15 1 4984 τ1 (by omega) (by omega) (by rw [aLq_s]; exact k1)
    refine ⟨e, _, σ2, τ3, C, M.trans (p3.trans ((c139_166 (d + 4) 4983 _ _ _ _ _).trans ?_)), h2, k3, by omega, kp_of l (fun o ho => by rw [aRd_row _ _ _ _ (by omega)]; exact hB o ho)⟩
    rw [if_pos (by decide)]
    refine (c139_208 (d + 4) 4982 _ _ _ _ _).trans ?_
    rw [if_neg (by decide), if_neg (by decide)]
    refine (c139_250 (d + 4) 4981 _ _ _ _ _).trans ?_
    rw [if_neg (by decide), if_neg (by decide), if_neg (by decide)]
theorem f_16 (h : XC A σ) (k : XM A τ) (ha : a < 65536) (l : LR A) : FilesOK A σ τ 16 a d := by
  obtain ⟨B, σ1, τ1, N, h1, k1, n5, n12, hB, q1, p1⟩ := f_start d h k ha
  obtain ⟨σ2, q2, h2⟩ := c_close (d + 1) h1 ha
  have p2 := y_find (d + 2) k1 (f := 0) (a := 0) (by omega) (by omega)
  rw [n5] at h2 q2
  rw [n12] at p2
  have C : x_M (d + 5) 90 [.ref 12, .int (nI 16), .int (nI a)] σ = some (nI (if aFd N B 0 8 < 8 then aFd N B 0 8 else 255), σ2) := by
    rw [m90, q1, bnd0]
    dsimp only
    rw [if_neg (by decide), if_pos (by decide), q2, bnd0]
  have M : x_M (d + 5) 139 [.ref 19, .int (nI 16), .int (nI a)] τ = if nI (aFd N B 0 8) = (-1 : Int32) then some (255, τ1) else xr x_i139 (d + 4) 4999 166 [(0, .ref 19), (1, .int (nI 16)), (2, .int (nI a)), (3, .int (nI (aFd N B 0 8))), (4, .int (1 : Int32))] [] τ1 := by
    rw [m139, p1, bnd0]
    dsimp only
    rw [if_neg (by decide), if_neg (by decide), if_neg (by decide), if_neg (by decide), if_neg (by decide), if_neg (by decide), if_neg (by decide), show (0 : Int32) = nI 0 from rfl, p2, bnd0]
  rcases aFd_lt N B 0 8 (by omega) with g | g
  · rw [g, if_neg (by decide)] at h2 C
    rw [g, if_pos (by rfl)] at M
    exact ⟨255, B, σ2, τ1, C, M, h2, k1, by decide, kp_of l hB⟩
  · rw [if_pos g] at h2 C
    rw [if_neg (by exact n_m1 (by omega)), y_166 d k1 (by decide) (by decide) 4998] at M
    generalize aFd N B 0 8 = e at g h2 C M
    obtain ⟨τ3, p3, k3⟩ := loopX (X := XM) (F := fun n i σ => xr x_i139 (d + 4) n 208 [(0, .ref 19), (1, .int (nI 16)), (2, .int (nI a)), (3, .int (nI e)), (4, .int (nI i))] [] σ) (S := fun i => aLq B 1 (fun i => 16 * e + i) (fun i => B 0 ((a + i) % 512)) 5 i) 5 16 (by
      intro n i σ hl hi h
      obtain ⟨q1, h2⟩ := y_m2d (d + 3) (by omega) (by omega) hl hi h
      refine ⟨_, ?_, h2⟩
      rw [c139_208, if_neg (by exact n_ge hi (by decide)), if_pos (by decide), nI_add, q1, bnd0]
      dsimp only
      rw [y_16i, if_neg (n_ok (by omega) (by decide)), n_cl (by omega), show (1 : Int32) = nI 1 from rfl, nI_add]) 11 5 4987 τ1 (by omega) (by omega) (by rw [aLq_s]; exact k1)
    refine ⟨e, _, σ2, τ3, C, M.trans (p3.trans ((c139_208 (d + 4) 4986 _ _ _ _ _).trans ?_)), h2, k3, by omega, kp_of l (fun o ho => by rw [aWr_row _ _ _ _ (by omega)]; exact hB o ho)⟩
    rw [if_pos (by decide)]
    refine (c139_250 (d + 4) 4985 _ _ _ _ _).trans ?_
    rw [if_neg (by decide), if_neg (by decide), if_neg (by decide)]
end A1
