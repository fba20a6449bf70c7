/-! Searches and renaming; all calls of files -/
theorem aLp_up (A : aS) (o : Nat) (g f : Nat → Nat) {o2 : Nat} (k v : Nat) (h : ¬ o2 = o) : ∀ n, a_up (aLp A o g f n) o2 k v = aLp (a_up A o2 k v) o g f n
  | 0 => rfl
  | n + 1 => by
    rw [aLp, aLp, a_cm _ (fun z => h z.1.symm), aLp_up A o g f k v h n]
theorem aRd_up (A : aS) (b a s : Nat) {o : Nat} (k v : Nat) (h0 : ¬ o = 0) (h1 : ¬ o = 1) : a_up (aRd A b a s) o k v = aRd (a_up A o k v) b a s := by
  unfold aRd aLq
  rw [aLp_up _ _ _ _ _ _ h0, a_row (fun z => h1 z.symm)]
section A2
variable {A : aS} {σ τ : xS} {a : Nat} (d : Nat)
theorem f_srch {B : aS} {N : Nat → Nat} (h : XC B σ) (k : XM B τ) (n5 : B 5 = N) (n12 : B 12 = N) {f : Nat} (hf : f ≤ 8) {v : Int32} (hv : v = nI f ∨ (f = 8 ∧ v = nI 9)) : ∃ r R σ' τ', x_M (d + 3) 83 [.ref 12, .int (nI f)] σ = some (nI r, σ') ∧ x_M (d + 3) 136 [.ref 19, .int v] τ = some (nI r, τ') ∧ XC R σ' ∧ XM R τ' ∧ r < 256 ∧ (∀ o, ¬ (o = 0 ∨ o = 7 ∨ o = 16) → R o = B o) ∧ (∀ k, ¬ k = 1 → R 7 k = B 7 k) ∧ (∀ k, ¬ k = 1 → R 16 k = B 16 k) ∧ LR R := by
  obtain ⟨σ1, q1, h1⟩ := c_search d h hf
  rw [n5] at q1 h1
  have key : ∃ τ', x_M (d + 3) 136 [.ref 19, .int v] τ = some (nI (if aFd N B 1 (8 - f) < 8 then aFd N B 1 (8 - f) else 255), τ') ∧ XM (if aFd N B 1 (8 - f) < 8 then a_up (aRd B (aFd N B 1 (8 - f)) (B 4 1) 0) 16 1 (aFd N B 1 (8 - f)) else a_up B 16 1 8) τ' := by
    rcases hv with rfl | ⟨rfl, rfl⟩
    · have := y_search d k hf
      rw [n12] at this
      exact this
    · exact y_searchN d k (y_find9 d k)
  obtain ⟨τ1, p1, k1⟩ := key
  rcases aFd_lt N B 1 (8 - f) (by omega) with g | g
  · rw [g, if_neg (by decide)] at q1 h1 p1 k1
    refine ⟨255, a_up (a_up B 7 1 8) 16 1 8, σ1, τ1, q1, p1, xc_oth h1 rfl (show 8 < 4294967296 by decide), ?_, by decide, fun o ho => by rw [a_row (by omega), a_row (by omega)], fun k hk => by rw [a_ne (by omega), a_ne (by omega)], fun k hk => by rw [a_ne (by omega), a_ne (by omega)], ?_⟩
    · rw [a_cm _ (by omega)]
      exact xm_oth k1 rfl (show 8 < 9 by decide)
    · refine Or.inr (Or.inr ⟨a_at _ _ _ _, ?_⟩)
      rw [a_ne (by omega), a_at]
  · rw [if_pos g] at q1 h1 p1 k1
    generalize aFd N B 1 (8 - f) = e at g q1 h1 p1 k1
    refine ⟨e, a_up (aRd (a_up B 7 1 (e + 1)) e (B 4 1) 0) 16 1 e, σ1, τ1, q1, p1, xc_oth h1 rfl (show e < 4294967296 by omega), ?_, by omega, fun o ho => by rw [a_row (by omega), aRd_row _ _ _ _ (by omega), a_row (by omega)], fun k hk => by rw [a_ne (by omega), aRd_row _ _ _ _ (by decide), a_ne (by omega)], fun k hk => by rw [a_ne (by omega), aRd_row _ _ _ _ (by decide), a_ne (by omega)], ?_⟩
    · rw [← aRd_up _ _ _ _ _ _ (by decide) (by decide), a_cm _ (by omega)]
      exact xm_oth k1 rfl (show e + 1 < 9 by omega)
    · refine Or.inr (Or.inl ⟨by rw [a_at]; exact g, ?_⟩)
      rw [a_ne (by omega), aRd_row _ _ _ _ (by decide), a_at, a_at]
theorem f_17 (h : XC A σ) (k : XM A τ) (ha : a < 65536) : FilesOK A σ τ 17 a d := by
  obtain ⟨B, σ1, τ1, N, h1, k1, n5, n12, hB, q1, p1⟩ := f_start d h k ha
  obtain ⟨r, R, σ2, τ2, q2, p2, h2, k2, hr, hR, r7, r16, l2⟩ := f_srch (d + 1) h1 k1 n5 n12 (f := 0) (by omega) (Or.inl rfl)
  refine ⟨r, R, σ2, τ2, ?_, ?_, h2, k2, hr, fun o ho => by rw [hR o (by omega)]; exact hB o (by omega), fun k hk => by rw [r7 k hk, hB 7 (by decide)], fun k hk => by rw [r16 k hk, hB 16 (by decide)], l2⟩
  · rw [m90, q1, bnd0]
    dsimp only
    rw [if_neg (by decide), if_neg (by decide), if_pos (by decide), show (0 : Int32) = nI 0 from rfl, q2, bnd0]
  · rw [m139, p1, bnd0]
    dsimp only
    rw [if_pos (by decide), show (0 : Int32) = nI 0 from rfl, p2, bnd0]
theorem f_18 (h : XC A σ) (k : XM A τ) (ha : a < 65536) (l : LR A) : FilesOK A σ τ 18 a d := by
  obtain ⟨B, σ1, τ1, N, h1, k1, n5, n12, hB, q1, p1⟩ := f_start d h k ha
  have b7 := hB 7 (by decide)
  have b16 := hB 16 (by decide)
  have hf : B 7 1 ≤ 8 := by
    have : B 7 1 < 9 := h1.2 7 1 (by decide)
    omega
  have hv : nI (B 16 1) + 1 = nI (B 7 1) ∨ (B 7 1 = 8 ∧ nI (B 16 1) + 1 = nI 9) := by
    rw [b7, b16]
    rcases l with ⟨l1, l2⟩ | ⟨l1, l2⟩ | ⟨l1, l2⟩
    · left
      rw [l1, l2]
      decide
    · left
      rw [l2, show (1 : Int32) = nI 1 from rfl, nI_add]
    · right
      exact ⟨l2, by rw [l1]; rfl⟩
  obtain ⟨r, R, σ2, τ2, q2, p2, h2, k2, hr, hR, r7, r16, l2⟩ := f_srch (d + 1) h1 k1 n5 n12 hf hv
  refine ⟨r, R, σ2, τ2, ?_, ?_, h2, k2, hr, fun o ho => by rw [hR o (by omega)]; exact hB o (by omega), fun k hk => by rw [r7 k hk, b7], fun k hk => by rw [r16 k hk, b16], l2⟩
  · rw [m90, q1, bnd0]
    dsimp only
    rw [if_neg (by decide), if_neg (by decide), if_neg (by decide), if_pos (by decide), xv_sfr h1, q2, bnd0]
  · rw [m139, p1, bnd0]
    dsimp only
    rw [if_neg (by decide), if_pos (by decide), yv_lst k1, p2, bnd0]
/-- row o anew -/
def aSr (A : aS) (o : Nat) (N : Nat → Nat) : aS := fun o2 => if o2 = o then N else A o2
theorem aSr_at (A : aS) (o : Nat) (N : Nat → Nat) : aSr A o N o = N := if_pos rfl
theorem aSr_r (A : aS) {o o2 : Nat} (N : Nat → Nat) (h : ¬ o2 = o) : aSr A o N o2 = A o2 := if_neg h
theorem f_23 (h : XC A σ) (k : XM A τ) (ha : a < 65536) (l : LR A) : FilesOK A σ τ 23 a d := by
  obtain ⟨B, σ1, τ1, N, h1, k1, n5, n12, hB, q1, p1⟩ := f_start d h k ha
  have q2 := c_find13 (d + 1) h1
  have p2 := y_find (d + 2) k1 (f := 0) (a := 0) (by omega) (by omega)
  rw [n5] at q2
  rw [n12] at p2
  have C : x_M (d + 5) 90 [.ref 12, .int (nI 23), .int (nI a)] σ = ((x_M (d + 4) 89 [.ref 12, .int (nI a)] σ1).bind fun r2 => some (r2.1, r2.2)) := by
    rw [m90, q1, bnd0]
    dsimp only
    rw [if_neg (by decide), if_neg (by decide), if_neg (by decide), if_neg (by decide), if_neg (by decide), if_neg (by decide), if_neg (by decide), if_neg (by decide), if_pos (by decide)]
  rw [m89, q2, bnd0] at C
  have M : x_M (d + 5) 139 [.ref 19, .int (nI 23), .int (nI a)] τ = if nI (aFd N B 0 8) = (-1 : Int32) then some (255, τ1) else xr x_i139 (d + 4) 4999 166 [(0, .ref 19), (1, .int (nI 23)), (2, .int (nI a)), (3, .int (nI (aFd N B 0 8))), (4, .int (1 : Int32))] [] τ1 := by
    rw [m139, p1, bnd0]
    dsimp only
    rw [if_neg (by decide), if_neg (by decide), if_neg (by decide), if_neg (by decide), if_neg (by decide), if_neg (by decide), if_neg (by decide), show (0 : Int32) = nI 0 from rfl, p2, bnd0]
  dsimp only at C
  rcases aFd_lt N B 0 8 (by omega) with g | g
  · rw [g, if_pos (by rfl), bnd0] at C
    rw [g, if_pos (by rfl)] at M
    exact ⟨255, B, σ1, τ1, C, M, h1, k1, by decide, kp_of l hB⟩
  · rw [if_neg (by exact n_m1 (by omega))] at C
    rw [if_neg (by exact n_m1 (by omega)), y_166 d k1 (by decide) (by decide) 4998] at M
    generalize aFd N B 0 8 = e at g C M
    obtain ⟨σ2, q3, h2⟩ := c_tname (d + 1) h1 (a := a + 17) (by omega)
    obtain ⟨σ3, q4, h3⟩ := c_rename13 (d + 1) h2 g
    rw [aNF_5] at h3
    rw [show (17 : Int32) = nI 17 from rfl, nI_add, q3, bnd0] at C
    dsimp only at C
    rw [q4, bnd0, bnd0] at C
    have M : x_M (d + 5) 139 [.ref 19, .int (nI 23), .int (nI a)] τ = xr x_i139 (d + 4) 4997 250 [(0, .ref 19), (1, .int (nI 23)), (2, .int (nI a)), (3, .int (nI e)), (4, .int (1 : Int32))] [] τ1 := by
      refine M.trans ((c139_208 (d + 4) 4997 _ _ _ _ _).trans ?_)
      rw [if_neg (by decide), if_neg (by decide)]
    obtain ⟨τ3, p3, k3⟩ := loopX (X := XM) (F := fun n i σ => xr x_i139 (d + 4) n 250 [(0, .ref 19), (1, .int (nI 23)), (2, .int (nI a)), (3, .int (nI e)), (4, .int (nI i))] [] σ) (S := fun i => aLq B 1 (fun i => 16 * e + i) (fun i => B 0 ((a + 16 + i) % 512)) 1 i) 1 5 (by
      intro n i σ hl hi h
      obtain ⟨q1, h2⟩ := y_m2d (d + 3) (a := a + 16) (by omega) (by omega) hl (by omega) h
      refine ⟨_, ?_, h2⟩
      rw [c139_250, if_neg (by exact n_ge hi (by decide)), if_pos (by decide), show (16 : Int32) = nI 16 from rfl, nI_add, nI_add, q1, bnd0]
      dsimp only
      rw [show nI 16 = (16 : Int32) from rfl, y_16i, if_neg (n_ok (by omega) (by decide)), n_cl (by omega), show (1 : Int32) = nI 1 from rfl, nI_add]) 4 1 4993 τ1 (by omega) (by omega) (by rw [aLq_s]; exact k1)
    have hN : ∀ i, aNa B (a + 17) i < 256 := fun i => x_mem_lt h1.2 _
    have hw : WX (aSr (aLq B 1 (fun i => 16 * e + i) (fun i => B 0 ((a + 16 + i) % 512)) 1 5) 5 (aNa B (a + 17))) := by
      intro o j hj
      by_cases e5 : o = 5
      · subst e5
        rw [aSr_at]
        exact hN j
      · rw [aSr_r _ _ e5]
        exact k3.2 o j hj
    refine ⟨0, aSr (aLq B 1 (fun i => 16 * e + i) (fun i => B 0 ((a + 16 + i) % 512)) 1 5) 5 (aNa B (a + 17)), σ3, τ3, C, M.trans (p3.trans ((c139_250 (d + 4) 4992 _ _ _ _ _).trans ?_)), xc_congr h3 (fun o j hj => ?_) hw, xm_congr k3 (fun o j hj => ?_) hw, by decide, kp_of l (fun o ho => ?_)⟩
    · rw [if_pos (by decide), if_pos (by decide)]
      rfl
    · by_cases e5 : o = 5
      · subst e5
        rw [aSr_at, aRn_row _ _ _ (by decide), aNF_5]
      · have e12 : ¬ o = 12 := fun z => by subst z; exact absurd (show j < 0 from hj) (by omega)
        rw [aSr_r _ _ e5]
        unfold aRn
        rw [aLp_v, aLq_v _ _ _ _ (by omega), aNF_r _ _ (by omega)]
        by_cases z : o = 1 ∧ 16 * e + 1 ≤ j ∧ j < 16 * e + 1 + 4
        · rw [if_pos z, if_pos ⟨z.1, z.2.1, by omega⟩]
          unfold aNa
          rw [show a + 17 + (j - (16 * e + 1)) = a + 16 + (j - 16 * e) from by omega]
        · rw [if_neg z, if_neg (fun q => z ⟨q.1, q.2.1, by omega⟩)]
    · have e5 : ¬ o = 5 := fun z => by subst z; exact absurd (show j < 0 from hj) (by omega)
      rw [aSr_r _ _ e5]
    · rw [aSr_r _ _ (by omega), aLq_row _ _ _ _ _ _ (by omega)]
      exact hB o ho
theorem files_ok (h : XC A σ) (k : XM A τ) (ha : a < 65536) (l : LR A) {c : Nat} (h1 : 15 ≤ c) (h2 : c ≤ 23) : FilesOK A σ τ c a d := by
  have hc : c = 15 ∨ c = 16 ∨ c = 17 ∨ c = 18 ∨ c = 19 ∨ c = 20 ∨ c = 21 ∨ c = 22 ∨ c = 23 := by omega
  rcases hc with rfl | rfl | rfl | rfl | rfl | rfl | rfl | rfl | rfl
  · exact f_15 d h k ha l
  · exact f_16 d h k ha l
  · exact f_17 d h k ha
  · exact f_18 d h k ha l
  · exact f_19 d h k ha l
  · exact f_20 d h k ha l
  · exact f_21 d h k ha l
  · exact f_22 d h k ha l
  · exact f_23 d h k ha l
end A2
