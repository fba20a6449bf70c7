/-! The model's instruction beside the class's step; what it leaves alone -/
theorem n_div8 {y : Nat} (hy : y < 2147483648) : nI y / 8 = nI (y / 8) := n_div (d := 8) hy (by decide) (by decide)
theorem n_div64 {y : Nat} (hy : y < 2147483648) : nI y / 64 = nI (y / 64) := n_div (d := 64) hy (by decide) (by decide)
def isCpuM (j : Nat) : Bool := [122, 127, 128, 129, 130, 134, 141, 142, 144, 145, 146, 147, 148, 149, 150, 151, 152, 153, 154, 155, 156, 157, 158, 162].any (Nat.beq j)
def isCpuM2 (j : Nat) : Bool := Nat.beq j 159 || isCpuM j
theorem cpuM_12 {d j : Nat} {as : List Value} {σ : xS} {r : xR} (hj : isCpuM j = true) (h : x_M d j as σ = some r) : r.2 19 12 = σ 19 12 := x_fd (c0 := 8) (fs0 := _) rfl (by decide +kernel) d j as σ r hj h
def K_cpuM (o : Nat) : Bool := Nat.beq o 19 || Nat.beq o 20 || Nat.beq o 22 || Nat.ble 900 o
theorem cpuM_f0 : x_fds isCpuM2 8 0 = true := by decide +kernel
theorem cpuM_f6 : x_fds isCpuM2 8 6 = true := by decide +kernel
theorem cpuM_f13 : x_fds isCpuM2 8 13 = true := by decide +kernel
theorem cpuM_f15 : x_fds isCpuM2 8 15 = true := by decide +kernel
theorem cpuM_f17 : x_fds isCpuM2 8 17 = true := by decide +kernel
theorem cpuM_f19 : x_fds isCpuM2 8 19 = true := by decide +kernel
theorem cpuM_f20 : x_fds isCpuM2 8 20 = true := by decide +kernel
theorem cpuM_fr : x_frs isCpuM2 K_cpuM = true := by decide +kernel
/-- the rest of the model: what a step of the processor leaves -/
def mKeep (σ τ : xS) : Prop := (∀ f, (f = 0 ∨ f = 6 ∨ f = 13 ∨ f = 15 ∨ f = 17 ∨ f = 19 ∨ f = 20) → τ 19 f = σ 19 f) ∧ ∀ o, (o = 21 ∨ o = 23 ∨ o = 24 ∨ o = 25 ∨ o = 26) → τ o = σ o
theorem cpuM_keep {d : Nat} {σ : xS} {r : xR} (h : x_M d 159 [.ref 19] σ = some r) : mKeep σ r.2 := by
  have hj : isCpuM2 159 = true := by decide
  refine ⟨fun f hf => ?_, fun o ho => ?_⟩
  · rcases hf with rfl | rfl | rfl | rfl | rfl | rfl | rfl
    · exact x_fd (c0 := 8) (fs0 := _) rfl cpuM_f0 d _ _ σ r hj h
    · exact x_fd (c0 := 8) (fs0 := _) rfl cpuM_f6 d _ _ σ r hj h
    · exact x_fd (c0 := 8) (fs0 := _) rfl cpuM_f13 d _ _ σ r hj h
    · exact x_fd (c0 := 8) (fs0 := _) rfl cpuM_f15 d _ _ σ r hj h
    · exact x_fd (c0 := 8) (fs0 := _) rfl cpuM_f17 d _ _ σ r hj h
    · exact x_fd (c0 := 8) (fs0 := _) rfl cpuM_f19 d _ _ σ r hj h
    · exact x_fd (c0 := 8) (fs0 := _) rfl cpuM_f20 d _ _ σ r hj h
  · refine x_frame2 cpuM_fr (fun o h9 => ?_) d 159 _ σ r hj h (fun v hv => ?_) o ?_
    · unfold K_cpuM
      rw [Nat.ble_eq_true_of_le h9, Bool.or_true]
    · rcases List.mem_cons.mp hv with rfl | hv
      · intro a ha; cases ha; rfl
      · cases hv
    · rcases ho with rfl | rfl | rfl | rfl | rfl <;> decide
section M8
variable {A : aS} {σ : xS} (d : Nat)
theorem m_fin {B : aS} (h : CQ B σ) : CQ (nrm B) (x_up σ 19 5 (σ 19 5 &&& Int32.ofNat 65535)) := by
  have hp := h.2.2.2.2.1
  rw [mv_pc h, n_and65535 (by omega)]
  exact mq_pc h (by omega)
theorem m_instr (h : CQ A σ) (hp : A 3 1 < 65536) : ∃ σ', x_M (d + 6) 159 [.ref 19] σ = some (0, σ') ∧ CQ (aSt A (A 0 (A 3 1 % 512))) σ' ∧ σ' 19 12 = (if A 0 (A 3 1 % 512) = 118 then 0 else σ 19 12) ∧ aSt A (A 0 (A 3 1 % 512)) 3 1 < 65536 := by
  have hc := h.2.1 (A 3 1 % 512) (by omega)
  have h1 : CQ (a_up A 3 1 (A 3 1 + 1)) (x_up σ 19 5 (nI (A 3 1 + 1))) := mq_pc h (by omega)
  have hn : nrm (a_up A 3 1 (A 3 1 + 1)) = aNx A := by
    unfold nrm aNx
    rw [a_at, a_id]
  have fin : ∀ {τ : xS} {B C : aS}, CQ B τ → nrm B = C → CQ C (x_up τ 19 5 (τ 19 5 &&& Int32.ofNat 65535)) ∧ C 3 1 < 65536 := fun {τ B C} hB e => by
    subst e
    exact ⟨m_fin hB, by rw [nrm_v]; omega⟩
  have k12 : ∀ (τ : xS) (v : Int32), x_up τ 19 5 v 19 12 = τ 19 12 := fun τ v => x_up_off (by decide)
  rw [m159, mv_pc h, m_get (d + 4) h (by omega), bnd0]
  dsimp only
  generalize A 0 (A 3 1 % 512) = c at hc ⊢
  have hz : c % 8 < 8 := by omega
  have hy : c / 8 % 8 < 8 := by omega
  have hpc : a_up A 3 1 (A 3 1 + 1) 3 1 < 66000 := by rw [a_at]; omega
  rw [mv_pc h, n_div64 (by omega), n_rem8 (y := c) (by omega), n_div8 (y := c) (by omega), n_rem8 (y := c / 8) (by omega), show (1 : Int32) = nI 1 from rfl, nI_add]
  unfold aSt
  by_cases g0 : c = 118
  · subst g0
    have h2 : CQ (a_up A 3 1 (A 3 1 + 1)) (x_up (x_up σ 19 5 (nI (A 3 1 + 1))) 19 12 0) := ⟨⟨fun i hi => by rw [x_up_oth (by decide)]; exact h1.1.1 i hi, fun i hi => by rw [x_up_oth (by decide)]; exact h1.1.2.1 i hi, fun k hk => by
      rw [x_up_off (by have : ∀ k, k < 7 → ¬ mk k = 12 := by decide
                       exact this k hk)]
      exact h1.1.2.2 k hk⟩, h1.2⟩
    have q := fin h2 hn
    rw [if_neg (by decide), if_pos (by decide), if_pos (by decide), if_pos (by decide), if_pos rfl, if_pos rfl]
    exact ⟨_, rfl, q.1, by rw [k12, x_up_at], q.2⟩
  · rw [if_neg g0, if_neg g0]
    by_cases g1 : c / 64 = 0
    · obtain ⟨σ2, B, e2, h2, n2, -⟩ := m_steps0 (d + 1) h1 hy hz hpc
      rw [hn] at n2
      have q := fin h2 n2
      rw [if_pos g1, g1, if_pos (show nI 0 = (0 : Int32) from rfl), e2, bnd0]
      refine ⟨_, rfl, q.1, ?_, q.2⟩
      rw [k12]
      exact (cpuM_12 (by decide) e2).trans (k12 _ _)
    · rw [if_neg g1, if_neg (nz (by omega) g1)]
      have hcut : ∃ σ', xr x_i159 (d + 5) 4999 78 [(0, .ref 19), (2, .int (nI (c / 64))), (3, .int (nI (c / 8 % 8))), (4, .int (nI (c % 8)))] [] (x_up σ 19 5 (nI (A 3 1 + 1))) = some (0, σ') ∧ CQ (if c / 64 = 1 then aPR (aNx A) (c / 8 % 8) (aGr (aNx A) (c % 8)) else if c / 64 = 2 then aCb (aNx A) (c / 8 % 8) (aGr (aNx A) (c % 8)) else if c % 8 = 6 then aCb (aN2 A) (c / 8 % 8) (aNx A 0 (aNx A 3 1 % 512)) else aBS (aNx A) (c / 8 % 8) (c % 8)) σ' ∧ σ' 19 12 = σ 19 12 ∧ (if c / 64 = 1 then aPR (aNx A) (c / 8 % 8) (aGr (aNx A) (c % 8)) else if c / 64 = 2 then aCb (aNx A) (c / 8 % 8) (aGr (aNx A) (c % 8)) else if c % 8 = 6 then aCb (aN2 A) (c / 8 % 8) (aNx A 0 (aNx A 3 1 % 512)) else aBS (aNx A) (c / 8 % 8) (c % 8)) 3 1 < 65536 := by
        rw [c159_78 (d + 5) 4998]
        have hg := aGr_lt h1.2 hz
        have qg := m_getR (d + 3) h1 hz
        by_cases g2 : c / 64 = 1
        · obtain ⟨σ2, e2, h2⟩ := m_putR (d + 3) h1 hy hg
          have q := fin h2 (C := aPR (aNx A) (c / 8 % 8) (aGr (aNx A) (c % 8))) (by rw [← hn, aGr_n, aPR_n])
          rw [if_pos g2, if_pos (show nI (c / 64) = 1 by rw [g2]; rfl), qg, bnd0]
          dsimp only
          rw [e2, bnd0]
          refine ⟨_, rfl, q.1, ?_, q.2⟩
          rw [k12]
          exact (cpuM_12 (by decide) e2).trans (k12 _ _)
        · rw [if_neg g2, if_neg (show ¬ nI (c / 64) = 1 from fun z => g2 ((nI_eq (b := 1) (by omega) (by omega)).mp z))]
          by_cases g3 : c / 64 = 2
          · obtain ⟨σ2, e2, h2⟩ := m_reckons (d + 3) h1 hy hg
            have q := fin h2 (C := aCb (aNx A) (c / 8 % 8) (aGr (aNx A) (c % 8))) (by rw [← hn, aGr_n, aCb_n])
            rw [if_pos g3, if_pos (show nI (c / 64) = 2 by rw [g3]; rfl), qg, bnd0]
            dsimp only
            rw [e2, bnd0]
            refine ⟨_, rfl, q.1, ?_, q.2⟩
            rw [k12]
            exact (cpuM_12 (by decide) e2).trans (k12 _ _)
          · rw [if_neg g3, if_neg (show ¬ nI (c / 64) = 2 from fun z => g3 ((nI_eq (b := 2) (by omega) (by omega)).mp z))]
            obtain ⟨σ2, B, e2, h2, n2, -⟩ := m_steps3 d h1 hy hz hpc
            rw [hn] at n2
            have q := fin h2 n2
            rw [e2, bnd0]
            exact ⟨_, rfl, q.1, by rw [k12]; exact (cpuM_12 (by decide) e2).trans (k12 _ _), q.2⟩
      by_cases g2 : c / 64 = 1
      · rw [if_pos (show nI (c / 64) = nI 1 by rw [g2])]
        by_cases gy : c / 8 % 8 = 6
        · rw [if_pos (show nI (c / 8 % 8) = 6 by rw [gy]; rfl), if_neg (show ¬ nI (c % 8) = 6 from fun z => by
            have := (nI_eq (b := 6) (by omega) (by omega)).mp z
            omega)]
          exact hcut
        · rw [if_neg (show ¬ nI (c / 8 % 8) = 6 from fun z => gy ((nI_eq (b := 6) (by omega) (by omega)).mp z))]
          exact hcut
      · rw [if_neg (show ¬ nI (c / 64) = nI 1 from fun z => g2 ((nI_eq (by omega) (by omega)).mp z))]
        exact hcut
end M8
