/-! What the found words are -/
theorem wS_stop (l : Nat → Nat) (L w : Nat) (hL : L ≤ 20) : ¬ (wS l L w < L ∧ decide (l (wS l L w) = 32) = true) := by
  have h := skp_end l L true 20 (eW l L w) (by omega)
  rw [← wS_e] at h
  exact h
theorem p_iff (l : Nat → Nat) (L w : Nat) (hL : L ≤ 20) : wS l L w < wE l L w ↔ wS l L w < L := by
  have h1 := wE_le l L w
  have h2 := (skp_le l L false 20 (wS l L w)).1
  have h3 := skp_end l L false 20 (wS l L w) (by omega)
  have h4 := wS_stop l L w hL
  constructor
  · intro h; omega
  · intro h
    by_cases g : wS l L w < wE l L w
    · exact g
    · have e : skp l L false 20 (wS l L w) = wS l L w := by
        unfold wE at g
        omega
      rw [e] at h3
      cases gd : decide (l (wS l L w) = 32)
      · exact absurd ⟨h, gd⟩ h3
      · exact absurd ⟨h, gd⟩ h4
theorem p_mono (l : Nat → Nat) (L w : Nat) (h : wS l L (w + 1) < L) : wS l L w < L := by
  have h1 := (skp_le l L false 20 (wS l L w)).1
  have h2 : wS l L (w + 1) = skp l L true 20 (skp l L false 20 (wS l L w)) := rfl
  have h3 := (skp_le l L true 20 (skp l L false 20 (wS l L w))).1
  omega
theorem fw_3 (A : aS) (l : Nat → Nat) (L : Nat) (hL : L ≤ 20) : fw A l L 3 7 2 = (if wS l L 0 < L then (if wS l L 1 < L then (if wS l L 2 < L then 3 else 2) else 1) else 0) ∧ ∀ w, w < 3 → wS l L w < L → fw A l L 3 14 w = wS l L w ∧ fw A l L 3 15 w = wE l L w := by
  have m0 := p_mono l L 0
  have m1 := p_mono l L 1
  have i0 := p_iff l L 0 hL
  have i1 := p_iff l L 1 hL
  have i2 := p_iff l L 2 hL
  by_cases g0 : wS l L 0 < L
  · by_cases g1 : wS l L 1 < L
    · by_cases g2 : wS l L 2 < L
      · refine ⟨?_, fun w hw _ => ?_⟩
        · rw [if_pos g0, if_pos g1, if_pos g2, fw, if_pos (i2.mpr g2), a_at, fw, if_pos (i1.mpr g1), a_at, fw, if_pos (i0.mpr g0), a_at, fw, a_at]
        · have hw' : w = 0 ∨ w = 1 ∨ w = 2 := by omega
          rw [fw, if_pos (i2.mpr g2), fw, if_pos (i1.mpr g1), fw, if_pos (i0.mpr g0)]
          rcases hw' with rfl | rfl | rfl <;> simp [a_up]
      · refine ⟨?_, fun w hw hp => ?_⟩
        · rw [if_pos g0, if_pos g1, if_neg g2, fw, if_neg (fun z => g2 (i2.mp z)), fw, if_pos (i1.mpr g1), a_at, fw, if_pos (i0.mpr g0), a_at, fw, a_at]
        · have hw' : w = 0 ∨ w = 1 ∨ w = 2 := by omega
          rw [fw, if_neg (fun z => g2 (i2.mp z)), fw, if_pos (i1.mpr g1), fw, if_pos (i0.mpr g0)]
          rcases hw' with rfl | rfl | rfl
          · simp [a_up]
          · simp [a_up]
          · exact absurd hp g2
    · have g2 : ¬ wS l L 2 < L := fun z => g1 (m1 z)
      refine ⟨?_, fun w hw hp => ?_⟩
      · rw [if_pos g0, if_neg g1, fw, if_neg (fun z => g2 (i2.mp z)), fw, if_neg (fun z => g1 (i1.mp z)), fw, if_pos (i0.mpr g0), a_at, fw, a_at]
      · have hw' : w = 0 ∨ w = 1 ∨ w = 2 := by omega
        rw [fw, if_neg (fun z => g2 (i2.mp z)), fw, if_neg (fun z => g1 (i1.mp z)), fw, if_pos (i0.mpr g0)]
        rcases hw' with rfl | rfl | rfl
        · simp [a_up]
        · exact absurd hp g1
        · exact absurd hp g2
  · have g1 : ¬ wS l L 1 < L := fun z => g0 (m0 z)
    have g2 : ¬ wS l L 2 < L := fun z => g1 (m1 z)
    refine ⟨?_, fun w hw hp => ?_⟩
    · rw [if_neg g0, fw, if_neg (fun z => g2 (i2.mp z)), fw, if_neg (fun z => g1 (i1.mp z)), fw, if_neg (fun z => g0 (i0.mp z)), fw, a_at]
    · have hw' : w = 0 ∨ w = 1 ∨ w = 2 := by omega
      rcases hw' with rfl | rfl | rfl
      · exact absurd hp g0
      · exact absurd hp g1
      · exact absurd hp g2
