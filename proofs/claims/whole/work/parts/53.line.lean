/-! A line's end -/
def nd (m : Nat) : Nat := ([1, 2, 2, 3, 3, 1, 0] : List Nat).getD m 0
theorem nd_eq {m : Nat} (hm : m < 7) : ([1, 2, 2, 3, 3, 1, 0] : List Int32).getD (nI m).toNatClampNeg 0 = nI (nd m) := by
  rw [n_cl (by omega)]
  have e : m = 0 ∨ m = 1 ∨ m = 2 ∨ m = 3 ∨ m = 4 ∨ m = 5 ∨ m = 6 := by omega
  rcases e with rfl | rfl | rfl | rfl | rfl | rfl | rfl <;> rfl
section LN
variable {B : aS} {σ τ : xS} (d : Nat) {l : Nat → Nat} {L : Nat}
theorem cmd_ok (d2 : Nat) (h : XC B σ) (k : XM B τ) (w : Wd B l L) (h0 : wS l L 0 < L) (ht : B 4 0 + 200 < 2147483648) : cmdN l L < 6 ∧ ((B 7 2 < nd (cmdN l L) ∧ x_M (d2 + 5) 132 [.ref 19] τ = some ((0 : Int32), τ)) ∨ (nd (cmdN l L) ≤ B 7 2 ∧ CmdR d d2 B σ τ (cmdN l L))) := by
  have w7 := w.2.2.2.1
  have pm := p_mono l L 1
  rw [if_pos h0] at w7
  unfold cmdN
  cases g0 : isW l L 76 73 83 84
  · rw [iF]
    cases g1 : isW l L 83 72 79 87
    · rw [iF]
      cases g2 : isW l L 68 82 79 80
      · rw [iF]
        cases g3 : isW l L 67 65 76 76
        · rw [iF]
          cases g4 : isW l L 83 65 86 69
          · rw [iF]
            refine ⟨by decide, Or.inr ⟨?_, cmd_load d d2 h k w h0 g0 g1 g2 g3 g4⟩⟩
            rw [w7]
            split
            · split <;> decide
            · decide
          · rw [iT]
            refine ⟨by decide, ?_⟩
            by_cases hp : wS l L 2 < L
            · have hp1 := pm hp
              rw [if_pos hp1, if_pos hp] at w7
              exact Or.inr ⟨by rw [w7]; decide, cmd_save d d2 h k w h0 g0 g4 hp1 hp⟩
            · have y := y_132 d2 k w.1 w.2.1 h0 g0 g1 g2 g3 g4
              rw [decide_eq_false hp, if_pos (by simp)] at y
              refine Or.inl ⟨?_, y⟩
              rw [w7, if_neg hp]
              split <;> decide
        · rw [iT]
          refine ⟨by decide, ?_⟩
          by_cases hp : wS l L 2 < L
          · have hp1 := pm hp
            rw [if_pos hp1, if_pos hp] at w7
            exact Or.inr ⟨by rw [w7]; decide, cmd_call d d2 h k w h0 g0 g3 hp1 hp⟩
          · have y := y_132 d2 k w.1 w.2.1 h0 g0 g1 g2 g3 rfl
            rw [decide_eq_false hp, if_pos (by simp)] at y
            refine Or.inl ⟨?_, y⟩
            rw [w7, if_neg hp]
            split <;> decide
      · rw [iT]
        refine ⟨by decide, ?_⟩
        by_cases hp : wS l L 1 < L
        · refine Or.inr ⟨?_, cmd_drop d d2 h k w h0 g0 g2 hp⟩
          rw [w7, if_pos hp]
          split <;> decide
        · have y := y_132 d2 k w.1 w.2.1 h0 g0 g1 g2 rfl rfl
          rw [decide_eq_false hp, if_pos (by simp)] at y
          refine Or.inl ⟨?_, y⟩
          rw [w7, if_neg hp]
          decide
    · rw [iT]
      refine ⟨by decide, ?_⟩
      by_cases hp : wS l L 1 < L
      · refine Or.inr ⟨?_, cmd_show d d2 h k w h0 g0 g1 hp ht⟩
        rw [w7, if_pos hp]
        split <;> decide
      · have y := y_132 d2 k w.1 w.2.1 h0 g0 g1 rfl rfl rfl
        rw [decide_eq_false hp, if_pos (by simp)] at y
        refine Or.inl ⟨?_, y⟩
        rw [w7, if_neg hp]
        decide
  · rw [iT]
    refine ⟨by decide, Or.inr ⟨?_, cmd_list d d2 h k w h0 g0 ht⟩⟩
    rw [w7]
    split
    · split <;> decide
    · decide
/-- the class's last part: no run begins -/
theorem c_tail (h : XC B σ) (ht : B 4 0 + 10 < 2147483648) {v1 v2 : Int32} (hv : v2 = 0 ∨ ¬ v1 = (5 : Int32)) : ∃ σ', xr x_i41 (d + 1) 4999 53 [(0, .ref 14), (1, .int v1), (2, .int v2)] [] σ = some (nI (bN false), σ') ∧ XC (aSh (aSh B 13) 62) σ' := by
  obtain ⟨σ1, q1, h1⟩ := c_show d h (v := 13) (by decide) (by omega)
  obtain ⟨σ2, q2, h2⟩ := c_show d h1 (v := 62) (by decide) (by rw [aSh_t]; omega)
  have q1 : x_M (d + 1) 14 [.ref 10, .int (13 : Int32)] σ = some (0, σ1) := q1
  have q2 : x_M (d + 1) 14 [.ref 10, .int (62 : Int32)] σ1 = some (0, σ2) := q2
  refine ⟨σ2, (c41_53 (d + 1) 4998 _ _ _).trans ?_, h2⟩
  rw [q1, bnd0]
  dsimp only
  by_cases g : v2 = 0
  · rw [if_pos g, if_pos (show (0 : Int32) = 0 from rfl), q2, bnd0]
    rfl
  · rw [if_neg g, if_neg (hv.resolve_left g), if_pos (show (0 : Int32) = 0 from rfl), q2, bnd0]
    rfl
/-- the model's last part at the desk -/
theorem y_tail (k : XM B τ) (hm : B 16 3 = 0) (ht : B 4 0 + 10 < 2147483648) : ∃ τ', ((x_M (d + 1) 113 [.ref 19, .int (13 : Int32)] τ).bind fun r2 => (if (r2.2 19 12) = 0 then ((x_M (d + 1) 113 [.ref 19, .int (62 : Int32)] r2.2).bind fun r3 => some ((0 : Int32), (x_up r3.2 19 15 (0 : Int32)))) else some ((0 : Int32), (x_up r2.2 19 15 (0 : Int32))))) = some ((0 : Int32), τ') ∧ XM (a_up (aSh (aSh B 13) 62) 16 4 0) τ' := by
  obtain ⟨σ1, q1, h1⟩ := y_show d k (v := 13) (by decide) (by omega)
  obtain ⟨σ2, q2, h2⟩ := y_show d h1 (v := 62) (by decide) (by rw [aSh_t]; omega)
  have q1 : x_M (d + 1) 113 [.ref 19, .int (13 : Int32)] τ = some (0, σ1) := q1
  have q2 : x_M (d + 1) 113 [.ref 19, .int (62 : Int32)] σ1 = some (0, σ2) := q2
  refine ⟨x_up σ2 19 15 (nI 0), ?_, xm_up h2 16 4 (by decide) (show 0 < 21 by decide)⟩
  rw [q1, bnd0]
  dsimp only
  rw [if_pos (by rw [yv_mod h1, aSh_row _ _ (by decide) (by decide), hm]; rfl), q2, bnd0]
  rfl
/-- what a line leaves -/
def LK (A R : aS) : Prop := (R 3 = A 3 ∧ R 9 = A 9 ∧ R 10 = A 10) ∧ (∀ k, ¬ k = 2 → ¬ k = 5 → R 7 k = A 7 k) ∧ (∀ k, ¬ k = 4 → R 16 k = A 16 k) ∧ (∀ k, ¬ k = 0 → R 4 k = A 4 k) ∧ R 4 0 ≤ A 4 0 + 163 ∧ R 7 5 = 0 ∧ R 16 4 = 0
def aBg (R : aS) : aS := a_up (a_up (aMg R (aBeg R)) 4 1 128) 16 3 1
def QQ (A B : aS) : Prop := ∀ o, o = 0 ∨ o = 2 ∨ o = 3 → A o = B o
theorem qq_up {A B : aS} (h : QQ A B) (o k v : Nat) : QQ (a_up A o k v) (a_up B o k v) := fun a ha => by
  funext j
  have e := h a ha
  simp only [a_up, e]
theorem qq_lp {A B : aS} (h : QQ A B) (o : Nat) (g f : Nat → Nat) : ∀ n, QQ (aLp A o g f n) (aLp B o g f n)
  | 0 => h
  | n + 1 => qq_up (qq_lp h o g f n) _ _ _
theorem qq_beg {A B : aS} (h : QQ A B) : QQ (aBeg A) (aBeg B) := by
  unfold aBeg aPu aSF aZ8 aLq
  rw [a_at, a_at]
  exact qq_up (qq_up (qq_up (qq_up (qq_up (qq_up (qq_up (qq_up (qq_up (qq_up (qq_lp h _ _ _ _) _ _ _) _ _ _) _ _ _) _ _ _) _ _ _) _ _ _) _ _ _) _ _ _) _ _ _) _ _ _
theorem bg_sh (R : aS) : a_up (aSh (aBg R) 13) 16 4 0 = aBg (a_up (aSh R 13) 16 4 0) := by
  have q : QQ R (a_up (aSh R 13) 16 4 0) := fun o ho => by rw [a_row (by omega), aSh_row _ _ (by omega) (by omega)]
  have q2 := qq_beg q
  have e4 : aBg R 4 0 = R 4 0 := by
    unfold aBg
    rw [a_row (by decide), a_ne (by omega), aMg_r _ _ (by decide)]
  funext o k
  unfold aBg aSh at *
  rw [e4]
  by_cases c : o = 0 ∨ o = 2 ∨ o = 3
  · rw [a_row (o := 16) (a := o) (by omega), a_row (o := 4) (a := o) (by omega), a_row (o := 8) (a := o) (by omega), a_row (o := 16) (a := o) (by omega), a_row (o := 4) (a := o) (by omega), aMg_p _ _ c, a_row (o := 16) (a := o) (by omega), a_row (o := 4) (a := o) (by omega), aMg_p _ _ c, q2 o c]
  · simp only [a_up, aMg, c, if_false]
    by_cases c16 : o = 16
    · subst c16
      simp
      by_cases k4 : k = 4
      · subst k4; simp
      · simp [k4]
    · by_cases c4 : o = 4
      · subst c4
        simp
        by_cases k0 : k = 0
        · subst k0; simp
        · simp [k0]
      · simp [c16, c4]
end LN
