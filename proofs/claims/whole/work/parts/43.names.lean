/-! The class's words and names, the model's names -/
def eW (l : Nat → Nat) (L : Nat) : Nat → Nat
  | 0 => 0
  | i + 1 => wE l L i
theorem wS_e (l : Nat → Nat) (L : Nat) : ∀ i, wS l L i = skp l L true 20 (eW l L i)
  | 0 => rfl
  | _ + 1 => rfl
theorem wE_le (l : Nat → Nat) (L w : Nat) : wE l L w ≤ L := (skp_le l L false 20 _).2 (wS_le l L w)
theorem eW_le (l : Nat → Nat) (L : Nat) : ∀ i, eW l L i ≤ L
  | 0 => Nat.zero_le _
  | i + 1 => wE_le l L i
/-- the words' places, found so far -/
def fw (A : aS) (l : Nat → Nat) (L : Nat) : Nat → aS
  | 0 => a_up A 7 2 0
  | i + 1 => if wS l L i < wE l L i then a_up (a_up (a_up (fw A l L i) 14 i (wS l L i)) 15 i (wE l L i)) 7 2 (fw A l L i 7 2 + 1) else fw A l L i
theorem fw_row (A : aS) (l : Nat → Nat) (L : Nat) {o : Nat} (h7 : ¬ o = 7) (h14 : ¬ o = 14) (h15 : ¬ o = 15) : ∀ i, fw A l L i o = A o
  | 0 => a_row h7
  | i + 1 => by
    rw [fw]
    split
    · rw [a_row h7, a_row h15, a_row h14, fw_row A l L h7 h14 h15 i]
    · exact fw_row A l L h7 h14 h15 i
theorem fw_7 (A : aS) (l : Nat → Nat) (L : Nat) {k : Nat} (hk : ¬ k = 2) : ∀ i, fw A l L i 7 k = A 7 k
  | 0 => a_ne (by omega)
  | i + 1 => by
    rw [fw]
    split
    · rw [a_ne (by omega), a_row (by decide), a_row (by decide), fw_7 A l L hk i]
    · exact fw_7 A l L hk i
theorem fw_w (A : aS) (l : Nat → Nat) (L : Nat) : ∀ i, fw A l L i 7 2 ≤ i
  | 0 => by rw [fw, a_at]; omega
  | i + 1 => by
    rw [fw]
    have := fw_w A l L i
    split
    · rw [a_at]; omega
    · omega
section X1
variable {A : aS} {σ : xS} (d : Nat)
theorem c_words (h : XC A σ) : ∃ σ', x_M (d + 2) 9 [.ref 14] σ = some (0, σ') ∧ XC (fw A (A 6) (A 7 5) 3) σ' := by
  have hL := x_lenC h.2
  have h0 : XC (fw A (A 6) (A 7 5) 0) (x_up σ 14 8 (nI 0)) := xc_up h 7 2 (by decide) (show 0 < 4 by decide)
  obtain ⟨σ1, q1, h1⟩ := loopX (X := XC) (F := fun n i σ => xr x_i9 (d + 1) n 9 [(0, .ref 14), (1, .int (nI (eW (A 6) (A 7 5) i))), (2, .int (nI i))] [] σ) (S := fun i => fw A (A 6) (A 7 5) i) 0 3 (by
    intro n i σ hl hi h
    have r6 : fw A (A 6) (A 7 5) i 6 = A 6 := fw_row A _ _ (by decide) (by decide) (by decide) i
    have r7 : fw A (A 6) (A 7 5) i 7 5 = A 7 5 := fw_7 A _ _ (by decide) i
    have hw := fw_w A (A 6) (A 7 5) i
    have he := eW_le (A 6) (A 7 5) i
    have hs := wS_le (A 6) (A 7 5) i
    have hE := wE_le (A 6) (A 7 5) i
    have q1 := c_skip d h true (i := eW (A 6) (A 7 5) i) (by omega)
    rw [r6, r7, ← wS_e] at q1
    have q2 := c_skip d h false (i := wS (A 6) (A 7 5) i) (by omega)
    rw [r6, r7] at q2
    have q1 : x_M (d + 1) 8 [.ref 14, .int (nI (eW (A 6) (A 7 5) i)), .int (1 : Int32)] σ = some (nI (wS (A 6) (A 7 5) i), σ) := q1
    have q2 : x_M (d + 1) 8 [.ref 14, .int (nI (wS (A 6) (A 7 5) i)), .int (0 : Int32)] σ = some (nI (wE (A 6) (A 7 5) i), σ) := q2
    have wv := xv_wds h
    rw [c9_9, if_neg (by exact n_ge hi (by decide)), q1, bnd0]
    dsimp only
    rw [q2, bnd0]
    dsimp only
    rw [fw]
    by_cases g : wS (A 6) (A 7 5) i < wE (A 6) (A 7 5) i
    · have s1 : XC (a_up (fw A (A 6) (A 7 5) i) 14 i (wS (A 6) (A 7 5) i)) (x_up σ 16 i (nI (wS (A 6) (A 7 5) i))) := xc_up h 14 i hi (show wS (A 6) (A 7 5) i < 21 by omega)
      have s2 : XC (a_up (a_up (fw A (A 6) (A 7 5) i) 14 i (wS (A 6) (A 7 5) i)) 15 i (wE (A 6) (A 7 5) i)) (x_up (x_up σ 16 i (nI (wS (A 6) (A 7 5) i))) 17 i (nI (wE (A 6) (A 7 5) i))) := xc_up s1 15 i hi (show wE (A 6) (A 7 5) i < 21 by omega)
      have s3 := xc_up s2 7 2 (v := fw A (A 6) (A 7 5) i 7 2 + 1) (by decide) (show fw A (A 6) (A 7 5) i 7 2 + 1 < 4 by omega)
      refine ⟨_, ?_, by rw [if_pos g]; exact s3⟩
      rw [if_neg (by exact n_ge g (by omega)), if_neg (n_ok hi (by decide)), if_neg (n_ok hi (by decide)), n_cl (by omega), x_up_oth (by decide), x_up_oth (by decide), wv, show (1 : Int32) = nI 1 from rfl, nI_add, nI_add]
      rfl
    · refine ⟨σ, ?_, by rw [if_neg g]; exact h⟩
      rw [if_pos (by exact (nI_leI (by omega) (by omega)).mpr (by omega)), show (1 : Int32) = nI 1 from rfl, nI_add]
      rfl) 3 0 4996 _ (by omega) (by omega) h0
  refine ⟨σ1, ?_, h1⟩
  rw [m9]
  refine q1.trans ((c9_9 (d + 1) 4995 _ _ _).trans ?_)
  rw [if_pos (by decide)]
end X1
