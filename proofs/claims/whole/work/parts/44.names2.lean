/-! Names of the desk's commands -/
def aND (A : aS) (N : Nat → Nat) : aS := fun o => if o = 11 ∨ o = 12 then N else A o
theorem aND_r (A : aS) (N : Nat → Nat) {o : Nat} (h : ¬ (o = 11 ∨ o = 12)) : aND A N o = A o := if_neg h
theorem aND_11 (A : aS) (N : Nat → Nat) : aND A N 11 = N := if_pos (Or.inl rfl)
theorem aND_12 (A : aS) (N : Nat → Nat) : aND A N 12 = N := if_pos (Or.inr rfl)
theorem wx_nd {A : aS} (w : WX A) {N : Nat → Nat} (hN : ∀ k, k < 4 → N k < 256) : WX (aND A N) := by
  intro o k hk
  by_cases e : o = 11 ∨ o = 12
  · rcases e with rfl | rfl
    · rw [aND_11]; exact hN k hk
    · rw [aND_12]; exact hN k hk
  · rw [aND_r A N e]; exact w o k hk
/-- the name out of word w's places -/
def wN4 (A : aS) (w : Nat) : Nat → Nat := fun k => if A 14 w + k < A 15 w then A 6 (A 14 w + k) else 32
section X2
variable {A : aS} {σ : xS} (d : Nat)
theorem c_tn (h : XC A σ) {w : Nat} (hw : w < 3) : ∃ σ', x_M (d + 1) 16 [.ref 14, .int (nI w)] σ = some (0, σ') ∧ XC (aND A (wN4 A w)) σ' := by
  have h14 : A 14 w < 21 := h.2 14 w hw
  have h15 : A 15 w < 21 := h.2 15 w hw
  have hN : ∀ k, k < 4 → wN4 A w k < 256 := fun k hk => by
    unfold wN4
    split
    · exact x_lin_lt h.2 (by omega)
    · decide
  obtain ⟨σ1, q1, h1⟩ := loopX (X := XC) (F := fun n i σ => xr x_i16 d n 2 [(0, .ref 14), (1, .int (nI w)), (2, .int (nI i))] [] σ) (S := fun i => aLq A 11 (fun i => 0 + i) (wN4 A w) 0 i) 0 4 (by
    intro n i σ hl hi h
    have r6 : aLq A 11 (fun i => 0 + i) (wN4 A w) 0 i 6 = A 6 := aLq_row _ _ _ _ _ _ (by decide)
    have r14 : aLq A 11 (fun i => 0 + i) (wN4 A w) 0 i 14 = A 14 := aLq_row _ _ _ _ _ _ (by decide)
    have r15 : aLq A 11 (fun i => 0 + i) (wN4 A w) 0 i 15 = A 15 := aLq_row _ _ _ _ _ _ (by decide)
    have v14 := xv_wst h hw
    have v15 := xv_wen h hw
    rw [r14] at v14
    rw [r15] at v15
    refine ⟨x_up σ 18 i (nI (wN4 A w i)), ?_, ?_⟩
    · rw [c16_2, if_neg (by exact n_ge hi (by decide)), if_neg (n_ok hw (by decide)), if_neg (n_ok hw (by decide)), n_cl (a := w) (by omega), show (1 : Int32) = nI 1 from rfl, nI_add]
      unfold wN4
      by_cases g : A 14 w + i < A 15 w
      · have v6 := xv_lin h (i := A 14 w + i) (by omega)
        rw [r6] at v6
        rw [if_neg (by rw [v14, v15, nI_add]; exact n_ge g (by omega)), if_neg (by rw [v14, nI_add]; exact n_ok (by omega) (by decide)), if_neg (n_ok hi (by decide)), n_cl (a := i) (by omega), v14, nI_add, n_cl (by omega), v6, if_pos g]
      · rw [if_pos (by rw [v14, v15, nI_add]; exact (nI_leI (by omega) (by omega)).mpr (by omega)), if_neg (n_ok hi (by decide)), n_cl (a := i) (by omega), if_neg g]
        rfl
    · rw [aLq_n _ _ _ _ hl, Nat.zero_add]
      exact xc_up h 11 i hi (hN i hi)) 4 0 4995 σ (by omega) (by omega) (by rw [aLq_s]; exact h)
  refine ⟨σ1, ?_, xc_congr h1 (fun o k hk => ?_) (wx_nd h.2 hN)⟩
  · rw [m16]
    refine q1.trans ((c16_2 d 4994 _ _ _).trans ?_)
    rw [if_pos (by decide)]
  · rw [aLq_v _ _ _ _ (by omega)]
    by_cases e : o = 11
    · subst e
      have hk : k < 4 := hk
      rw [if_pos ⟨rfl, by omega, by omega⟩, aND_11, Nat.sub_zero]
    · by_cases e2 : o = 12
      · subst e2; exact absurd (show k < 0 from hk) (by omega)
      · rw [if_neg (fun z => e z.1), aND_r A _ (by omega)]
theorem y_nameOf (h : XM A σ) {w : Nat} (hw : w < 3) : ∃ σ', x_M (d + 3) 115 [.ref 19, .int (nI w)] σ = some (0, σ') ∧ XM (aND A (fun k => chr (A 6) (A 16 4) w k)) σ' := by
  have hL := x_lenM h.2
  have hN : ∀ k, k < 4 → (fun k => chr (A 6) (A 16 4) w k) k < 256 := fun k _ => chr_lt h.2 (by omega)
  obtain ⟨σ1, q1, h1⟩ := loopX (X := XM) (F := fun n i σ => xr x_i115 (d + 2) n 2 [(0, .ref 19), (1, .int (nI w)), (2, .int (nI i))] [] σ) (S := fun i => aLq A 12 (fun i => 0 + i) (fun k => chr (A 6) (A 16 4) w k) 0 i) 0 4 (by
    intro n i σ hl hi h
    have r6 : aLq A 12 (fun i => 0 + i) (fun k => chr (A 6) (A 16 4) w k) 0 i 6 = A 6 := aLq_row _ _ _ _ _ _ (by decide)
    have r16 : aLq A 12 (fun i => 0 + i) (fun k => chr (A 6) (A 16 4) w k) 0 i 16 = A 16 := aLq_row _ _ _ _ _ _ (by decide)
    have q := y_char d h (w := w) (k := i) (by omega) (by omega)
    rw [r6, r16] at q
    refine ⟨x_up σ 26 i (nI (chr (A 6) (A 16 4) w i)), ?_, ?_⟩
    · rw [c115_2, if_neg (by exact n_ge hi (by decide)), q, bnd0]
      dsimp only
      rw [if_neg (n_ok hi (by decide)), n_cl (by omega), show (1 : Int32) = nI 1 from rfl, nI_add]
    · rw [aLq_n _ _ _ _ hl, Nat.zero_add]
      exact xm_up h 12 i hi (hN i hi)) 4 0 4995 σ (by omega) (by omega) (by rw [aLq_s]; exact h)
  refine ⟨σ1, ?_, xm_congr h1 (fun o k hk => ?_) (wx_nd h.2 hN)⟩
  · rw [m115]
    refine q1.trans ((c115_2 (d + 2) 4994 _ _ _).trans ?_)
    rw [if_pos (by decide)]
  · rw [aLq_v _ _ _ _ (by omega)]
    by_cases e : o = 12
    · subst e
      have hk : k < 4 := hk
      rw [if_pos ⟨rfl, by omega, by omega⟩, aND_12, Nat.sub_zero]
    · by_cases e2 : o = 11
      · subst e2; exact absurd (show k < 0 from hk) (by omega)
      · rw [if_neg (fun z => e z.1), aND_r A _ (by omega)]
end X2
