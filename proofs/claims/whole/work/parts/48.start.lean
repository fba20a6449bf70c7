/-! A run begins: the processor anew -/
/-- a method of the model's processor, whatever its numbers are, leaves the rest -/
theorem cpuM_keep2 {d j : Nat} {as : List Value} {σ : xS} {r : xR} (hj : isCpuM j = true) (has : ∀ v ∈ as, x_rk K_cpuM v) (h : x_M d j as σ = some r) : mKeep σ r.2 := by
  have hj2 : isCpuM2 j = true := by
    unfold isCpuM2
    rw [hj, Bool.or_true]
  refine ⟨fun f hf => ?_, fun o ho => ?_⟩
  · rcases hf with rfl | rfl | rfl | rfl | rfl | rfl | rfl
    · exact x_fd (c0 := 8) (fs0 := _) rfl cpuM_f0 d _ _ σ r hj2 h
    · exact x_fd (c0 := 8) (fs0 := _) rfl cpuM_f6 d _ _ σ r hj2 h
    · exact x_fd (c0 := 8) (fs0 := _) rfl cpuM_f13 d _ _ σ r hj2 h
    · exact x_fd (c0 := 8) (fs0 := _) rfl cpuM_f15 d _ _ σ r hj2 h
    · exact x_fd (c0 := 8) (fs0 := _) rfl cpuM_f17 d _ _ σ r hj2 h
    · exact x_fd (c0 := 8) (fs0 := _) rfl cpuM_f19 d _ _ σ r hj2 h
    · exact x_fd (c0 := 8) (fs0 := _) rfl cpuM_f20 d _ _ σ r hj2 h
  · refine x_frame2 cpuM_fr (fun o h9 => ?_) d j _ σ r hj2 h has o ?_
    · unfold K_cpuM
      rw [Nat.ble_eq_true_of_le h9, Bool.or_true]
    · rcases ho with rfl | rfl | rfl | rfl | rfl <;> decide
theorem rk_19i (x : Int32) : ∀ v ∈ [Value.ref 19, .int x], x_rk K_cpuM v := fun v hv => by
  rcases List.mem_cons.mp hv with rfl | hv
  · intro a ha; cases ha; rfl
  · rcases List.mem_cons.mp hv with rfl | hv
    · exact x_rk_i _ _
    · cases hv
theorem xm_mg0 {A B : aS} {σ τ : xS} (h : XM A σ) (hb : CQ B τ) (hk : mKeep σ τ) (hm : τ 19 12 = σ 19 12) : XM (aMg A B) τ := by
  have h3 : A 16 3 < 3 := h.2 16 3 (by decide)
  have q := xm_mg h hb hk (m := A 16 3) (by rw [hm]; exact yv_mod h) h3
  rw [a_self _ (by rw [aMg_r _ _ (by decide)])] at q
  exact q
def aZ8 (A : aS) : aS := aLq A 2 (fun i => 0 + i) (fun _ => 0) 0 8
def aBeg (A : aS) : aS := a_up (aPu (a_up (aSF (aZ8 A) 0) 3 0 496) 0) 3 1 256
section Z1
variable {A : aS} {σ : xS} (d : Nat)
theorem c_start (h : XC A σ) : ∃ σ', x_M (d + 3) 45 [.ref 3] σ = some (0, σ') ∧ XC (aMg A (aBeg A)) σ' := by
  obtain ⟨σ1, q1, h1⟩ := loopX (X := CP) (F := fun n i σ => xr x_i45 (d + 2) n 2 [(0, .ref 3), (1, .int (nI i))] [] σ) (S := fun i => aLq A 2 (fun i => 0 + i) (fun _ => 0) 0 i) 0 8 (by
    intro n i σ hl hi h
    refine ⟨x_up σ 4 i (nI 0), ?_, ?_⟩
    · rw [c45_2, if_neg (by exact n_ge hi (by decide)), if_neg (n_ok hi (by decide)), n_cl (by omega), show (1 : Int32) = nI 1 from rfl, nI_add]
      rfl
    · rw [aLq_n _ _ _ _ hl, Nat.zero_add]
      exact cp_reg h hi (by decide)) 8 0 4991 σ (by omega) (by omega) (by rw [aLq_s]; exact xc_cp h)
  obtain ⟨σ2, q2, h2⟩ := c_setFlags (d + 1) h1 (f := 0) (by decide)
  obtain ⟨σ3, q3, h3⟩ := c_push d (cp_sp h2 (v := 496) (by decide)) (w := 0) (by decide)
  have h4 : CP (aBeg A) (x_up σ3 3 3 (nI 256)) := cp_pc h3 (by decide)
  have q : x_M (d + 3) 45 [.ref 3] σ = some (0, x_up σ3 3 3 (nI 256)) := by
    rw [m45]
    refine q1.trans ((c45_2 (d + 2) 4990 _ _).trans ?_)
    rw [if_pos (by decide), show (0 : Int32) = nI 0 from rfl, q2, bnd0]
    dsimp only
    rw [show (496 : Int32) = nI 496 from rfl, q3, bnd0]
    rfl
  refine ⟨_, q, xc_mg h h4 (cpuC_keep q (fun v hv => ?_))⟩
  rcases List.mem_cons.mp hv with rfl | hv
  · intro a ha; cases ha; rfl
  · cases hv
theorem mk_trans {σ τ ρ : xS} (h : mKeep σ τ) (k : mKeep τ ρ) : mKeep σ ρ := ⟨fun f hf => by rw [k.1 f hf, h.1 f hf], fun o ho => by rw [k.2 o ho, h.2 o ho]⟩
theorem mk_22 {σ τ : xS} (h : mKeep σ τ) (i : Nat) (v : Int32) : mKeep σ (x_up τ 22 i v) := ⟨fun f hf => by rw [x_up_oth (by decide), h.1 f hf], fun o ho => by rw [x_up_ne (by omega), h.2 o ho]⟩
theorem mk_19 {σ τ : xS} (h : mKeep σ τ) {i : Nat} (hi : i = 4 ∨ i = 5) (v : Int32) : mKeep σ (x_up τ 19 i v) := ⟨fun f hf => by rw [x_up_off (by omega), h.1 f hf], fun o ho => by rw [x_up_ne (by omega), h.2 o ho]⟩
theorem mk_refl (σ : xS) : mKeep σ σ := ⟨fun _ _ => rfl, fun _ _ => rfl⟩
theorem y_start (h : XM A σ) (n : Nat) : ∃ σ', xr x_i131 (d + 3) (n + 9) 95 [(0, .ref 19), (2, .int (nI 0))] [] σ = some (0, σ') ∧ XM (a_up (a_up (aMg A (aBeg A)) 4 1 128) 16 3 1) σ' := by
  obtain ⟨σ1, q1, h1⟩ := loopX (X := fun B τ => CQ B τ ∧ mKeep σ τ ∧ τ 19 12 = σ 19 12) (F := fun n i σ => xr x_i131 (d + 3) n 95 [(0, .ref 19), (2, .int (nI i))] [] σ) (S := fun i => aLq A 2 (fun i => 0 + i) (fun _ => 0) 0 i) 0 8 (by
    intro n i τ hl hi h
    refine ⟨x_up τ 22 i (nI 0), ?_, ?_, mk_22 h.2.1 _ _, by rw [x_up_oth (by decide)]; exact h.2.2⟩
    · rw [c131_95, if_neg (by exact n_ge hi (by decide)), if_neg (n_ok hi (by decide)), n_cl (by omega), show (1 : Int32) = nI 1 from rfl, nI_add]
      rfl
    · rw [aLq_n _ _ _ _ hl, Nat.zero_add]
      exact mq_reg h.1 hi (by decide)) 8 0 (n + 1) σ (by omega) (by omega) ⟨by rw [aLq_s]; exact xm_cq h, mk_refl σ, rfl⟩
  obtain ⟨c1, k1, s1⟩ := h1
  obtain ⟨σ2, q2, c2⟩ := m_setFlags (d + 2) c1 (f := 0) (by decide)
  have k2 := mk_trans k1 (cpuM_keep2 (by decide) (rk_19i _) q2)
  have s2 : σ2 19 12 = σ 19 12 := (cpuM_12 (by decide) q2).trans s1
  have c3 := mq_sp c2 (v := 496) (by decide)
  have k3 := mk_19 k2 (Or.inl rfl) (nI 496)
  obtain ⟨σ4, q4, c4⟩ := m_push d c3 (w := 0) (by decide)
  have k4 := mk_trans k3 (cpuM_keep2 (by decide) (rk_19i _) q4)
  have s4 : σ4 19 12 = σ 19 12 := (cpuM_12 (by decide) q4).trans ((x_up_off (by decide)).trans s2)
  have c5 : CQ (aBeg A) (x_up σ4 19 5 (nI 256)) := mq_pc c4 (by decide)
  have k5 := mk_19 k4 (Or.inr rfl) (nI 256)
  have x5 : XM (aMg A (aBeg A)) (x_up σ4 19 5 (nI 256)) := xm_mg0 h c5 k5 (by rw [x_up_off (by decide)]; exact s4)
  have x6 : XM (a_up (aMg A (aBeg A)) 4 1 128) (x_up (x_up σ4 19 5 (nI 256)) 19 6 (nI 128)) := xm_up x5 4 1 (by decide) (show 128 < 65536 by decide)
  refine ⟨_, q1.trans ((c131_95 (d + 3) n _ _).trans ?_), xm_up x6 16 3 (v := 1) (by decide) (show 1 < 3 by decide)⟩
  rw [if_pos (by decide), show (0 : Int32) = nI 0 from rfl, q2, bnd0]
  dsimp only
  rw [show (496 : Int32) = nI 496 from rfl, q4, bnd0]
  rfl
end Z1
