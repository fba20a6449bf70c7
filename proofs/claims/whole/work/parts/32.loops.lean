/-! Loops that copy between memory and disk -/
theorem loopX {X : aS → xS → Prop} {F : Nat → Nat → xS → Option xR} {S : Nat → aS} (lo hi : Nat) (hs : ∀ n i σ, lo ≤ i → i < hi → X (S i) σ → ∃ σ', F (n + 1) i σ = F n (i + 1) σ' ∧ X (S (i + 1)) σ') : ∀ m i n σ, lo ≤ i → i + m = hi → X (S i) σ → ∃ σ', F (n + m) i σ = F n hi σ' ∧ X (S hi) σ' := by
  intro m
  induction m with
  | zero =>
    intro i n σ _ e h
    have e : i = hi := by omega
    subst e
    exact ⟨σ, rfl, h⟩
  | succ m ih =>
    intro i n σ hl e h
    obtain ⟨σ1, q1, h1⟩ := hs (n + m) i σ hl (by omega) h
    obtain ⟨σ2, q2, h2⟩ := ih (i + 1) n σ1 (by omega) (by omega) h1
    exact ⟨σ2, q1.trans q2, h2⟩
def aLq (A : aS) (o : Nat) (g f : Nat → Nat) (s i : Nat) : aS := aLp A o (fun k => g (s + k)) (fun k => f (s + k)) (i - s)
theorem aLq_s (A : aS) (o : Nat) (g f : Nat → Nat) (s : Nat) : aLq A o g f s s = A := by
  unfold aLq
  rw [Nat.sub_self, aLp]
theorem aLq_n (A : aS) (o : Nat) (g f : Nat → Nat) {s i : Nat} (h : s ≤ i) : aLq A o g f s (i + 1) = a_up (aLq A o g f s i) o (g i) (f i) := by
  unfold aLq
  rw [show i + 1 - s = (i - s) + 1 from by omega, aLp, show s + (i - s) = i from by omega]
theorem aLq_row (A : aS) (o : Nat) (g f : Nat → Nat) (s i : Nat) {a : Nat} (h : ¬ a = o) : aLq A o g f s i a = A a := aLp_row _ _ _ _ h _
theorem aLq_v (A : aS) (o b : Nat) (f : Nat → Nat) {s i : Nat} (h : s ≤ i) (a j : Nat) : aLq A o (fun k => b + k) f s i a j = if a = o ∧ b + s ≤ j ∧ j < b + i then f (j - b) else A a j := by
  unfold aLq
  rw [show (fun k => b + (s + k)) = (fun k => (b + s) + k) from funext fun k => by rw [Nat.add_assoc], aLp_v]
  by_cases e : a = o ∧ b + s ≤ j ∧ j < b + i
  · rw [if_pos e, if_pos ⟨e.1, e.2.1, by omega⟩, show s + (j - (b + s)) = j - b from by omega]
  · rw [if_neg e, if_neg (fun z => e ⟨z.1, z.2.1, by omega⟩)]
def aRd (A : aS) (b a s : Nat) : aS := aLq A 0 (fun i => (a + i) % 512) (fun i => A 1 (16 * b + i)) s 16
def aWr (A : aS) (b a s : Nat) : aS := aLq A 1 (fun i => 16 * b + i) (fun i => A 0 ((a + i) % 512)) s 16
def aZm (A : aS) (a : Nat) : aS := aLq A 0 (fun i => (a + i) % 512) (fun _ => 0) 5 16
theorem xc_congr {A B : aS} {σ : xS} (h : XC A σ) (e : ∀ o k, k < cN o → A o k = B o k) (w : WX B) : XC B σ := ⟨fun o k hk => by rw [← e o k hk]; exact h.1 o k hk, w⟩
theorem xm_congr {A B : aS} {σ : xS} (h : XM A σ) (e : ∀ o k, k < mN o → A o k = B o k) (w : WX B) : XM B σ := ⟨fun o k hk => by rw [← e o k hk]; exact h.1 o k hk, w⟩
section L1
variable {A : aS} {σ : xS} (d : Nat)
theorem x_dsk_lt {A : aS} (w : WX A) {i : Nat} (hi : i < 512) : A 1 i < 256 := w 1 i hi
theorem x_mem_lt {A : aS} (w : WX A) (i : Nat) : A 0 (i % 512) < 256 := w 0 (i % 512) (show i % 512 < 512 by omega)
/-- one byte from disk to memory, one from memory to disk -/
theorem c_d2m {b a s i : Nat} (hb : b < 32) (ha : a < 70000) (hs : s ≤ i) (hi : i < 16) (h : XC (aLq A 0 (fun i => (a + i) % 512) (fun i => A 1 (16 * b + i)) s i) σ) : x_M (d + 1) 13 [.ref 5, .int (nI b), .int (nI i)] σ = some (nI (A 1 (16 * b + i)), σ) ∧ ∃ σ', x_M (d + 1) 37 [.ref 1, .int (nI (a + i)), .int (nI (A 1 (16 * b + i)))] σ = some (0, σ') ∧ XC (aLq A 0 (fun i => (a + i) % 512) (fun i => A 1 (16 * b + i)) s (i + 1)) σ' := by
  have r : aLq A 0 (fun i => (a + i) % 512) (fun i => A 1 (16 * b + i)) s i 1 = A 1 := aLq_row _ _ _ _ _ _ (by decide)
  have hv : A 1 (16 * b + i) < 256 := by rw [← r]; exact x_dsk_lt h.2 (by omega)
  have q := c_dget d h hb hi
  rw [r] at q
  obtain ⟨σ', q2, h2⟩ := c_mput d h (a := a + i) (v := A 1 (16 * b + i)) (by omega) (by omega)
  rw [Nat.mod_eq_of_lt hv] at h2
  exact ⟨q, σ', q2, by rw [aLq_n _ _ _ _ hs]; exact h2⟩
theorem c_m2d {b a s i : Nat} (hb : b < 32) (ha : a < 70000) (hs : s ≤ i) (hi : i < 16) (h : XC (aLq A 1 (fun i => 16 * b + i) (fun i => A 0 ((a + i) % 512)) s i) σ) : x_M (d + 1) 33 [.ref 1, .int (nI (a + i))] σ = some (nI (A 0 ((a + i) % 512)), σ) ∧ ∃ σ', x_M (d + 1) 24 [.ref 5, .int (nI b), .int (nI i), .int (nI (A 0 ((a + i) % 512)))] σ = some (0, σ') ∧ XC (aLq A 1 (fun i => 16 * b + i) (fun i => A 0 ((a + i) % 512)) s (i + 1)) σ' := by
  have r : aLq A 1 (fun i => 16 * b + i) (fun i => A 0 ((a + i) % 512)) s i 0 = A 0 := aLq_row _ _ _ _ _ _ (by decide)
  have hv : A 0 ((a + i) % 512) < 256 := by rw [← r]; exact x_mem_lt h.2 _
  have q := c_mget d h (a := a + i) (by omega)
  rw [r] at q
  obtain ⟨σ', q2, h2⟩ := c_dput d h hb hi hv
  exact ⟨q, σ', q2, by rw [aLq_n _ _ _ _ hs]; exact h2⟩
theorem y_d2m {b a s i : Nat} (hb : b < 32) (ha : a < 70000) (hs : s ≤ i) (hi : i < 16) (h : XM (aLq A 0 (fun i => (a + i) % 512) (fun i => A 1 (16 * b + i)) s i) σ) : σ 21 (16 * b + i) = nI (A 1 (16 * b + i)) ∧ ∃ σ', x_M (d + 1) 127 [.ref 19, .int (nI (a + i)), .int (nI (A 1 (16 * b + i)))] σ = some (0, σ') ∧ XM (aLq A 0 (fun i => (a + i) % 512) (fun i => A 1 (16 * b + i)) s (i + 1)) σ' := by
  have r : aLq A 0 (fun i => (a + i) % 512) (fun i => A 1 (16 * b + i)) s i 1 = A 1 := aLq_row _ _ _ _ _ _ (by decide)
  have hv : A 1 (16 * b + i) < 256 := by rw [← r]; exact x_dsk_lt h.2 (by omega)
  have q := yv_dsk h (i := 16 * b + i) (by omega)
  rw [r] at q
  obtain ⟨σ', q2, h2⟩ := y_mput d h (a := a + i) (v := A 1 (16 * b + i)) (by omega) (by omega)
  rw [Nat.mod_eq_of_lt hv] at h2
  exact ⟨q, σ', q2, by rw [aLq_n _ _ _ _ hs]; exact h2⟩
theorem y_m2d {b a s i : Nat} (hb : b < 32) (ha : a < 70000) (hs : s ≤ i) (hi : i < 16) (h : XM (aLq A 1 (fun i => 16 * b + i) (fun i => A 0 ((a + i) % 512)) s i) σ) : x_M (d + 1) 122 [.ref 19, .int (nI (a + i))] σ = some (nI (A 0 ((a + i) % 512)), σ) ∧ XM (aLq A 1 (fun i => 16 * b + i) (fun i => A 0 ((a + i) % 512)) s (i + 1)) (x_up σ 21 (16 * b + i) (nI (A 0 ((a + i) % 512)))) := by
  have r : aLq A 1 (fun i => 16 * b + i) (fun i => A 0 ((a + i) % 512)) s i 0 = A 0 := aLq_row _ _ _ _ _ _ (by decide)
  have hv : A 0 ((a + i) % 512) < 256 := by rw [← r]; exact x_mem_lt h.2 _
  have q := y_mget d h (a := a + i) (by omega)
  rw [r] at q
  exact ⟨q, by rw [aLq_n _ _ _ _ hs]; exact xm_up h 1 (16 * b + i) (show 16 * b + i < 512 by omega) hv⟩
theorem n_ge {i c : Nat} (hi : i < c) (hc : c < 2147483648) : ¬ nI c ≤ nI i := fun z => by
  have := (nI_leI hc (by omega)).mp z
  omega
theorem c_read (h : XC A σ) {b a : Nat} (hb : b < 32) (ha : a < 70000) : ∃ σ', x_M (d + 2) 38 [.ref 5, .int (nI b), .ref 1, .int (nI a)] σ = some (0, σ') ∧ XC (aRd A b a 0) σ' := by
  obtain ⟨σ1, q1, h1⟩ := loopX (X := XC) (F := fun n i σ => xr x_i38 (d + 1) n 3 [(0, .ref 5), (1, .int (nI b)), (2, .ref 1), (3, .int (nI a)), (4, .int (nI i))] [] σ) (S := fun i => aLq A 0 (fun i => (a + i) % 512) (fun i => A 1 (16 * b + i)) 0 i) 0 16 (by
    intro n i σ hl hi h
    obtain ⟨q1, σ', q2, h2⟩ := c_d2m d hb ha hl hi h
    refine ⟨σ', ?_, h2⟩
    rw [c38_3, if_neg (by exact n_ge hi (by decide)), q1, bnd0]
    dsimp only
    rw [nI_add, q2, bnd0]
    dsimp only
    rw [show (1 : Int32) = nI 1 from rfl, nI_add]) 16 0 4983 σ (by omega) (by omega) (by rw [aLq_s]; exact h)
  refine ⟨σ1, ?_, h1⟩
  rw [m38]
  refine q1.trans ((c38_3 (d + 1) 4982 _ _ _ _).trans ?_)
  rw [if_pos (by decide)]
theorem c_write (h : XC A σ) {b a : Nat} (hb : b < 32) (ha : a < 70000) : ∃ σ', x_M (d + 2) 34 [.ref 5, .int (nI b), .ref 1, .int (nI a)] σ = some (0, σ') ∧ XC (aWr A b a 0) σ' := by
  obtain ⟨σ1, q1, h1⟩ := loopX (X := XC) (F := fun n i σ => xr x_i34 (d + 1) n 3 [(0, .ref 5), (1, .int (nI b)), (2, .ref 1), (3, .int (nI a)), (4, .int (nI i))] [] σ) (S := fun i => aLq A 1 (fun i => 16 * b + i) (fun i => A 0 ((a + i) % 512)) 0 i) 0 16 (by
    intro n i σ hl hi h
    obtain ⟨q1, σ', q2, h2⟩ := c_m2d d hb ha hl hi h
    refine ⟨σ', ?_, h2⟩
    rw [c34_3, if_neg (by exact n_ge hi (by decide)), nI_add, q1, bnd0]
    dsimp only
    rw [q2, bnd0]
    dsimp only
    rw [show (1 : Int32) = nI 1 from rfl, nI_add]) 16 0 4983 σ (by omega) (by omega) (by rw [aLq_s]; exact h)
  refine ⟨σ1, ?_, h1⟩
  rw [m34]
  refine q1.trans ((c34_3 (d + 1) 4982 _ _ _ _).trans ?_)
  rw [if_pos (by decide)]
/-- the entry that was found, into the file block (open), the file block into the entry (close) -/
theorem c_open (h : XC A σ) {a : Nat} (ha : a < 65536) : ∃ σ', x_M (d + 3) 81 [.ref 12, .int (nI a)] σ = some (nI (if aFd (A 5) A 1 8 < 8 then aFd (A 5) A 1 8 else 255), σ') ∧ XC (if aFd (A 5) A 1 8 < 8 then aRd A (aFd (A 5) A 1 8) a 1 else A) σ' := by
  rw [m81, show (0 : Int32) = nI 0 from rfl, c_findF d h (by omega), bnd0]
  dsimp only
  rw [Nat.sub_zero]
  rcases aFd_lt (A 5) A 1 8 (by omega) with g | g
  · rw [g, if_pos (by decide), if_neg (by decide), if_neg (by decide)]
    exact ⟨σ, rfl, h⟩
  · rw [if_neg (by exact n_m1 (by omega)), if_pos g, if_pos g]
    generalize aFd (A 5) A 1 8 = b at g
    obtain ⟨σ1, q1, h1⟩ := loopX (X := XC) (F := fun n i σ => xr x_i81 (d + 2) n 24 [(0, .ref 12), (1, .int (nI a)), (2, .int (nI b)), (3, .int (nI i))] [] σ) (S := fun i => aLq A 0 (fun i => (a + i) % 512) (fun i => A 1 (16 * b + i)) 1 i) 1 16 (by
      intro n i σ hl hi h
      obtain ⟨q1, σ', q2, h2⟩ := c_d2m (d + 1) (by omega) (by omega) hl hi h
      refine ⟨σ', ?_, h2⟩
      rw [c81_24, if_neg (by exact n_ge hi (by decide)), q1, bnd0]
      dsimp only
      rw [nI_add, q2, bnd0]
      dsimp only
      rw [show (1 : Int32) = nI 1 from rfl, nI_add]) 15 1 4984 σ (by omega) (by omega) (by rw [aLq_s]; exact h)
    refine ⟨σ1, q1.trans ((c81_24 (d + 2) 4983 _ _ _ _).trans ?_), h1⟩
    rw [if_pos (by decide)]
theorem c_close (h : XC A σ) {a : Nat} (ha : a < 65536) : ∃ σ', x_M (d + 3) 82 [.ref 12, .int (nI a)] σ = some (nI (if aFd (A 5) A 0 8 < 8 then aFd (A 5) A 0 8 else 255), σ') ∧ XC (if aFd (A 5) A 0 8 < 8 then aWr A (aFd (A 5) A 0 8) a 5 else A) σ' := by
  rw [m82, c_find13 d h, bnd0]
  dsimp only
  rcases aFd_lt (A 5) A 0 8 (by omega) with g | g
  · rw [g, if_pos (by decide), if_neg (by decide), if_neg (by decide)]
    exact ⟨σ, rfl, h⟩
  · rw [if_neg (by exact n_m1 (by omega)), if_pos g, if_pos g]
    generalize aFd (A 5) A 0 8 = b at g
    obtain ⟨σ1, q1, h1⟩ := loopX (X := XC) (F := fun n i σ => xr x_i82 (d + 2) n 23 [(0, .ref 12), (1, .int (nI a)), (2, .int (nI b)), (3, .int (nI i))] [] σ) (S := fun i => aLq A 1 (fun i => 16 * b + i) (fun i => A 0 ((a + i) % 512)) 5 i) 5 16 (by
      intro n i σ hl hi h
      obtain ⟨q1, σ', q2, h2⟩ := c_m2d (d + 1) (by omega) (by omega) hl hi h
      refine ⟨σ', ?_, h2⟩
      rw [c82_23, if_neg (by exact n_ge hi (by decide)), nI_add, q1, bnd0]
      dsimp only
      rw [q2, bnd0]
      dsimp only
      rw [show (1 : Int32) = nI 1 from rfl, nI_add]) 11 5 4988 σ (by omega) (by omega) (by rw [aLq_s]; exact h)
    refine ⟨σ1, q1.trans ((c82_23 (d + 2) 4987 _ _ _ _).trans ?_), h1⟩
    rw [if_pos (by decide)]
theorem c_fmake (h : XC A σ) {a : Nat} (ha : a < 65536) : ∃ σ', x_M (d + 4) 88 [.ref 12, .int (nI a)] σ = some (nI (if aFF A 8 < 8 then aFF A 8 else 255), σ') ∧ XC (if aFF A 8 < 8 then aZm (aMk (A 5) A (aFF A 8)) a else A) σ' := by
  obtain ⟨σ0, q0, h0⟩ := c_make13 d h
  unfold aMake at h0
  rw [m88, q0, bnd0]
  dsimp only
  rcases aFF_lt A 8 (by omega) with g | g
  · rw [g, if_neg (by decide)] at h0
    rw [g, if_pos (by decide), if_neg (by decide), if_neg (by decide)]
    exact ⟨σ0, rfl, h0⟩
  · rw [if_pos g] at h0
    rw [if_neg (by exact n_m1 (by omega)), if_pos g, if_pos g]
    generalize hB : aMk (A 5) A (aFF A 8) = B at h0
    generalize aFF A 8 = b at g
    obtain ⟨σ1, q1, h1⟩ := loopX (X := XC) (F := fun n i σ => xr x_i88 (d + 3) n 23 [(0, .ref 12), (1, .int (nI a)), (2, .int (nI b)), (3, .int (nI i))] [] σ) (S := fun i => aLq B 0 (fun i => (a + i) % 512) (fun _ => 0) 5 i) 5 16 (by
      intro n i σ hl hi h
      obtain ⟨σ', q2, h2⟩ := c_mput (d + 2) h (a := a + i) (v := 0) (by omega) (by omega)
      refine ⟨σ', ?_, by rw [aLq_n _ _ _ _ hl]; exact h2⟩
      rw [c88_23, if_neg (by exact n_ge hi (by decide)), nI_add, show (0 : Int32) = nI 0 from rfl, q2, bnd0]
      dsimp only
      rw [show (1 : Int32) = nI 1 from rfl, nI_add]) 11 5 4988 σ0 (by omega) (by omega) (by rw [aLq_s]; exact h0)
    refine ⟨σ1, q1.trans ((c88_23 (d + 3) 4987 _ _ _ _).trans ?_), h1⟩
    rw [if_pos (by decide)]
end L1
