section
/-! The small machine: a store of numbers (object, place) over objects whose shape stays; a step an instruction; blocks between cuts; runs; methods by their depth. -/
abbrev xS : Type := Nat → Nat → Int32
abbrev xL : Type := List (Nat × Value)
abbrev xR : Type := Int32 × xS
abbrev xH : Type := (Nat × List (Option Nat)) ⊕ (Bool × Nat)
abbrev xO : Type := Nat × Instr × Int32 × Nat × List (Int32 × Nat)
abbrev xE : Type := Nat × Nat × Nat × Nat × Bool
abbrev xK : Type := Nat → xL → List Value → xS → Option xR
abbrev xC : Type := Nat → List Value → xS → Option xR
def x_up (σ : xS) (o k : Nat) (v : Int32) : xS := fun a => if a = o then upd (σ a) k v else σ a
def x_lk : xL → Nat → Option Value
  | [], _ => none
  | q :: L, i => if q.1 = i then some q.2 else x_lk L i
def x_st (L : xL) (i : Nat) (v : Value) : xL := (i, v) :: L.filter (fun q => !(q.1 == i) && !(q.1 + 1 == i && q.2.category == 2))
def x_rm : Nat → List Value → Bool
  | _, [] => true
  | n + 1, .int _ :: r => x_rm n r
  | n + 1, .ref _ :: r => x_rm n r
  | _, _ => false
def x_bin (f : Int32 → Int32 → Int32) (S : List Value) (kk : List Value → Option xR) : Option xR := match S with
  | .int y :: .int x :: S => kk (.int (f x y) :: S)
  | _ => none
def x_div (f : Int32 → Int32 → Int32) (S : List Value) (kk : List Value → Option xR) : Option xR := match S with
  | .int y :: .int x :: S => if y = 0 then none else kk (.int (f x y) :: S)
  | _ => none
def x_ldi (L : xL) (t : Nat) (kk : Int32 → Option xR) : Option xR := match x_lk L t with
  | some (.int x) => kk x
  | _ => none
def x_lda (L : xL) (t : Nat) (kk : Nat → Option xR) : Option xR := match x_lk L t with
  | some (.ref x) => kk x
  | _ => none
def x_top (S : List Value) (kk : Int32 → List Value → Option xR) : Option xR := match S with
  | .int x :: S => kk x S
  | _ => none
def x_two (S : List Value) (kk : Int32 → Int32 → List Value → Option xR) : Option xR := match S with
  | .int y :: .int x :: S => kk x y S
  | _ => none
def x_lt (t nL : Nat) (kk : Option xR) : Option xR := match Nat.blt t nL with
  | true => kk
  | false => none
def x_c1 : Value → Bool
  | .int _ => true
  | .ref _ => true
  | _ => false
def x_d1 (S : List Value) (kk : Value → List Value → Option xR) : Option xR := match S with
  | a :: S => (match x_c1 a with
    | true => kk a S
    | false => none)
  | _ => none
def x_d2 (S : List Value) (kk : Value → Value → List Value → Option xR) : Option xR := x_d1 S fun a S => x_d1 S fun b S => kk a b S
def x_br (c : ClassFile.Cond) (x y : Int32) (a b : Option xR) : Option xR := match c with
  | .eq => if x = y then a else b
  | .ne => if x = y then b else a
  | .lt => if x < y then a else b
  | .ge => if y ≤ x then a else b
  | .gt => if y < x then a else b
  | .le => if x ≤ y then a else b
def x_sw (x : Int32) (k : Nat → Option xR) (d : Nat) : List (Int32 × Nat) → Option xR
  | [] => k d
  | q :: r => if x = q.1 then k q.2 else x_sw x k d r
def x_gf (sh : List xH) (e : Option xE) (S : List Value) (σ : xS) (kk : List Value → Option xR) : Option xR := match e, S with
  | some (0, ci, f, _, _), .ref o :: S => (match sh[o]? with
    | some (.inl (cj, fs)) => (match Nat.beq cj ci with
      | true => (match fs[f]? with
        | some none => kk (.int (σ o f) :: S)
        | some (some a) => kk (.ref a :: S)
        | none => none)
      | false => none)
    | _ => none)
  | _, _ => none
def x_pf (sh : List xH) (e : Option xE) (S : List Value) (σ : xS) (kk : List Value → xS → Option xR) : Option xR := match e, S with
  | some (0, ci, f, _, true), .int x :: .ref o :: S => (match sh[o]? with
    | some (.inl (cj, fs)) => (match Nat.beq cj ci with
      | true => (match fs[f]? with
        | some none => kk S (x_up σ o f x)
        | _ => none)
      | false => none)
    | _ => none)
  | _, _ => none
def x_bq : Bool → Bool → Bool
  | true, true => true
  | false, false => true
  | _, _ => false
def x_al (sh : List xH) (ca : Nat → Option (List Int32)) (b : Bool) (S : List Value) (σ : xS) (kk : List Value → Option xR) : Option xR := match S with
  | .int i :: .ref o :: S => (match sh[o]? with
    | some (.inr (b2, n)) => (match x_bq b b2 with
      | true => if i < 0 ∨ n ≤ i.toNatClampNeg then none else kk (.int (σ o i.toNatClampNeg) :: S)
      | false => none)
    | some _ => none
    | none => (match b, ca o with
      | false, some q => if i < 0 ∨ q.length ≤ i.toNatClampNeg then none else kk (.int (q.getD i.toNatClampNeg 0) :: S)
      | _, _ => none))
  | _ => none
def x_nb (b : Bool) (x : Int32) : Int32 := match b with
  | true => vp_nar .boolean x
  | false => x
def x_rs (v : Bool) (x : Int32) (rest : List Value) : List Value := match v with
  | true => rest
  | false => .int x :: rest
def x_as (sh : List xH) (b : Bool) (S : List Value) (σ : xS) (kk : List Value → xS → Option xR) : Option xR := match S with
  | .int x :: .int i :: .ref o :: S => (match sh[o]? with
    | some (.inr (b2, n)) => (match x_bq b b2 with
      | true => if i < 0 ∨ n ≤ i.toNatClampNeg then none else kk S (x_up σ o i.toNatClampNeg (x_nb b x))
      | false => none)
    | _ => none)
  | _ => none
def x_go (C : xC) (j : Nat) (v : Bool) (as rest : List Value) (σ : xS) (kk : List Value → xS → Option xR) : Option xR :=
  (C j as σ).bind fun r => kk (x_rs v r.1 rest) r.2
def x_iv (sh : List xH) (C : xC) (e : Option xE) (S : List Value) (σ : xS) (kk : List Value → xS → Option xR) : Option xR := match e with
  | some (1, j, na, ci, v) => (match S.drop na with
    | .ref o :: rest => (match sh[o]? with
      | some (.inl (cj, _)) => (match Nat.beq cj ci && x_rm 8 rest with
        | true => x_go C j v (.ref o :: (S.take na).reverse) rest σ kk
        | false => none)
      | _ => none)
    | _ => none)
  | _ => none
def x_is (C : xC) (e : Option xE) (S : List Value) (σ : xS) (kk : List Value → xS → Option xR) : Option xR := match e with
  | some (2, j, na, _, v) => (match Nat.ble na S.length && x_rm 8 (S.drop na) with
    | true => x_go C j v (S.take na).reverse (S.drop na) σ kk
    | false => none)
  | _ => none
def x_ir (rt : Nat) (S : List Value) (σ : xS) : Option xR := match S with
  | [.int x] => (match rt with
    | 1 => some (x, σ)
    | 2 => if x = 0 ∨ x = 1 then some (x, σ) else none
    | _ => none)
  | _ => none
def x_vr (rt : Nat) (S : List Value) (σ : xS) : Option xR := match S, rt with
  | [], 0 => some (0, σ)
  | _, _ => none
def x_oc (e : Option xE) (S : List Value) (kk : List Value → Option xR) : Option xR := match e with
  | some (3, o, _, _, false) => kk (.ref o :: S)
  | some (4, n, _, _, _) => kk (.int (Int32.ofNat n) :: S)
  | _ => none
def x_ow (e : Option xE) (S : List Value) (kk : List Value → Option xR) : Option xR := match e with
  | some (4, n, _, _, _) => kk (.int (Int32.ofNat n) :: S)
  | _ => none
def x_os (e : Option xE) (S : List Value) (kk : List Value → Option xR) : Option xR := match e with
  | some (3, o, _, _, true) => kk (.ref o :: S)
  | _ => none
def x_step (sh : List xH) (ca : Nat → Option (List Int32)) (pool : Nat → Option xE) (nL rt : Nat) (C : xC) (k : xK) (o : xO) (pc : Nat) (L : xL) (S : List Value) (σ : xS) : Option xR := match o.2.1 with
  | .iconst _ => k (pc + o.1) L (.int o.2.2.1 :: S) σ
  | .bipush _ => k (pc + o.1) L (.int o.2.2.1 :: S) σ
  | .sipush _ => k (pc + o.1) L (.int o.2.2.1 :: S) σ
  | .iload_n _ => x_ldi L o.2.2.2.1 fun x => k (pc + o.1) L (.int x :: S) σ
  | .iload _ => x_ldi L o.2.2.2.1 fun x => k (pc + o.1) L (.int x :: S) σ
  | .aload_n _ => x_lda L o.2.2.2.1 fun x => k (pc + o.1) L (.ref x :: S) σ
  | .aload _ => x_lda L o.2.2.2.1 fun x => k (pc + o.1) L (.ref x :: S) σ
  | .istore_n _ => x_top S fun x S => x_lt o.2.2.2.1 nL (k (pc + o.1) (x_st L o.2.2.2.1 (.int x)) S σ)
  | .istore _ => x_top S fun x S => x_lt o.2.2.2.1 nL (k (pc + o.1) (x_st L o.2.2.2.1 (.int x)) S σ)
  | .iinc _ _ => x_ldi L o.2.2.2.1 fun x => x_lt o.2.2.2.1 nL (k (pc + o.1) (x_st L o.2.2.2.1 (.int (x + o.2.2.1))) S σ)
  | .iadd => x_bin (fun x y => x + y) S fun S => k (pc + o.1) L S σ
  | .isub => x_bin (fun x y => x - y) S fun S => k (pc + o.1) L S σ
  | .imul => x_bin (fun x y => x * y) S fun S => k (pc + o.1) L S σ
  | .iand => x_bin (fun x y => x &&& y) S fun S => k (pc + o.1) L S σ
  | .ior => x_bin (fun x y => x ||| y) S fun S => k (pc + o.1) L S σ
  | .ixor => x_bin (fun x y => x ^^^ y) S fun S => k (pc + o.1) L S σ
  | .ishl => x_bin (fun x y => x <<< (y &&& 31)) S fun S => k (pc + o.1) L S σ
  | .ishr => x_bin (fun x y => x >>> (y &&& 31)) S fun S => k (pc + o.1) L S σ
  | .iushr => x_bin (fun x y => (x.toUInt32 >>> (y.toUInt32 &&& Int32.toUInt32 31)).toInt32) S fun S => k (pc + o.1) L S σ
  | .idiv => x_div (fun x y => x / y) S fun S => k (pc + o.1) L S σ
  | .irem => x_div (fun x y => x - x / y * y) S fun S => k (pc + o.1) L S σ
  | .dup => x_d1 S fun a S => k (pc + o.1) L (a :: a :: S) σ
  | .pop => x_d1 S fun _ S => k (pc + o.1) L S σ
  | .dup_x1 => x_d2 S fun a b S => k (pc + o.1) L (a :: b :: a :: S) σ
  | .dup2 => x_d2 S fun a b S => k (pc + o.1) L (a :: b :: a :: b :: S) σ
  | .ifCond c _ => x_top S fun x S => x_br c x 0 (k o.2.2.2.1 L S σ) (k (pc + o.1) L S σ)
  | .if_icmp c _ => x_two S fun x y S => x_br c x y (k o.2.2.2.1 L S σ) (k (pc + o.1) L S σ)
  | .goto _ => k o.2.2.2.1 L S σ
  | .tableswitch _ _ _ _ => x_top S fun x S => x_sw x (fun t => k t L S σ) o.2.2.2.1 o.2.2.2.2
  | .lookupswitch _ _ => x_top S fun x S => x_sw x (fun t => k t L S σ) o.2.2.2.1 o.2.2.2.2
  | .getfield q => x_gf sh (pool q) S σ fun S => k (pc + o.1) L S σ
  | .putfield q => x_pf sh (pool q) S σ fun S σ => k (pc + o.1) L S σ
  | .iaload => x_al sh ca false S σ fun S => k (pc + o.1) L S σ
  | .baload => x_al sh ca true S σ fun S => k (pc + o.1) L S σ
  | .iastore => x_as sh false S σ fun S σ => k (pc + o.1) L S σ
  | .bastore => x_as sh true S σ fun S σ => k (pc + o.1) L S σ
  | .invokevirtual q => x_iv sh C (pool q) S σ fun S σ => k (pc + o.1) L S σ
  | .invokestatic q => x_is C (pool q) S σ fun S σ => k (pc + o.1) L S σ
  | .ldc q => x_oc (pool q) S fun S => k (pc + o.1) L S σ
  | .ldc_w q => x_ow (pool q) S fun S => k (pc + o.1) L S σ
  | .getstatic q => x_os (pool q) S fun S => k (pc + o.1) L S σ
  | .ireturn => x_ir rt S σ
  | .return_ => x_vr rt S σ
  | _ => none
def x_at (code : List (Nat × xO)) (pc : Nat) : Option xO := match code with
  | [] => none
  | q :: r => (match Nat.beq q.1 pc with
    | true => some q.2
    | false => x_at r pc)
def x_in (cuts : List (Nat × List Nat)) (pc : Nat) : Option (List Nat) := match cuts with
  | [] => none
  | q :: r => (match Nat.beq q.1 pc with
    | true => some q.2
    | false => x_in r pc)
/-- the locals that live on, in their order -/
def x_nm (L : xL) : List Nat → xL
  | [] => []
  | i :: r => (match x_lk L i with
    | some v => (i, v) :: x_nm L r
    | none => x_nm L r)
/-- from a cut to the next ones -/
noncomputable def x_blk (sh : List xH) (ca : Nat → Option (List Int32)) (pool : Nat → Option xE) (nL rt : Nat) (code : List (Nat × xO)) (cuts : List (Nat × List Nat)) (C : xC) (k0 : xK) (n : Nat) : xK :=
  Nat.rec (motive := fun _ => xK) (fun _ _ _ _ => none) (fun _ ih pc L S σ => match x_at code pc with
    | none => none
    | some o => x_step sh ca pool nL rt C (fun pc L S σ => match x_in cuts pc with
      | some live => k0 pc (x_nm L live) S σ
      | none => ih pc L S σ) o pc L S σ) n
noncomputable def x_run (B : xK → xK) (n : Nat) : xK := Nat.rec (motive := fun _ => xK) (fun _ _ _ _ => none) (fun _ ih => B ih) n
theorem x_run_succ (B : xK → xK) (n : Nat) : x_run B (n + 1) = B (x_run B n) := rfl
end
section
/-! What the small machine answers, the machine answers: the store as a world, an instruction by the kit's rows. -/
def x_tv (ad : Nat → Nat) : Value → Value
  | .ref a => .ref (ad a)
  | v => v
theorem x_tv_cat (ad : Nat → Nat) (v : Value) : (x_tv ad v).category = v.category := by cases v <;> rfl
def x_fv (ad : Nat → Nat) (f : Nat → Int32) : List (Option Nat) → Nat → List Value
  | [], _ => []
  | none :: r, k => .int (f k) :: x_fv ad f r (k + 1)
  | some a :: r, k => .ref (ad a) :: x_fv ad f r (k + 1)
def x_ce (ad : Nat → Nat) (cI cZ : ClassId) (f : Nat → Int32) : xH → va_E
  | .inl q => .inr (q.1, x_fv ad f q.2 0)
  | .inr q => .inl ((match q.1 with | true => cZ | false => cI), q.2, .inl f)
def x_wf (ad : Nat → Nat) (cI cZ : ClassId) (σ : xS) : List xH → Nat → va_W
  | [], _ => []
  | h :: r, o => (ad o, x_ce ad cI cZ (σ o) h) :: x_wf ad cI cZ σ r (o + 1)
def x_w (ad : Nat → Nat) (cI cZ : ClassId) (sh : List xH) (σ : xS) : va_W := x_wf ad cI cZ σ sh 0
theorem x_wf_get (ad : Nat → Nat) (cI cZ : ClassId) (σ : xS) : ∀ (sh : List xH) (o k : Nat), (x_wf ad cI cZ σ sh o)[k]? = (sh[k]?).map (fun h => (ad (o + k), x_ce ad cI cZ (σ (o + k)) h))
  | [], o, k => by simp [x_wf]
  | h :: r, o, 0 => by simp [x_wf]
  | h :: r, o, k + 1 => by
    have e : o + 1 + k = o + (k + 1) := by omega
    simp only [x_wf, List.getElem?_cons_succ, x_wf_get ad cI cZ σ r (o + 1) k, e]
theorem x_w_get (ad : Nat → Nat) (cI cZ : ClassId) (sh : List xH) (σ : xS) (k : Nat) : (x_w ad cI cZ sh σ)[k]? = (sh[k]?).map (fun h => (ad k, x_ce ad cI cZ (σ k) h)) := by
  have h := x_wf_get ad cI cZ σ sh 0 k
  rw [Nat.zero_add] at h
  exact h
theorem x_fv_get (ad : Nat → Nat) (f : Nat → Int32) : ∀ (fs : List (Option Nat)) (k0 k : Nat), (x_fv ad f fs k0)[k]? = (fs[k]?).map (fun q => match q with | none => Value.int (f (k0 + k)) | some a => Value.ref (ad a))
  | [], k0, k => by simp [x_fv]
  | none :: r, k0, 0 => by simp [x_fv]
  | some a :: r, k0, 0 => by simp [x_fv]
  | none :: r, k0, k + 1 => by
    have e : k0 + 1 + k = k0 + (k + 1) := by omega
    simp only [x_fv, List.getElem?_cons_succ, x_fv_get ad f r (k0 + 1) k, e]
  | some a :: r, k0, k + 1 => by
    have e : k0 + 1 + k = k0 + (k + 1) := by omega
    simp only [x_fv, List.getElem?_cons_succ, x_fv_get ad f r (k0 + 1) k, e]
theorem x_fv_set {ad : Nat → Nat} {f : Nat → Int32} {fs : List (Option Nat)} {k : Nat} {v : Int32} (hf : fs[k]? = some none) : (x_fv ad f fs 0).set k (.int v) = x_fv ad (upd f k v) fs 0 := by
  apply List.ext_getElem?
  intro j
  rw [List.getElem?_set, x_fv_get, x_fv_get]
  have hl : k < (x_fv ad f fs 0).length := by
    have h1 : (x_fv ad f fs 0)[k]? = some (.int (f k)) := by rw [x_fv_get, hf]; simp
    exact (List.getElem?_eq_some_iff.mp h1).1
  by_cases hj : k = j
  · subst hj
    simp [hl, hf, upd]
  · have hj' : ¬ j = k := fun e => hj e.symm
    simp only [hj, if_false]
    cases fs[j]? with
    | none => rfl
    | some q => cases q <;> simp [upd, hj']
theorem x_w_set {ad : Nat → Nat} {cI cZ : ClassId} {sh : List xH} {σ : xS} {o k : Nat} {v : Int32} {h : xH} {e : va_E} (hs : sh[o]? = some h) (he : e = x_ce ad cI cZ (upd (σ o) k v) h) : (x_w ad cI cZ sh σ).set o (ad o, e) = x_w ad cI cZ sh (x_up σ o k v) := by
  subst he
  apply List.ext_getElem?
  intro i
  rw [List.getElem?_set, x_w_get, x_w_get]
  have hl : o < (x_w ad cI cZ sh σ).length := by
    have h1 : (x_w ad cI cZ sh σ)[o]? = some (ad o, x_ce ad cI cZ (σ o) h) := by rw [x_w_get, hs]; rfl
    exact (List.getElem?_eq_some_iff.mp h1).1
  by_cases hi : o = i
  · subst hi
    simp [hl, hs, x_up]
  · have hi' : ¬ i = o := fun e => hi e.symm
    simp [hi, hi', x_up]
theorem x_w_at {ad : Nat → Nat} {cI cZ : ClassId} {sh : List xH} {σ : xS} {o : Nat} {h : xH} (hs : sh[o]? = some h) : (x_w ad cI cZ sh σ)[o]? = some (ad o, x_ce ad cI cZ (σ o) h) := by rw [x_w_get, hs]; rfl
theorem x_lk_mem : ∀ {L : xL} {i : Nat} {v : Value}, x_lk L i = some v → (i, v) ∈ L
  | [], i, v, h => by cases h
  | q :: L, i, v, h => by
    unfold x_lk at h
    by_cases hq : q.1 = i
    · rw [if_pos hq] at h
      cases h
      exact List.mem_cons.mpr (Or.inl (by rw [← hq]))
    · rw [if_neg hq] at h
      exact List.mem_cons_of_mem _ (x_lk_mem h)
theorem x_lk_at {ad : Nat → Nat} {ls : Array Slot} {nL : Nat} {L : xL} {i : Nat} {v : Value} (hl : lv_has ls nL (L.map fun q => (q.1, x_tv ad q.2))) (h : x_lk L i = some v) : ls[i]? = some (.val (x_tv ad v)) :=
  hl.2.2 (i, x_tv ad v) (List.mem_map.mpr ⟨(i, v), x_lk_mem h, rfl⟩)
theorem x_st_map (ad : Nat → Nat) (L : xL) (i : Nat) (v : Value) : (i, x_tv ad v) :: (L.map fun q => (q.1, x_tv ad q.2)).filter (fun q => !(q.1 == i) && !(q.1 + 1 == i && q.2.category == 2)) = (x_st L i v).map fun q => (q.1, x_tv ad q.2) := by
  simp only [x_st, List.map_cons, List.filter_map, Function.comp_def, x_tv_cat]
theorem x_rm_sum (ad : Nat → Nat) : ∀ {n : Nat} {S : List Value}, x_rm n S = true → ((S.map (x_tv ad)).map fun v => v.category).sum ≤ n
  | n, [], _ => by simp
  | 0, v :: r, h => by cases v <;> simp [x_rm] at h
  | n + 1, v :: r, h => by
    cases v with
    | int x =>
      have := x_rm_sum ad (n := n) (S := r) h
      simp only [List.map_cons, List.sum_cons, x_tv, Value.category] at this ⊢
      omega
    | ref x =>
      have := x_rm_sum ad (n := n) (S := r) h
      simp only [List.map_cons, List.sum_cons, x_tv, Value.category] at this ⊢
      omega
    | _ => simp [x_rm] at h
theorem x_bq_eq : ∀ {b b2 : Bool}, x_bq b b2 = true → b = b2
  | true, true, _ => rfl
  | false, false, _ => rfl
  | true, false, h => by cases h
  | false, true, h => by cases h
section XI
variable {f : Int32 → Int32 → Int32} {S : List Value} {r : xR} {σ : xS} {L : xL} {t nL rt : Nat} {sh : List xH}
theorem x_bin_inv {kk : List Value → Option xR} (h : x_bin f S kk = some r) : ∃ x y S', S = .int y :: .int x :: S' ∧ kk (.int (f x y) :: S') = some r := by
  unfold x_bin at h
  split at h
  · exact ⟨_, _, _, rfl, h⟩
  · cases h
theorem x_div_inv {kk : List Value → Option xR} (h : x_div f S kk = some r) : ∃ x y S', S = .int y :: .int x :: S' ∧ ¬ y = 0 ∧ kk (.int (f x y) :: S') = some r := by
  unfold x_div at h
  split at h
  · rename_i y x S'
    by_cases hy : y = 0
    · rw [if_pos hy] at h; cases h
    · rw [if_neg hy] at h; exact ⟨x, y, S', rfl, hy, h⟩
  · cases h
theorem x_ldi_inv {kk : Int32 → Option xR} (h : x_ldi L t kk = some r) : ∃ x, x_lk L t = some (.int x) ∧ kk x = some r := by
  unfold x_ldi at h
  split at h
  · rename_i x hx; exact ⟨x, hx, h⟩
  · cases h
theorem x_lda_inv {kk : Nat → Option xR} (h : x_lda L t kk = some r) : ∃ x, x_lk L t = some (.ref x) ∧ kk x = some r := by
  unfold x_lda at h
  split at h
  · rename_i x hx; exact ⟨x, hx, h⟩
  · cases h
theorem x_top_inv {kk : Int32 → List Value → Option xR} (h : x_top S kk = some r) : ∃ x S', S = .int x :: S' ∧ kk x S' = some r := by
  unfold x_top at h
  split at h
  · exact ⟨_, _, rfl, h⟩
  · cases h
theorem x_two_inv {kk : Int32 → Int32 → List Value → Option xR} (h : x_two S kk = some r) : ∃ x y S', S = .int y :: .int x :: S' ∧ kk x y S' = some r := by
  unfold x_two at h
  split at h
  · exact ⟨_, _, _, rfl, h⟩
  · cases h
theorem x_lt_inv {kk : Option xR} (h : x_lt t nL kk = some r) : t < nL ∧ kk = some r := by
  unfold x_lt at h
  split at h
  · rename_i hb; exact ⟨by simpa [Nat.blt_eq] using hb, h⟩
  · cases h
theorem x_c1_cat {a : Value} (h : x_c1 a = true) : a.category = 1 := by cases a <;> first | rfl | cases h
theorem x_d1_inv {kk : Value → List Value → Option xR} (h : x_d1 S kk = some r) : ∃ a S', S = a :: S' ∧ a.category = 1 ∧ kk a S' = some r := by
  unfold x_d1 at h
  split at h
  · rename_i a S'
    split at h
    · rename_i hc; exact ⟨a, S', rfl, x_c1_cat hc, h⟩
    · cases h
  · cases h
theorem x_d2_inv {kk : Value → Value → List Value → Option xR} (h : x_d2 S kk = some r) : ∃ a b S', S = a :: b :: S' ∧ a.category = 1 ∧ b.category = 1 ∧ kk a b S' = some r := by
  obtain ⟨a, S1, rfl, ha, h⟩ := x_d1_inv h
  obtain ⟨b, S2, rfl, hb, h⟩ := x_d1_inv h
  exact ⟨a, b, S2, rfl, ha, hb, h⟩
theorem x_sw_inv {x : Int32} {k : Nat → Option xR} {d : Nat} : ∀ {ts : List (Int32 × Nat)}, x_sw x k d ts = some r → (∃ (i : Nat) (q : Int32 × Nat), ts[i]? = some q ∧ x = q.1 ∧ k q.2 = some r) ∨ ((∀ q ∈ ts, ¬ x = q.1) ∧ k d = some r)
  | [], h => Or.inr ⟨fun q hq => (List.not_mem_nil hq).elim, h⟩
  | q :: ts, h => by
    unfold x_sw at h
    by_cases hq : x = q.1
    · rw [if_pos hq] at h
      exact Or.inl ⟨0, q, rfl, hq, h⟩
    · rw [if_neg hq] at h
      rcases x_sw_inv h with ⟨i, q', h1, h2, h3⟩ | ⟨h1, h2⟩
      · exact Or.inl ⟨i + 1, q', h1, h2, h3⟩
      · exact Or.inr ⟨fun z hz => by
          rcases List.mem_cons.mp hz with rfl | hz
          · exact hq
          · exact h1 z hz, h2⟩
theorem x_gf_inv {e : Option xE} {kk : List Value → Option xR} (h : x_gf sh e S σ kk = some r) : ∃ ci g n b o S' fs, e = some (0, ci, g, n, b) ∧ S = .ref o :: S' ∧ sh[o]? = some (.inl (ci, fs)) ∧ ((fs[g]? = some none ∧ kk (.int (σ o g) :: S') = some r) ∨ ∃ a, fs[g]? = some (some a) ∧ kk (.ref a :: S') = some r) := by
  unfold x_gf at h
  split at h
  · rename_i ci g n b o S'
    split at h
    · rename_i cj fs hs
      split at h
      · rename_i hc
        have hc : cj = ci := Nat.eq_of_beq_eq_true hc
        subst hc
        split at h
        · rename_i hf; exact ⟨cj, g, n, b, o, S', fs, rfl, rfl, hs, Or.inl ⟨hf, h⟩⟩
        · rename_i a hf; exact ⟨cj, g, n, b, o, S', fs, rfl, rfl, hs, Or.inr ⟨a, hf, h⟩⟩
        · cases h
      · cases h
    · cases h
  · cases h
theorem x_pf_inv {e : Option xE} {kk : List Value → xS → Option xR} (h : x_pf sh e S σ kk = some r) : ∃ ci g n x o S' fs, e = some (0, ci, g, n, true) ∧ S = .int x :: .ref o :: S' ∧ sh[o]? = some (.inl (ci, fs)) ∧ fs[g]? = some none ∧ kk S' (x_up σ o g x) = some r := by
  unfold x_pf at h
  split at h
  · rename_i ci g n x o S'
    split at h
    · rename_i cj fs hs
      split at h
      · rename_i hc
        have hc : cj = ci := Nat.eq_of_beq_eq_true hc
        subst hc
        split at h
        · rename_i hf; exact ⟨cj, g, n, x, o, S', fs, rfl, rfl, hs, hf, h⟩
        · cases h
      · cases h
    · cases h
  · cases h
theorem x_al_inv {ca : Nat → Option (List Int32)} {b : Bool} {kk : List Value → Option xR} (h : x_al sh ca b S σ kk = some r) : ∃ i o S', S = .int i :: .ref o :: S' ∧ ((∃ n, sh[o]? = some (.inr (b, n)) ∧ vp_in i n ∧ kk (.int (σ o i.toNatClampNeg) :: S') = some r) ∨ (b = false ∧ ∃ q, ca o = some q ∧ vp_in i q.length ∧ kk (.int (q.getD i.toNatClampNeg 0) :: S') = some r)) := by
  unfold x_al at h
  split at h
  · rename_i i o S'
    refine ⟨i, o, S', rfl, ?_⟩
    split at h
    · rename_i b2 n hs
      split at h
      · rename_i hb
        have hb : b = b2 := x_bq_eq hb
        subst hb
        by_cases hi : i < 0 ∨ n ≤ i.toNatClampNeg
        · rw [if_pos hi] at h; cases h
        · rw [if_neg hi] at h; exact Or.inl ⟨n, hs, hi, h⟩
      · cases h
    · cases h
    · split at h
      · rename_i q hq
        by_cases hi : i < 0 ∨ q.length ≤ i.toNatClampNeg
        · rw [if_pos hi] at h; cases h
        · rw [if_neg hi] at h; exact Or.inr ⟨rfl, q, hq, hi, h⟩
      · cases h
  · cases h
theorem x_as_inv {b : Bool} {kk : List Value → xS → Option xR} (h : x_as sh b S σ kk = some r) : ∃ x i o S' n, S = .int x :: .int i :: .ref o :: S' ∧ sh[o]? = some (.inr (b, n)) ∧ vp_in i n ∧ kk S' (x_up σ o i.toNatClampNeg (x_nb b x)) = some r := by
  unfold x_as at h
  split at h
  · rename_i x i o S'
    split at h
    · rename_i b2 n hs
      split at h
      · rename_i hb
        have hb : b = b2 := x_bq_eq hb
        subst hb
        by_cases hi : i < 0 ∨ n ≤ i.toNatClampNeg
        · rw [if_pos hi] at h; cases h
        · rw [if_neg hi] at h; exact ⟨x, i, o, S', n, rfl, hs, hi, h⟩
      · cases h
    · cases h
  · cases h
theorem x_go_inv {C : xC} {j : Nat} {v : Bool} {as rest : List Value} {kk : List Value → xS → Option xR} (h : x_go C j v as rest σ kk = some r) : ∃ r1, C j as σ = some r1 ∧ kk (x_rs v r1.1 rest) r1.2 = some r := by
  unfold x_go at h
  cases hc : C j as σ with
  | none => rw [hc] at h; cases h
  | some r1 =>
    rw [hc] at h
    exact ⟨r1, rfl, h⟩
theorem x_iv_inv {C : xC} {e : Option xE} {kk : List Value → xS → Option xR} (h : x_iv sh C e S σ kk = some r) : ∃ j na ci v o as rest fs r1, e = some (1, j, na, ci, v) ∧ S = as.reverse ++ .ref o :: rest ∧ as.length = na ∧ sh[o]? = some (.inl (ci, fs)) ∧ x_rm 8 rest = true ∧ C j (.ref o :: as) σ = some r1 ∧ kk (x_rs v r1.1 rest) r1.2 = some r := by
  unfold x_iv at h
  split at h
  · rename_i j na ci v
    split at h
    · rename_i o rest hd
      split at h
      · rename_i cj fs hs
        split at h
        · rename_i hc
          simp only [Bool.and_eq_true] at hc
          have hc1 : cj = ci := Nat.eq_of_beq_eq_true hc.1
          subst hc1
          obtain ⟨r1, h1, h2⟩ := x_go_inv h
          have hlen : na < S.length := by
            have := congrArg List.length hd
            simp only [List.length_drop, List.length_cons] at this
            omega
          refine ⟨j, na, cj, v, o, (S.take na).reverse, rest, fs, r1, rfl, ?_, ?_, hs, hc.2, h1, h2⟩
          · rw [List.reverse_reverse, ← hd, List.take_append_drop]
          · simp only [List.length_reverse, List.length_take]; omega
        · cases h
      · cases h
    · cases h
  · cases h
theorem x_is_inv {C : xC} {e : Option xE} {kk : List Value → xS → Option xR} (h : x_is C e S σ kk = some r) : ∃ j na ci v as rest r1, e = some (2, j, na, ci, v) ∧ S = as.reverse ++ rest ∧ as.length = na ∧ x_rm 8 rest = true ∧ C j as σ = some r1 ∧ kk (x_rs v r1.1 rest) r1.2 = some r := by
  unfold x_is at h
  split at h
  · rename_i j na ci v
    split at h
    · rename_i hc
      simp only [Bool.and_eq_true] at hc
      have hlen : na ≤ S.length := Nat.le_of_ble_eq_true hc.1
      obtain ⟨r1, h1, h2⟩ := x_go_inv h
      refine ⟨j, na, ci, v, (S.take na).reverse, S.drop na, r1, rfl, ?_, ?_, hc.2, h1, h2⟩
      · rw [List.reverse_reverse, List.take_append_drop]
      · simp only [List.length_reverse, List.length_take]; omega
    · cases h
  · cases h
theorem x_ir_inv (h : x_ir rt S σ = some r) : ∃ x, S = [.int x] ∧ r = (x, σ) ∧ (rt = 1 ∨ (rt = 2 ∧ (x = 0 ∨ x = 1))) := by
  unfold x_ir at h
  split at h
  · rename_i x
    split at h
    · cases h; exact ⟨x, rfl, rfl, Or.inl rfl⟩
    · by_cases hx : x = 0 ∨ x = 1
      · rw [if_pos hx] at h; cases h; exact ⟨x, rfl, rfl, Or.inr ⟨rfl, hx⟩⟩
      · rw [if_neg hx] at h; cases h
    · cases h
  · cases h
theorem x_vr_inv (h : x_vr rt S σ = some r) : S = [] ∧ rt = 0 ∧ r = (0, σ) := by
  unfold x_vr at h
  split at h
  · cases h; exact ⟨rfl, rfl, rfl⟩
  · cases h
theorem x_oc_inv {e : Option xE} {kk : List Value → Option xR} (h : x_oc e S kk = some r) : (∃ o n1 n2, e = some (3, o, n1, n2, false) ∧ kk (.ref o :: S) = some r) ∨ ∃ o n1 n2 b, e = some (4, o, n1, n2, b) ∧ kk (.int (Int32.ofNat o) :: S) = some r := by
  unfold x_oc at h
  split at h
  · exact Or.inl ⟨_, _, _, rfl, h⟩
  · exact Or.inr ⟨_, _, _, _, rfl, h⟩
  · cases h
theorem x_ow_inv {e : Option xE} {kk : List Value → Option xR} (h : x_ow e S kk = some r) : ∃ o n1 n2 b, e = some (4, o, n1, n2, b) ∧ kk (.int (Int32.ofNat o) :: S) = some r := by
  unfold x_ow at h
  split at h
  · exact ⟨_, _, _, _, rfl, h⟩
  · cases h
theorem x_os_inv {e : Option xE} {kk : List Value → Option xR} (h : x_os e S kk = some r) : ∃ o n1 n2, e = some (3, o, n1, n2, true) ∧ kk (.ref o :: S) = some r := by
  unfold x_os at h
  split at h
  · exact ⟨_, _, _, rfl, h⟩
  · cases h
end XI
/-! a row of a method's table against the instruction that its bytes decode to -/
def x_lsw (pc : Nat) : List (Int × Int) → List (Int32 × Nat) → Bool
  | [], [] => true
  | a :: r, q :: ts => decide (q.1.toInt = a.1 ∧ (pc : Int) + a.2 = (q.2 : Int)) && x_lsw pc r ts
  | _, _ => false
def x_tsw (pc : Nat) : Int → List Int → List (Int32 × Nat) → Bool
  | _, [], [] => true
  | lo, a :: r, q :: ts => decide (q.1.toInt = lo ∧ (pc : Int) + a = (q.2 : Int)) && x_tsw pc (lo + 1) r ts
  | _, _, _ => false
theorem x_lsw_ok {pc d : Nat} {dflt : Int} (hd : (pc : Int) + dflt = (d : Int)) {x : Int32} {k : Nat → Option xR} {r : xR} : ∀ {ps : List (Int × Int)} {ts : List (Int32 × Nat)}, x_lsw pc ps ts = true → x_sw x k d ts = some r → ∃ (off : Int) (tgt : Nat), Op.lookupswitch.offset ps dflt x.toInt = off ∧ (pc : Int) + off = (tgt : Int) ∧ k tgt = some r
  | [], [], _, h => ⟨dflt, d, rfl, hd, h⟩
  | [], _ :: _, h, _ => by cases h
  | _ :: _, [], h, _ => by cases h
  | a :: ps, q :: ts, hl, h => by
    unfold x_lsw at hl
    rw [Bool.and_eq_true] at hl
    obtain ⟨h1, h2⟩ := of_decide_eq_true hl.1
    unfold x_sw at h
    by_cases hq : x = q.1
    · rw [if_pos hq] at h
      refine ⟨a.2, q.2, ?_, h2, h⟩
      show (if a.1 = x.toInt then a.2 else _) = a.2
      rw [if_pos (by rw [hq, h1])]
    · rw [if_neg hq] at h
      obtain ⟨off, tgt, g1, g2, g3⟩ := x_lsw_ok hd hl.2 h
      refine ⟨off, tgt, ?_, g2, g3⟩
      show (if a.1 = x.toInt then a.2 else _) = off
      rw [if_neg (fun e => hq (Int32.toInt_inj.mp (by rw [h1, e])))]
      exact g1
theorem x_tsw_ok {pc d : Nat} {x : Int32} {k : Nat → Option xR} {r : xR} : ∀ {lo : Int} {os : List Int} {ts : List (Int32 × Nat)}, x_tsw pc lo os ts = true → x_sw x k d ts = some r → (∃ (i : Nat) (off : Int) (tgt : Nat), os[i]? = some off ∧ x.toInt = lo + i ∧ (pc : Int) + off = (tgt : Int) ∧ k tgt = some r) ∨ ((x.toInt < lo ∨ lo + os.length ≤ x.toInt) ∧ k d = some r)
  | lo, [], [], _, h => Or.inr ⟨by simp only [List.length_nil]; omega, h⟩
  | _, [], _ :: _, h, _ => by cases h
  | _, _ :: _, [], h, _ => by cases h
  | lo, a :: os, q :: ts, hl, h => by
    unfold x_tsw at hl
    rw [Bool.and_eq_true] at hl
    obtain ⟨h1, h2⟩ := of_decide_eq_true hl.1
    unfold x_sw at h
    by_cases hq : x = q.1
    · rw [if_pos hq] at h
      exact Or.inl ⟨0, a, q.2, rfl, by rw [hq, h1]; simp, h2, h⟩
    · rw [if_neg hq] at h
      have hne : ¬ x.toInt = lo := fun e => hq (Int32.toInt_inj.mp (by rw [h1, e]))
      rcases x_tsw_ok hl.2 h with ⟨i, off, tgt, g1, g2, g3, g4⟩ | ⟨g1, g2⟩
      · exact Or.inl ⟨i + 1, off, tgt, g1, by rw [g2]; omega, g3, g4⟩
      · exact Or.inr ⟨by simp only [List.length_cons]; omega, g2⟩
def x_ok (pc : Nat) (o : xO) : Bool := match o.2.1 with
  | .iconst n => decide (o.1 = 1 ∧ Int32.ofInt n = o.2.2.1)
  | .bipush n => decide (o.1 = 2 ∧ (Int8.ofInt n).toInt32 = o.2.2.1)
  | .sipush n => decide (o.1 = 3 ∧ (Int16.ofInt n).toInt32 = o.2.2.1)
  | .iload_n n => decide (o.1 = 1 ∧ n.val = o.2.2.2.1)
  | .iload n => decide (o.1 = 2 ∧ n = o.2.2.2.1)
  | .aload_n n => decide (o.1 = 1 ∧ n.val = o.2.2.2.1)
  | .aload n => decide (o.1 = 2 ∧ n = o.2.2.2.1)
  | .istore_n n => decide (o.1 = 1 ∧ n.val = o.2.2.2.1)
  | .istore n => decide (o.1 = 2 ∧ n = o.2.2.2.1)
  | .iinc n d => decide (o.1 = 3 ∧ n = o.2.2.2.1 ∧ Int32.ofInt d = o.2.2.1)
  | .ifCond _ off => decide (o.1 = 3 ∧ (pc : Int) + off = (o.2.2.2.1 : Int))
  | .if_icmp _ off => decide (o.1 = 3 ∧ (pc : Int) + off = (o.2.2.2.1 : Int))
  | .goto off => decide ((pc : Int) + off = (o.2.2.2.1 : Int)) && Nat.beq o.1 3
  | .tableswitch d lo hi os => decide ((pc : Int) + d = (o.2.2.2.1 : Int) ∧ hi = lo + os.toList.length - 1) && x_tsw pc lo os.toList o.2.2.2.2
  | .lookupswitch d ps => decide ((pc : Int) + d = (o.2.2.2.1 : Int) ∧ (ps.toList.zip (ps.toList.drop 1)).all (fun (a, next) => a.1 < next.1) = true) && x_lsw pc ps.toList o.2.2.2.2
  | .ldc_w _ => decide (o.1 = 3)
  | .getfield _ => decide (o.1 = 3)
  | .putfield _ => decide (o.1 = 3)
  | .invokevirtual _ => decide (o.1 = 3)
  | .invokestatic _ => decide (o.1 = 3)
  | .getstatic _ => decide (o.1 = 3)
  | .ldc _ => decide (o.1 = 2)
  | .iadd => decide (o.1 = 1)
  | .isub => decide (o.1 = 1)
  | .imul => decide (o.1 = 1)
  | .iand => decide (o.1 = 1)
  | .ior => decide (o.1 = 1)
  | .ixor => decide (o.1 = 1)
  | .ishl => decide (o.1 = 1)
  | .ishr => decide (o.1 = 1)
  | .iushr => decide (o.1 = 1)
  | .idiv => decide (o.1 = 1)
  | .irem => decide (o.1 = 1)
  | .dup => decide (o.1 = 1)
  | .pop => decide (o.1 = 1)
  | .dup_x1 => decide (o.1 = 1)
  | .dup2 => decide (o.1 = 1)
  | .iaload => decide (o.1 = 1)
  | .baload => decide (o.1 = 1)
  | .iastore => decide (o.1 = 1)
  | .bastore => decide (o.1 = 1)
  | .ireturn => decide (o.1 = 1)
  | .return_ => decide (o.1 = 1)
  | _ => false
def x_rt (rt : Nat) (ret : Option FieldType) : Prop := (rt = 0 ∧ ret = none) ∨ (rt = 1 ∧ ret = some .int) ∨ (rt = 2 ∧ ret = some .boolean)
/-- what a place of the pool says of a field -/
def x_FO (cl : List vw_C) (Ts : List Cond) (s : State) (args : Array Value) (own : String) (q ci f : Nat) (b : Bool) : Prop :=
  ∃ (C : String) (T : u_T) (N : Nat), cl[ci]? = some (C, T, N) ∧ f < N ∧ (∀ w ∈ u_ws C T N, w ∈ Ts) ∧ (T f).1 = C ∧ ((Cond.fieldLink own q C (T f).2.1 (T f).2.2.1).before args s = true ∨ ∃ host, (Cond.fieldLinkNest own q C (T f).2.1 (T f).2.2.1 host).before args s = true) ∧
    (b = true → (T f).2.2.2 = false ∧ parseFieldDescriptor (T f).2.2.1 = some .int ∧ (∃ ty0 : Nat → FieldType, ∀ k, k < N → parseFieldDescriptor (T k).2.2.1 = some (ty0 k)) ∧ ∀ a, a < N → ∀ b, b < N → a ≠ b → (T a).2.1 ≠ (T b).2.1)
/-- of a constant: a static's reference, a text -/
def x_SO (A : Nat → Prop) (ad : Nat → Nat) (s : State) (args : Array Value) (own : String) (q o : Nat) (b : Bool) : Prop := match b with
  | true => ∃ (C n d : String), va_Z C n d (.ref (ad o)) A s s.heap ∧ (Cond.fieldLink own q C n d).before args s = true
  | false => ∃ tx : String, vk_R own q tx (ad o) s
def x_Qc (D : va_G) (cl : List vw_C) (A : Nat → Prop) (ad : Nat → Nat) (cI cZ : ClassId) (sh : List xH) (v : Bool) (r : xR) : Array Value → State → Outcome → State → Prop := fun _ st o t =>
  o = .returned (match v with | true => none | false => some (.int r.1)) ∧ va_P D cl (x_w ad cI cZ sh r.2) t.heap ∧ va_F A st t
section XG
variable {p : Program} {l : Launch} {e : Env} {R : Room} {s : State} {m : MethodId} {args : Array Value} {below : List Frame} {meth : Method} {c : Code} {Q : State → Prop} {H : Heap} {locs : List Loc}
variable {D : va_G} {cl : List vw_C} {tys : List (ClassId × FieldType)} {A : Nat → Prop} {ad : Nat → Nat} {cI cZ : ClassId} {sh : List xH} {cc : ByteArray} {nL : Nat}
def x_G (p : Program) (l : Launch) (e : Env) (R : Room) (s : State) (m : MethodId) (args : Array Value) (below : List Frame) (meth : Method) (c : Code) (Q : State → Prop) (D : va_G) (cl : List vw_C) (A : Nat → Prop) (ad : Nat → Nat) (cI cZ : ClassId) (sh : List xH) (nL : Nat) (pc : Nat) (L : xL) (S : List Value) (σ : xS) : Prop :=
  ∀ (H : Heap) (locs : List Loc) (ls : Array Slot), va_P D cl (x_w ad cI cZ sh σ) H → va_S A s.heap H locs → lv_has ls nL (L.map fun q => (q.1, x_tv ad q.2)) → W p l e R s m args below meth c H locs 0 0 Q (F0 m pc ls (S.map (x_tv ad)))
theorem x_callW {pc : Nat} {ls : Array Slot} {st0 rest : List Value} {v : Bool} {r1 : xR} {a : Array Value} (hr : va_Run p l e R s m args below meth c H locs 0 0 0 0 (F0 m pc ls st0) rest (x_Qc D cl A ad cI cZ sh v r1 a) A) (hS : va_S A s.heap H locs)
    (kk : ∀ (H1 : Heap) (locs1 : List Loc), va_P D cl (x_w ad cI cZ sh r1.2) H1 → va_S A s.heap H1 locs1 → W p l e R s m args below meth c H1 locs1 0 0 Q (F0 m (pc + 3) ls (x_rs v r1.1 rest))) : W p l e R s m args below meth c H locs 0 0 Q (F0 m pc ls st0) := by
  intro T hT X
  obtain ⟨v', st₀, t, T', L, h0, X', hL, e1, e2, ⟨hv, hP, hz, hk⟩, st⟩ := hr T hT X
  rw [h0] at hz hk
  cases hv
  obtain ⟨t2, a1, b1⟩ := kk T'.heap (locs ++ L) (by rw [e1]; exact hP) ⟨Nat.le_trans hS.1 (by rw [e1]; exact hz), fun q h1 h2 => by rw [e1, hk q (Nat.lt_of_lt_of_le h1 hS.1) h2]; exact hS.2.1 q h1 h2, fun q hq => by
      rcases List.mem_append.mp hq with h | h
      · exact hS.2.2 q h
      · exact hL q h⟩ T' rfl X'
  refine ⟨t2, st t2 ?_, b1⟩
  cases v <;> exact a1
/-- an element of an array that is a constant -/
theorem x_Tld {pc : Nat} {ls : Array Slot} {rest : List Value} (hexec : p.tables.exec = Jvm.exec) (hb : c.code = cc) {t N : Nat} {f : Nat → Value} (hT : va_T .int t N f A s s.heap) (hS : va_S A s.heap H locs) {i : Int32} (hin : vp_in i N) (hdg : decode cc pc = .ok (.iaload, 1))
    (kk : W p l e R s m args below meth c H locs 0 0 Q (F0 m (pc + 1) ls (f i.toNatClampNeg :: rest))) : W p l e R s m args below meth c H locs 0 0 Q (F0 m pc ls (.int i :: .ref t :: rest)) := by
  obtain ⟨cell, h1, h2, h3, h4, h5, h6, h7⟩ := hT
  have hi : ¬ i < 0 ∧ i.toNatClampNeg < N := ⟨fun q => hin (Or.inl q), Nat.not_le.mp fun q => hin (Or.inr q)⟩
  exact W.iald hexec hb (by rw [hS.2.1 t (Array.getElem?_eq_some_iff.mp h1).1 h7]; exact h1) h2 h3 (fun q => by
    rcases q with q | q
    · exact hi.1 q
    · exact absurd (Nat.le_trans h4 q) (Nat.not_le.mpr hi.2)) (h6 _ hi.2) rfl rfl hdg kk
set_option maxHeartbeats 4000000 in
set_option maxRecDepth 100000 in
theorem x_step_ok {Ts : List Cond} {own : String} {ca : Nat → Option (List Int32)} {pool : Nat → Option xE} {rt : Nat} {C : xC} {k : xK} {o : xO} {pc : Nat} {L : xL} {S : List Value} {σ : xS} {r : xR}
    (hx : p.tables.exec = Jvm.exec) (hb : c.code = cc) (hlocks : meth.locks = false) (hown : s.vm.findClass own = some m.cls) (hts : ∀ w ∈ Ts, w.before args s = true) (hK : va_K D cl tys s) (hD : ∀ σ : xS, va_D A (x_w ad cI cZ sh σ))
    {t1 t2 : Nat} (ht1 : tys[t1]? = some (cI, .int)) (ht2 : tys[t2]? = some (cZ, .boolean)) (hret : x_rt rt meth.sig.returnType)
    (hfld : ∀ q ci f n b, pool q = some (0, ci, f, n, b) → x_FO cl Ts s args own q ci f b) (hsta : ∀ q o n1 n2 b, pool q = some (3, o, n1, n2, b) → x_SO A ad s args own q o b) (hcon : ∀ q o n1 n2 b, pool q = some (4, o, n1, n2, b) → (Jvm.Cond.constant own q (Int32.ofNat o)).before args s = true)
    (hca : ∀ o q, ca o = some q → va_T .int (ad o) q.length (fun j => .int (q.getD j 0)) A s s.heap)
    (hvirt : ∀ q j na ci v, pool q = some (1, j, na, ci, v) → ∀ (as rest : List Value) (o : Nat) (fs : List (Option Nat)) (σ : xS) (r1 : xR) (H : Heap) (locs : List Loc) (ls : Array Slot) (pc : Nat), as.length = na → sh[o]? = some (.inl (ci, fs)) → x_rm 8 rest = true → C j (.ref o :: as) σ = some r1 → va_P D cl (x_w ad cI cZ sh σ) H → va_S A s.heap H locs → ls.size = nL → decode cc pc = .ok (.invokevirtual q, 3) →
      ∃ a, va_Run p l e R s m args below meth c H locs 0 0 0 0 (F0 m pc ls ((as.map (x_tv ad)).reverse ++ .ref (ad o) :: rest.map (x_tv ad))) (rest.map (x_tv ad)) (x_Qc D cl A ad cI cZ sh v r1 a) A)
    (hstat : ∀ q j na ci v, pool q = some (2, j, na, ci, v) → ∀ (as rest : List Value) (σ : xS) (r1 : xR) (H : Heap) (locs : List Loc) (ls : Array Slot) (pc : Nat), as.length = na → x_rm 8 rest = true → C j as σ = some r1 → va_P D cl (x_w ad cI cZ sh σ) H → va_S A s.heap H locs → ls.size = nL → decode cc pc = .ok (.invokestatic q, 3) →
      ∃ a, va_Run p l e R s m args below meth c H locs 0 0 0 0 (F0 m pc ls ((as.map (x_tv ad)).reverse ++ rest.map (x_tv ad))) (rest.map (x_tv ad)) (x_Qc D cl A ad cI cZ sh v r1 a) A)
    (hk : ∀ pc L S σ, k pc L S σ = some r → x_G p l e R s m args below meth c (MQ below (x_Qc D cl A ad cI cZ sh (rt == 0) r) args s 0 0 A) D cl A ad cI cZ sh nL pc L S σ)
    (hdec : decode cc pc = .ok (o.2.1, o.1)) (hop : x_ok pc o = true) (h : x_step sh ca pool nL rt C k o pc L S σ = some r) :
    x_G p l e R s m args below meth c (MQ below (x_Qc D cl A ad cI cZ sh (rt == 0) r) args s 0 0 A) D cl A ad cI cZ sh nL pc L S σ := by
  intro H locs ls hP hS hl
  obtain ⟨len, i, v, t, ts⟩ := o
  dsimp only at hdec
  cases i with
  | iconst n =>
    obtain ⟨rfl, hv⟩ := of_decide_eq_true hop
    exact lv_iconst hx hb hdec hv (hk _ _ _ _ h _ _ _ hP hS hl)
  | bipush n =>
    obtain ⟨rfl, hv⟩ := of_decide_eq_true hop
    exact lv_bipush hx hb hdec hv (hk _ _ _ _ h _ _ _ hP hS hl)
  | sipush n =>
    obtain ⟨rfl, hv⟩ := of_decide_eq_true hop
    exact lv_sipush hx hb hdec hv (hk _ _ _ _ h _ _ _ hP hS hl)
  | iload_n n =>
    obtain ⟨rfl, hv⟩ := of_decide_eq_true hop
    obtain ⟨x, g, h⟩ := x_ldi_inv h
    exact lv_iload_n hx hb hdec hv (x_lk_at hl g) (hk _ _ _ _ h _ _ _ hP hS hl)
  | iload n =>
    obtain ⟨rfl, hv⟩ := of_decide_eq_true hop
    obtain ⟨x, g, h⟩ := x_ldi_inv h
    dsimp only at hv
    subst hv
    exact lv_iload hx hb hdec (x_lk_at hl g) (hk _ _ _ _ h _ _ _ hP hS hl)
  | aload_n n =>
    obtain ⟨rfl, hv⟩ := of_decide_eq_true hop
    obtain ⟨x, g, h⟩ := x_lda_inv h
    exact lv_aload_n hx hb hdec hv (x_lk_at hl g) (hk _ _ _ _ h _ _ _ hP hS hl)
  | aload n =>
    obtain ⟨rfl, hv⟩ := of_decide_eq_true hop
    obtain ⟨x, g, h⟩ := x_lda_inv h
    dsimp only at hv
    subst hv
    exact lv_aload hx hb hdec (x_lk_at hl g) (hk _ _ _ _ h _ _ _ hP hS hl)
  | istore_n n =>
    obtain ⟨rfl, hv⟩ := of_decide_eq_true hop
    obtain ⟨x, S', rfl, h⟩ := x_top_inv h
    obtain ⟨g, h⟩ := x_lt_inv h
    exact lv_istore_n hx hb hdec hv hl g (x_st_map ad L t (.int x)) fun ls' hl' => hk _ _ _ _ h _ _ _ hP hS hl'
  | istore n =>
    obtain ⟨rfl, hv⟩ := of_decide_eq_true hop
    dsimp only at hv
    subst hv
    obtain ⟨x, S', rfl, h⟩ := x_top_inv h
    obtain ⟨g, h⟩ := x_lt_inv h
    exact lv_istore hx hb hdec hl g (x_st_map ad L n (.int x)) fun ls' hl' => hk _ _ _ _ h _ _ _ hP hS hl'
  | iinc n d =>
    obtain ⟨rfl, hv, hd⟩ := of_decide_eq_true hop
    dsimp only at hv hd
    subst hv
    obtain ⟨x, g, h⟩ := x_ldi_inv h
    obtain ⟨g2, h⟩ := x_lt_inv h
    have hm : (n, Value.int x) ∈ L.map (fun q => (q.1, x_tv ad q.2)) := List.mem_map.mpr ⟨(n, .int x), x_lk_mem g, rfl⟩
    obtain ⟨j, hj⟩ := List.getElem?_of_mem hm
    exact lv_iinc hx hb hdec hl hj (by rw [hd]) g2 (x_st_map ad L n (.int (x + v))) fun ls' hl' => hk _ _ _ _ h _ _ _ hP hS hl'
  | iadd =>
    obtain rfl := of_decide_eq_true hop
    have h : x_bin (fun x y => x + y) S (fun S => k (pc + 1) L S σ) = some r := h
    obtain ⟨x, y, S', rfl, h⟩ := x_bin_inv h
    exact lv_iadd hx hb hdec (hk _ _ _ _ h _ _ _ hP hS hl)
  | isub =>
    obtain rfl := of_decide_eq_true hop
    have h : x_bin (fun x y => x - y) S (fun S => k (pc + 1) L S σ) = some r := h
    obtain ⟨x, y, S', rfl, h⟩ := x_bin_inv h
    exact lv_isub hx hb hdec (hk _ _ _ _ h _ _ _ hP hS hl)
  | imul =>
    obtain rfl := of_decide_eq_true hop
    have h : x_bin (fun x y => x * y) S (fun S => k (pc + 1) L S σ) = some r := h
    obtain ⟨x, y, S', rfl, h⟩ := x_bin_inv h
    exact lv_imul hx hb hdec (hk _ _ _ _ h _ _ _ hP hS hl)
  | iand =>
    obtain rfl := of_decide_eq_true hop
    have h : x_bin (fun x y => x &&& y) S (fun S => k (pc + 1) L S σ) = some r := h
    obtain ⟨x, y, S', rfl, h⟩ := x_bin_inv h
    exact lv_iand hx hb hdec (hk _ _ _ _ h _ _ _ hP hS hl)
  | ior =>
    obtain rfl := of_decide_eq_true hop
    have h : x_bin (fun x y => x ||| y) S (fun S => k (pc + 1) L S σ) = some r := h
    obtain ⟨x, y, S', rfl, h⟩ := x_bin_inv h
    exact lv_ior hx hb hdec (hk _ _ _ _ h _ _ _ hP hS hl)
  | ixor =>
    obtain rfl := of_decide_eq_true hop
    have h : x_bin (fun x y => x ^^^ y) S (fun S => k (pc + 1) L S σ) = some r := h
    obtain ⟨x, y, S', rfl, h⟩ := x_bin_inv h
    exact lv_ixor hx hb hdec (hk _ _ _ _ h _ _ _ hP hS hl)
  | ishl =>
    obtain rfl := of_decide_eq_true hop
    have h : x_bin (fun x y => x <<< (y &&& 31)) S (fun S => k (pc + 1) L S σ) = some r := h
    obtain ⟨x, y, S', rfl, h⟩ := x_bin_inv h
    exact lv_ishl hx hb hdec (hk _ _ _ _ h _ _ _ hP hS hl)
  | ishr =>
    obtain rfl := of_decide_eq_true hop
    have h : x_bin (fun x y => x >>> (y &&& 31)) S (fun S => k (pc + 1) L S σ) = some r := h
    obtain ⟨x, y, S', rfl, h⟩ := x_bin_inv h
    exact lv_ishr hx hb hdec (hk _ _ _ _ h _ _ _ hP hS hl)
  | iushr =>
    obtain rfl := of_decide_eq_true hop
    have h : x_bin (fun x y => (x.toUInt32 >>> (y.toUInt32 &&& Int32.toUInt32 31)).toInt32) S (fun S => k (pc + 1) L S σ) = some r := h
    obtain ⟨x, y, S', rfl, h⟩ := x_bin_inv h
    exact lv_iushr hx hb hdec rfl (hk _ _ _ _ h _ _ _ hP hS hl)
  | idiv =>
    obtain rfl := of_decide_eq_true hop
    have h : x_div (fun x y => x / y) S (fun S => k (pc + 1) L S σ) = some r := h
    obtain ⟨x, y, S', rfl, hy, h⟩ := x_div_inv h
    exact lv_idiv hx hb hdec hy (hk _ _ _ _ h _ _ _ hP hS hl)
  | irem =>
    obtain rfl := of_decide_eq_true hop
    have h : x_div (fun x y => x - x / y * y) S (fun S => k (pc + 1) L S σ) = some r := h
    obtain ⟨x, y, S', rfl, hy, h⟩ := x_div_inv h
    exact lv_irem hx hb hdec hy (hk _ _ _ _ h _ _ _ hP hS hl)
  | dup =>
    obtain rfl := of_decide_eq_true hop
    obtain ⟨a, S', rfl, ha, h⟩ := x_d1_inv h
    exact lv_dup hx hb hdec (by rw [x_tv_cat]; exact ha) (hk _ _ _ _ h _ _ _ hP hS hl)
  | pop =>
    obtain rfl := of_decide_eq_true hop
    obtain ⟨a, S', rfl, ha, h⟩ := x_d1_inv h
    exact lv_pop hx hb hdec (by rw [x_tv_cat]; exact ha) (hk _ _ _ _ h _ _ _ hP hS hl)
  | dup_x1 =>
    obtain rfl := of_decide_eq_true hop
    obtain ⟨a, b, S', rfl, ha, hb2, h⟩ := x_d2_inv h
    exact lv_dup_x1 hx hb hdec (by rw [x_tv_cat]; exact ha) (by rw [x_tv_cat]; exact hb2) (hk _ _ _ _ h _ _ _ hP hS hl)
  | dup2 =>
    obtain rfl := of_decide_eq_true hop
    obtain ⟨a, b, S', rfl, ha, hb2, h⟩ := x_d2_inv h
    exact lv_dup2_11 hx hb hdec (by rw [x_tv_cat]; exact ha) (by rw [x_tv_cat]; exact hb2) (hk _ _ _ _ h _ _ _ hP hS hl)
  | ifCond cnd off =>
    obtain ⟨rfl, ht⟩ := of_decide_eq_true hop
    dsimp only at ht
    obtain ⟨x, S', rfl, h⟩ := x_top_inv h
    cases cnd with
    | eq =>
      change (if x = 0 then _ else _) = some r at h
      exact lv_if_eq hx hb hdec ht (fun g => hk _ _ _ _ ((if_pos g).symm.trans h) _ _ _ hP hS hl) (fun g => hk _ _ _ _ ((if_neg g).symm.trans h) _ _ _ hP hS hl)
    | ne =>
      change (if x = 0 then _ else _) = some r at h
      exact lv_if_ne hx hb hdec ht (fun g => hk _ _ _ _ ((if_neg g).symm.trans h) _ _ _ hP hS hl) (fun g => hk _ _ _ _ ((if_pos g).symm.trans h) _ _ _ hP hS hl)
    | lt =>
      change (if x < 0 then _ else _) = some r at h
      exact lv_if_lt hx hb hdec ht (fun g => hk _ _ _ _ ((if_pos g).symm.trans h) _ _ _ hP hS hl) (fun g => hk _ _ _ _ ((if_neg g).symm.trans h) _ _ _ hP hS hl)
    | ge =>
      change (if 0 ≤ x then _ else _) = some r at h
      exact lv_if_ge hx hb hdec ht (fun g => hk _ _ _ _ ((if_pos g).symm.trans h) _ _ _ hP hS hl) (fun g => hk _ _ _ _ ((if_neg g).symm.trans h) _ _ _ hP hS hl)
    | gt =>
      change (if 0 < x then _ else _) = some r at h
      exact lv_if_gt hx hb hdec ht (fun g => hk _ _ _ _ ((if_pos g).symm.trans h) _ _ _ hP hS hl) (fun g => hk _ _ _ _ ((if_neg g).symm.trans h) _ _ _ hP hS hl)
    | le =>
      change (if x ≤ 0 then _ else _) = some r at h
      exact lv_if_le hx hb hdec ht (fun g => hk _ _ _ _ ((if_pos g).symm.trans h) _ _ _ hP hS hl) (fun g => hk _ _ _ _ ((if_neg g).symm.trans h) _ _ _ hP hS hl)
  | if_icmp cnd off =>
    obtain ⟨rfl, ht⟩ := of_decide_eq_true hop
    dsimp only at ht
    obtain ⟨x, y, S', rfl, h⟩ := x_two_inv h
    cases cnd with
    | eq =>
      change (if x = y then _ else _) = some r at h
      exact lv_icmp_eq hx hb hdec ht (fun g => hk _ _ _ _ ((if_pos g).symm.trans h) _ _ _ hP hS hl) (fun g => hk _ _ _ _ ((if_neg g).symm.trans h) _ _ _ hP hS hl)
    | ne =>
      change (if x = y then _ else _) = some r at h
      exact lv_icmp_ne hx hb hdec ht (fun g => hk _ _ _ _ ((if_neg g).symm.trans h) _ _ _ hP hS hl) (fun g => hk _ _ _ _ ((if_pos g).symm.trans h) _ _ _ hP hS hl)
    | lt =>
      change (if x < y then _ else _) = some r at h
      exact lv_icmp_lt hx hb hdec ht (fun g => hk _ _ _ _ ((if_pos g).symm.trans h) _ _ _ hP hS hl) (fun g => hk _ _ _ _ ((if_neg g).symm.trans h) _ _ _ hP hS hl)
    | ge =>
      change (if y ≤ x then _ else _) = some r at h
      exact lv_icmp_ge hx hb hdec ht (fun g => hk _ _ _ _ ((if_pos g).symm.trans h) _ _ _ hP hS hl) (fun g => hk _ _ _ _ ((if_neg g).symm.trans h) _ _ _ hP hS hl)
    | gt =>
      change (if y < x then _ else _) = some r at h
      exact lv_icmp_gt hx hb hdec ht (fun g => hk _ _ _ _ ((if_pos g).symm.trans h) _ _ _ hP hS hl) (fun g => hk _ _ _ _ ((if_neg g).symm.trans h) _ _ _ hP hS hl)
    | le =>
      change (if x ≤ y then _ else _) = some r at h
      exact lv_icmp_le hx hb hdec ht (fun g => hk _ _ _ _ ((if_pos g).symm.trans h) _ _ _ hP hS hl) (fun g => hk _ _ _ _ ((if_neg g).symm.trans h) _ _ _ hP hS hl)
  | goto off =>
    have hop2 : (decide ((pc : Int) + off = (t : Int)) && Nat.beq len 3) = true := hop
    rw [Bool.and_eq_true] at hop2
    have ht := of_decide_eq_true hop2.1
    have hlen : len = 3 := Nat.eq_of_beq_eq_true hop2.2
    subst hlen
    exact lv_goto hx hb hdec ht (hk _ _ _ _ h _ _ _ hP hS hl)
  | tableswitch d lo hi os =>
    have hop2 : (decide ((pc : Int) + d = (t : Int) ∧ hi = lo + os.toList.length - 1) && x_tsw pc lo os.toList ts) = true := hop
    rw [Bool.and_eq_true] at hop2
    obtain ⟨ht, hhi⟩ := of_decide_eq_true hop2.1
    obtain ⟨x, S', rfl, h⟩ := x_top_inv h
    rcases x_tsw_ok hop2.2 h with ⟨i, off, tgt, g1, g2, g3, g4⟩ | ⟨g1, g2⟩
    · have hi2 : i < os.toList.length := (List.getElem?_eq_some_iff.mp g1).1
      refine lv_tableIn hx hb hdec (by omega) (by omega) (off := off) (tgt := tgt) ?_ g3 (hk _ _ _ _ g4 _ _ _ hP hS hl)
      have e : (x.toInt - lo).toNat = i := by omega
      rw [e]
      simpa using g1
    · exact lv_tableOut hx hb hdec (by omega) ht (hk _ _ _ _ g2 _ _ _ hP hS hl)
  | lookupswitch d ps =>
    have hop2 : (decide ((pc : Int) + d = (t : Int) ∧ (ps.toList.zip (ps.toList.drop 1)).all (fun (a, next) => a.1 < next.1) = true) && x_lsw pc ps.toList ts) = true := hop
    rw [Bool.and_eq_true] at hop2
    obtain ⟨ht, hps⟩ := of_decide_eq_true hop2.1
    obtain ⟨x, S', rfl, h⟩ := x_top_inv h
    obtain ⟨off, tgt, g1, g2, g3⟩ := x_lsw_ok ht hop2.2 h
    exact lv_lookup hx hb hdec hps g1 g2 (hk _ _ _ _ g3 _ _ _ hP hS hl)
  | getfield q =>
    obtain rfl := of_decide_eq_true hop
    have h : x_gf sh (pool q) S σ (fun S => k (pc + 3) L S σ) = some r := h
    obtain ⟨ci, g, n, b, o, S', fs, hp, rfl, hs, h⟩ := x_gf_inv h
    obtain ⟨Cn, T, N, f1, f2, f3, f4, f5, -⟩ := hfld _ _ _ _ _ hp
    have hw := x_w_at (ad := ad) (cI := cI) (cZ := cZ) (σ := σ) hs
    rcases h with ⟨hf, h⟩ | ⟨a, hf, h⟩
    · have hv : (x_fv ad (σ o) fs 0)[g]? = some (.int (σ o g)) := by rw [x_fv_get, hf]; simp
      rcases f5 with f5 | ⟨host, f5⟩
      · exact va_get hx hb hts f3 hown hK hP o hw f1 g f2 f5 (fun _ z => by rw [f4] at z; exact z) hv hdec (hk _ _ _ _ h _ _ _ hP hS hl)
      · exact va_getN hx hb hts f3 hown hK hP o hw f1 g f2 f5 (fun _ z => by rw [f4] at z; exact z) hv hdec (hk _ _ _ _ h _ _ _ hP hS hl)
    · have hv : (x_fv ad (σ o) fs 0)[g]? = some (.ref (ad a)) := by rw [x_fv_get, hf]; simp
      rcases f5 with f5 | ⟨host, f5⟩
      · exact va_get hx hb hts f3 hown hK hP o hw f1 g f2 f5 (fun _ z => by rw [f4] at z; exact z) hv hdec (hk _ _ _ _ h _ _ _ hP hS hl)
      · exact va_getN hx hb hts f3 hown hK hP o hw f1 g f2 f5 (fun _ z => by rw [f4] at z; exact z) hv hdec (hk _ _ _ _ h _ _ _ hP hS hl)
  | putfield q =>
    obtain rfl := of_decide_eq_true hop
    have h : x_pf sh (pool q) S σ (fun S σ => k (pc + 3) L S σ) = some r := h
    obtain ⟨ci, g, n, x, o, S', fs, hp, rfl, hs, hf, h⟩ := x_pf_inv h
    obtain ⟨Cn, T, N, f1, f2, f3, f4, f5, f6⟩ := hfld _ _ _ _ _ hp
    obtain ⟨f7, f8, ⟨ty0, f9⟩, f10⟩ := f6 rfl
    have hw := x_w_at (ad := ad) (cI := cI) (cZ := cZ) (σ := σ) hs
    have hlen : g < (x_fv ad (σ o) fs 0).length := by
      have h1 : (x_fv ad (σ o) fs 0)[g]? = some (.int (σ o g)) := by rw [x_fv_get, hf]; simp
      exact (List.getElem?_eq_some_iff.mp h1).1
    have hset : (x_w ad cI cZ sh σ).set o (ad o, .inr (ci, (x_fv ad (σ o) fs 0).set g (.int x))) = x_w ad cI cZ sh (x_up σ o g x) := x_w_set hs (by rw [x_fv_set hf]; rfl)
    rcases f5 with f5 | ⟨host, f5⟩
    · exact va_put hx hb hts f3 ty0 f9 f10 hown hK hP (hD σ) hS o hw f1 g f2 f5 (fun _ z => by rw [f4] at z; exact z) f7 f8 (by rfl) (by rfl) hlen hdec fun H1 locs1 hP1 _ hS1 => hk _ _ _ _ h _ _ _ (by rw [← hset]; exact hP1) hS1 hl
    · exact va_putN hx hb hts f3 ty0 f9 f10 hown hK hP (hD σ) hS o hw f1 g f2 f5 (fun _ z => by rw [f4] at z; exact z) f7 f8 (by rfl) (by rfl) hlen hdec fun H1 locs1 hP1 _ hS1 => hk _ _ _ _ h _ _ _ (by rw [← hset]; exact hP1) hS1 hl
  | iaload =>
    obtain rfl := of_decide_eq_true hop
    have h : x_al sh ca false S σ (fun S => k (pc + 1) L S σ) = some r := h
    obtain ⟨i, o, S', rfl, h2⟩ := x_al_inv h
    rcases h2 with ⟨n, hs, hi, h⟩ | ⟨-, q, hq, hi, h⟩
    · exact va_iald hx hb hK hP o t1 (x_w_at (ad := ad) (cI := cI) (cZ := cZ) (σ := σ) hs) ht1 hi hdec (hk _ _ _ _ h _ _ _ hP hS hl)
    · exact x_Tld hx hb (hca _ _ hq) hS hi hdec (hk _ _ _ _ h _ _ _ hP hS hl)
  | baload =>
    obtain rfl := of_decide_eq_true hop
    have h : x_al sh ca true S σ (fun S => k (pc + 1) L S σ) = some r := h
    obtain ⟨i, o, S', rfl, h2⟩ := x_al_inv h
    rcases h2 with ⟨n, hs, hi, h⟩ | ⟨hf, -⟩
    · exact va_zald hx hb hK hP o t2 (x_w_at (ad := ad) (cI := cI) (cZ := cZ) (σ := σ) hs) ht2 hi hdec (hk _ _ _ _ h _ _ _ hP hS hl)
    · cases hf
  | iastore =>
    obtain rfl := of_decide_eq_true hop
    have h : x_as sh false S σ (fun S σ => k (pc + 1) L S σ) = some r := h
    obtain ⟨x, i, o, S', n, rfl, hs, hi, h⟩ := x_as_inv h
    have hset : (x_w ad cI cZ sh σ).set o (ad o, .inl (cI, n, .inl (upd (σ o) i.toNatClampNeg x))) = x_w ad cI cZ sh (x_up σ o i.toNatClampNeg (x_nb false x)) := x_w_set hs rfl
    exact va_iast hx hb hK hP (hD σ) hS o t1 (x_w_at (ad := ad) (cI := cI) (cZ := cZ) (σ := σ) hs) ht1 hi hdec fun H1 locs1 hP1 _ hS1 => hk _ _ _ _ h _ _ _ (by rw [← hset]; exact hP1) hS1 hl
  | bastore =>
    obtain rfl := of_decide_eq_true hop
    have h : x_as sh true S σ (fun S σ => k (pc + 1) L S σ) = some r := h
    obtain ⟨x, i, o, S', n, rfl, hs, hi, h⟩ := x_as_inv h
    have hset : (x_w ad cI cZ sh σ).set o (ad o, .inl (cZ, n, .inl (upd (σ o) i.toNatClampNeg (vp_nar .boolean x)))) = x_w ad cI cZ sh (x_up σ o i.toNatClampNeg (x_nb true x)) := x_w_set hs rfl
    exact va_zast hx hb hK hP (hD σ) hS o t2 (x_w_at (ad := ad) (cI := cI) (cZ := cZ) (σ := σ) hs) ht2 hi hdec fun H1 locs1 hP1 _ hS1 => hk _ _ _ _ h _ _ _ (by rw [← hset]; exact hP1) hS1 hl
  | invokevirtual q =>
    obtain rfl := of_decide_eq_true hop
    have h : x_iv sh C (pool q) S σ (fun S σ => k (pc + 3) L S σ) = some r := h
    obtain ⟨j, na, ci, v, o, as, rest, fs, r1, hp, rfl, hn, hs, hr, hc, h⟩ := x_iv_inv h
    obtain ⟨a, hrun⟩ := hvirt _ _ _ _ _ hp as rest o fs σ r1 H locs ls pc hn hs hr hc hP hS hl.1 hdec
    refine W.eq (g2 := F0 m pc ls ((as.map (x_tv ad)).reverse ++ .ref (ad o) :: rest.map (x_tv ad))) ?_ (x_callW hrun hS fun H1 locs1 hP1 hS1 => ?_)
    · simp only [List.map_append, List.map_reverse, List.map_cons, x_tv]
    · have := hk _ _ _ _ h H1 locs1 ls hP1 hS1 hl
      cases v <;> exact this
  | invokestatic q =>
    obtain rfl := of_decide_eq_true hop
    have h : x_is C (pool q) S σ (fun S σ => k (pc + 3) L S σ) = some r := h
    obtain ⟨j, na, ci, v, as, rest, r1, hp, rfl, hn, hr, hc, h⟩ := x_is_inv h
    obtain ⟨a, hrun⟩ := hstat _ _ _ _ _ hp as rest σ r1 H locs ls pc hn hr hc hP hS hl.1 hdec
    refine W.eq (g2 := F0 m pc ls ((as.map (x_tv ad)).reverse ++ rest.map (x_tv ad))) ?_ (x_callW hrun hS fun H1 locs1 hP1 hS1 => ?_)
    · simp only [List.map_append, List.map_reverse]
    · have := hk _ _ _ _ h H1 locs1 ls hP1 hS1 hl
      cases v <;> exact this
  | ldc q =>
    obtain rfl := of_decide_eq_true hop
    have h : x_oc (pool q) S (fun S => k (pc + 2) L S σ) = some r := h
    rcases x_oc_inv h with ⟨o, n1, n2, hp, h⟩ | ⟨o, n1, n2, b, hp, h⟩
    · obtain ⟨tx, hz⟩ := hsta _ _ _ _ _ hp
      exact va_ldcS hx hb hown hz hdec (hk _ _ _ _ h _ _ _ hP hS hl)
    · exact lv_ldc hx hb hown (hcon _ _ _ _ _ hp) hdec (hk _ _ _ _ h _ _ _ hP hS hl)
  | ldc_w q =>
    obtain rfl := of_decide_eq_true hop
    have h : x_ow (pool q) S (fun S => k (pc + 3) L S σ) = some r := h
    obtain ⟨o, n1, n2, b, hp, h⟩ := x_ow_inv h
    exact lv_ldcw hx hb hown (hcon _ _ _ _ _ hp) hdec (hk _ _ _ _ h _ _ _ hP hS hl)
  | getstatic q =>
    obtain rfl := of_decide_eq_true hop
    have h : x_os (pool q) S (fun S => k (pc + 3) L S σ) = some r := h
    obtain ⟨o, n1, n2, hp, h⟩ := x_os_inv h
    obtain ⟨Cn, n, d, hz, hlk⟩ := hsta _ _ _ _ _ hp
    exact va_gets hx hb hz hS hown hlk (fun _ z => z) hdec (hk _ _ _ _ h _ _ _ hP hS hl)
  | ireturn =>
    obtain rfl := of_decide_eq_true hop
    have h : x_ir rt S σ = some r := h
    obtain ⟨x, rfl, rfl, hrt⟩ := x_ir_inv h
    rcases hrt with rfl | ⟨rfl, hx01⟩
    · have hr : meth.sig.returnType = some .int := by
        rcases hret with ⟨q, -⟩ | ⟨-, q⟩ | ⟨q, -⟩
        · cases q
        · exact q
        · cases q
      exact W.iret hx hb hr (fun t ht hW => ⟨rfl, by rw [ht]; exact hP, hS.F ht⟩) hS.2.2 hdec hlocks
    · have hr : meth.sig.returnType = some .boolean := by
        rcases hret with ⟨q, -⟩ | ⟨q, -⟩ | ⟨-, q⟩
        · cases q
        · cases q
        · exact q
      have hn : narrow .boolean (.int x) = .int x := by rcases hx01 with rfl | rfl <;> rfl
      exact W.zret hx hb hr hn (fun t ht hW => ⟨rfl, by rw [ht]; exact hP, hS.F ht⟩) hS.2.2 hdec hlocks
  | return_ =>
    obtain rfl := of_decide_eq_true hop
    have h : x_vr rt S σ = some r := h
    obtain ⟨rfl, rfl, rfl⟩ := x_vr_inv h
    have hr : meth.sig.returnType = none := by
      rcases hret with ⟨-, q⟩ | ⟨q, -⟩ | ⟨q, -⟩
      · exact q
      · cases q
      · cases q
    exact W.vret hx hb hr (fun t ht hW => ⟨rfl, by rw [ht]; exact hP, hS.F ht⟩) hS.2.2 hdec hlocks
  | _ => exact absurd h (by simp [x_step])
end XG
end
section
/-! Blocks, runs, a method's contract out of a run -/
theorem x_at_mem : ∀ {code : List (Nat × xO)} {pc : Nat} {o : xO}, x_at code pc = some o → (pc, o) ∈ code
  | [], pc, o, h => by cases h
  | q :: r, pc, o, h => by
    unfold x_at at h
    split at h
    · rename_i hq
      cases h
      have e : q.1 = pc := Nat.eq_of_beq_eq_true hq
      exact List.mem_cons.mpr (Or.inl (by rw [← e]))
    · exact List.mem_cons_of_mem _ (x_at_mem h)
theorem x_nm_mem : ∀ {live : List Nat} {L : xL} {q : Nat × Value}, q ∈ x_nm L live → q ∈ L
  | [], L, q, h => by cases h
  | i :: r, L, q, h => by
    unfold x_nm at h
    split at h
    · rename_i v hv
      rcases List.mem_cons.mp h with rfl | h
      · exact x_lk_mem hv
      · exact x_nm_mem h
    · exact x_nm_mem h
theorem x_blk_ok {cc : ByteArray} {sh : List xH} {ca : Nat → Option (List Int32)} {pool : Nat → Option xE} {nL rt : Nat} {code : List (Nat × xO)} {cuts : List (Nat × List Nat)} {C : xC} {k0 : xK} {r : xR} {G : Nat → xL → List Value → xS → Prop}
    (hstep : ∀ (k : xK) (o : xO) (pc : Nat) (L : xL) (S : List Value) (σ : xS), (∀ pc L S σ, k pc L S σ = some r → G pc L S σ) → decode cc pc = .ok (o.2.1, o.1) → x_ok pc o = true → x_step sh ca pool nL rt C k o pc L S σ = some r → G pc L S σ)
    (hcode : ∀ q ∈ code, decode cc q.1 = .ok (q.2.2.1, q.2.1) ∧ x_ok q.1 q.2 = true) (hG : ∀ (pc : Nat) (L L' : xL) (S : List Value) (σ : xS), (∀ q ∈ L', q ∈ L) → G pc L' S σ → G pc L S σ) (hk0 : ∀ pc L S σ, k0 pc L S σ = some r → G pc L S σ) :
    ∀ (n pc : Nat) (L : xL) (S : List Value) (σ : xS), x_blk sh ca pool nL rt code cuts C k0 n pc L S σ = some r → G pc L S σ := by
  intro n
  induction n with
  | zero => intro pc L S σ h; cases h
  | succ n ih =>
    intro pc L S σ h
    change (match x_at code pc with
      | none => none
      | some o => x_step sh ca pool nL rt C (fun pc L S σ => match x_in cuts pc with
        | some live => k0 pc (x_nm L live) S σ
        | none => x_blk sh ca pool nL rt code cuts C k0 n pc L S σ) o pc L S σ) = some r at h
    split at h
    · cases h
    · rename_i o ho
      obtain ⟨h1, h2⟩ := hcode _ (x_at_mem ho)
      refine hstep _ o pc L S σ (fun pc L S σ h => ?_) h1 h2 h
      split at h
      · exact hG _ _ _ _ _ (fun q hq => x_nm_mem hq) (hk0 _ _ _ _ h)
      · exact ih _ _ _ _ h
theorem x_run_ok {B : xK → xK} {r : xR} {G : Nat → xL → List Value → xS → Prop} (hB : ∀ k0 : xK, (∀ pc L S σ, k0 pc L S σ = some r → G pc L S σ) → ∀ pc L S σ, B k0 pc L S σ = some r → G pc L S σ) :
    ∀ (n pc : Nat) (L : xL) (S : List Value) (σ : xS), x_run B n pc L S σ = some r → G pc L S σ := by
  intro n
  induction n with
  | zero => intro pc L S σ h; cases h
  | succ n ih => intro pc L S σ h; exact hB (x_run B n) ih pc L S σ h
theorem x_args_map (ad : Nat → Nat) : ∀ (as : List Value) (i : Nat), lv_args i (as.map (x_tv ad)) = (lv_args i as).map fun q => (q.1, x_tv ad q.2)
  | [], i => rfl
  | a :: as, i => by
    simp only [List.map_cons, lv_args, x_tv_cat, x_args_map ad as]
theorem x_sl_len (ad : Nat → Nat) : ∀ {n : Nat} {as : List Value}, x_rm n as = true → (lg_sl (as.map (x_tv ad))).length ≤ n
  | n, [], _ => by simp [lg_sl]
  | 0, v :: r, h => by cases v <;> simp [x_rm] at h
  | n + 1, v :: r, h => by
    cases v with
    | int x =>
      have := x_sl_len ad (n := n) (as := r) h
      have e : lg_sl ((Value.int x :: r).map (x_tv ad)) = Slot.val (x_tv ad (.int x)) :: lg_sl (r.map (x_tv ad)) := rfl
      rw [e, List.length_cons]
      omega
    | ref x =>
      have := x_sl_len ad (n := n) (as := r) h
      have e : lg_sl ((Value.ref x :: r).map (x_tv ad)) = Slot.val (x_tv ad (.ref x)) :: lg_sl (r.map (x_tv ad)) := rfl
      rw [e, List.length_cons]
      omega
    | _ => simp [x_rm] at h
def x_Pc (D : va_G) (cl : List vw_C) (tys : List (ClassId × FieldType)) (ad : Nat → Nat) (cI cZ : ClassId) (sh : List xH) (NW : State → Prop) (as : List Value) (σ : xS) : Array Value → State → Prop :=
  va_Pc (as.map (x_tv ad)) (fun U => va_P D cl (x_w ad cI cZ sh σ) U.heap ∧ va_K D cl tys U ∧ NW U)
/-- what the constants' words ride on -/
def x_Mv (A : Nat → Prop) (NW : State → Prop) : Prop := ∀ s U : State, NW s → s.WarmedH U.vm → (∀ q : Nat, q < s.heap.size → ¬ A q → U.heap[q]? = s.heap[q]?) → NW U
section XV
variable {p : Program} {l : Launch} {e : Env} {R : Room} {s : State} {m : MethodId} {args : Array Value} {below : List Frame} {meth : Method} {c : Code} {H : Heap} {locs : List Loc}
variable {D : va_G} {cl : List vw_C} {tys : List (ClassId × FieldType)} {A : Nat → Prop} {ad : Nat → Nat} {cI cZ : ClassId} {sh : List xH} {cc bytes : ByteArray} {nL maxL na ci q pc o : Nat} {NW : State → Prop} {Ts ws : List Cond} {own C : String} {T : u_T} {N : Nat} {y : MethodName} {ret : Option FieldType} {rm : Room} {as rest : List Value} {σ : xS} {v : Bool} {r1 : xR} {ls : Array Slot} {fs : List (Option Nat)}
theorem x_Pc_blind (hMv : x_Mv A NW) : FrameBlind (x_Pc D cl tys ad cI cZ sh NW as σ) := fun a U g mk h =>
  ⟨h.1, h.2.1, va_K.moved (u := U) (U := U.calling g mk a) (Vm.Alike.refl U.vm) h.2.2.1, hMv U (U.calling g mk a) h.2.2.2 (State.WarmedH.refl U) (fun _ _ _ => rfl)⟩
theorem x_virt (hMv : x_Mv A NW) (S : CallFix p m c cc nL s args Ts own) (hM : Met l y ws rm (x_Pc D cl tys ad cI cZ sh NW (.ref o :: as) σ) (x_Qc D cl A ad cI cZ sh v r1) 0 0 A)
    (cw : CallW R s args own C q y bytes maxL ret ws rm 0 0 na ∨ ∃ host, va_CN R s args own q y host bytes maxL ret ws rm 0 0 na ∧ (Cond.instanceMethod y).before args s = true ∧ (Cond.selects C y y).before args s = true)
    (hc : cl[ci]? = some (C, T, N)) (hs : sh[o]? = some (.inl (ci, fs))) (hP : va_P D cl (x_w ad cI cZ sh σ) H) (hK : va_K D cl tys s) (hS : va_S A s.heap H locs) (hN : NW s) (hn : as.length = na) (hls : ls.size = nL) (hr : x_rm 8 rest = true) (hdg : decode cc pc = .ok (.invokevirtual q, 3)) :
    ∃ a, va_Run p l e R s m args below meth c H locs 0 0 0 0 (F0 m pc ls ((as.map (x_tv ad)).reverse ++ .ref (ad o) :: rest.map (x_tv ad))) (rest.map (x_tv ad)) (x_Qc D cl A ad cI cZ sh v r1 a) A := by
  have hpre : PreV s H C (ad o) (x_Pc D cl tys ad cI cZ sh NW (.ref o :: as) σ) (as.map (x_tv ad)) :=
    ⟨x_Pc_blind hMv, va_recv hK hP hc (x_w_at hs), fun U hU hW => ⟨rfl, by rw [hU]; exact hP, va_K.moved hW.alike hK, hMv s U hN hW (fun z h1 h2 => by rw [hU]; exact hS.2.1 z h1 h2)⟩⟩
  rcases cw with cw | ⟨host, cw⟩
  · exact ⟨_, va_runV (As := as.map (x_tv ad)) (rest := rest.map (x_tv ad)) (b := ad o) S hM cw hpre rfl (by rw [List.length_map]; exact hn) hls rfl (lv_room (x_rm_sum ad hr)) hdg ⟨Nat.zero_le _, Nat.zero_le _⟩⟩
  · exact ⟨_, va_runVN (As := as.map (x_tv ad)) (rest := rest.map (x_tv ad)) (b := ad o) S hM cw hpre rfl (by rw [List.length_map]; exact hn) hls rfl (lv_room (x_rm_sum ad hr)) hdg ⟨Nat.zero_le _, Nat.zero_le _⟩⟩
theorem x_stat (hMv : x_Mv A NW) (S : CallFix p m c cc nL s args Ts own) (hM : Met l y ws rm (x_Pc D cl tys ad cI cZ sh NW as σ) (x_Qc D cl A ad cI cZ sh v r1) 0 0 A)
    (cw : (CallB R s args own q y bytes maxL ret ws rm 0 0 na ∧ (Cond.static y).before args s = true) ∨ ∃ host, va_CN R s args own q y host bytes maxL ret ws rm 0 0 na ∧ (Cond.static y).before args s = true)
    (hP : va_P D cl (x_w ad cI cZ sh σ) H) (hK : va_K D cl tys s) (hS : va_S A s.heap H locs) (hN : NW s) (hn : as.length = na) (hls : ls.size = nL) (hr : x_rm 8 rest = true) (hdg : decode cc pc = .ok (.invokestatic q, 3)) :
    ∃ a, va_Run p l e R s m args below meth c H locs 0 0 0 0 (F0 m pc ls ((as.map (x_tv ad)).reverse ++ rest.map (x_tv ad))) (rest.map (x_tv ad)) (x_Qc D cl A ad cI cZ sh v r1 a) A := by
  have hpre : PreS s H (x_Pc D cl tys ad cI cZ sh NW as σ) (as.map (x_tv ad)) :=
    ⟨x_Pc_blind hMv, fun U hU hW => ⟨rfl, by rw [hU]; exact hP, va_K.moved hW.alike hK, hMv s U hN hW (fun z h1 h2 => by rw [hU]; exact hS.2.1 z h1 h2)⟩⟩
  rcases cw with cw | ⟨host, cw1, cw2⟩
  · exact ⟨_, va_runS (As := as.map (x_tv ad)) (rest := rest.map (x_tv ad)) S hM cw hpre rfl (by rw [List.length_map]; exact hn) hls rfl (lv_room (x_rm_sum ad hr)) hdg ⟨Nat.zero_le _, Nat.zero_le _⟩⟩
  · exact ⟨_, va_runSN (As := as.map (x_tv ad)) (rest := rest.map (x_tv ad)) S hM ⟨cw1, cw2, trivial⟩ hpre rfl (by rw [List.length_map]; exact hn) hls rfl (lv_room (x_rm_sum ad hr)) hdg ⟨Nat.zero_le _, Nat.zero_le _⟩⟩
end XV
/-- what the words say of a pool's places, for the methods' tables y, b, l, r, w, v -/
def x_PO (cl : List vw_C) (A : Nat → Prop) (ad : Nat → Nat) (ca : Nat → Option (List Int32)) (pool : Nat → Option xE) (ws : List Cond) (own : String) (yj : Nat → MethodName) (bj : Nat → ByteArray) (lj : Nat → Nat) (rj : Nat → Option FieldType) (wj : Nat → List Cond) (vj : Nat → Bool) (mj : Nat → Room) (rm : Room) (s : State) (args : Array Value) : Prop :=
  (∀ q ci f n b, pool q = some (0, ci, f, n, b) → x_FO cl ws s args own q ci f b) ∧ (∀ q o n1 n2 b, pool q = some (3, o, n1, n2, b) → x_SO A ad s args own q o b) ∧ (∀ q o n1 n2 b, pool q = some (4, o, n1, n2, b) → (Jvm.Cond.constant own q (Int32.ofNat o)).before args s = true) ∧
  (∀ o q, ca o = some q → va_T .int (ad o) q.length (fun j => .int (q.getD j 0)) A s s.heap) ∧
  (∀ q j na ci v, pool q = some (1, j, na, ci, v) → v = vj j ∧ ∃ (C : String) (T : u_T) (N : Nat), cl[ci]? = some (C, T, N) ∧ (CallW rm s args own C q (yj j) (bj j) (lj j) (rj j) (wj j) (mj j) 0 0 na ∨ ∃ host, va_CN rm s args own q (yj j) host (bj j) (lj j) (rj j) (wj j) (mj j) 0 0 na ∧ (Cond.instanceMethod (yj j)).before args s = true ∧ (Cond.selects C (yj j) (yj j)).before args s = true)) ∧
  (∀ q j na ci v, pool q = some (2, j, na, ci, v) → v = vj j ∧ ((CallB rm s args own q (yj j) (bj j) (lj j) (rj j) (wj j) (mj j) 0 0 na ∧ (Cond.static (yj j)).before args s = true) ∨ ∃ host, va_CN rm s args own q (yj j) host (bj j) (lj j) (rj j) (wj j) (mj j) 0 0 na ∧ (Cond.static (yj j)).before args s = true))
theorem x_met {l : Launch} {D : va_G} {cl : List vw_C} {tys : List (ClassId × FieldType)} {A : Nat → Prop} {ad : Nat → Nat} {cI cZ : ClassId} {sh : List xH} {NW : State → Prop} {ca : Nat → Option (List Int32)} {y : MethodName} {ws ws' : List Cond} {rm : Room} {cc : ByteArray} {nL rt : Nat} {ret : Option FieldType} {pool : Nat → Option xE} {code : List (Nat × xO)} {cuts : List (Nat × List Nat)} {C : xC} {n0 n1 : Nat} {as : List Value} {σ : xS} {r : xR}
    {yj : Nat → MethodName} {bj : Nat → ByteArray} {lj : Nat → Nat} {rj : Nat → Option FieldType} {wj : Nat → List Cond} {vj : Nat → Bool} {mj : Nat → Room}
    (hy : plainName y.cls = true) (hw : ws = Cond.code y cc nL ret :: ws') (hret : x_rt rt ret) (hcode : ∀ q ∈ code, decode cc q.1 = .ok (q.2.2.1, q.2.1) ∧ x_ok q.1 q.2 = true) (hMv : x_Mv A NW) (hD : ∀ σ : xS, va_D A (x_w ad cI cZ sh σ)) {t1 t2 : Nat} (ht1 : tys[t1]? = some (cI, .int)) (ht2 : tys[t2]? = some (cZ, .boolean))
    (hpool : ∀ (s : State) (args : Array Value), (∀ w ∈ ws, w.before args s = true) → NW s → x_PO cl A ad ca pool ws y.cls yj bj lj rj wj vj mj rm s args)
    (hM : ∀ (j : Nat) (as : List Value) (σ : xS) (r1 : xR), C j as σ = some r1 → Met l (yj j) (wj j) (mj j) (x_Pc D cl tys ad cI cZ sh NW as σ) (x_Qc D cl A ad cI cZ sh (vj j) r1) 0 0 A)
    (hrm : x_rm nL as = true) (h : x_run (fun k0 => x_blk sh ca pool nL rt code cuts C k0 n0) n1 0 (lv_args 0 as) [] σ = some r) :
    Met l y ws rm (x_Pc D cl tys ad cI cZ sh NW as σ) (x_Qc D cl A ad cI cZ sh (rt == 0) r) 0 0 A := by
  refine Met.ofW (cc := cc) (maxL := nL) (ret := ret) hy hw ?_
  intro p e s m args below meth c s₁ B hml hv
  obtain ⟨rfl, hP, hK, hN⟩ := hv
  have hx := B.exec
  have hb := B.bytes
  have hr := B.returns
  have hts := atoms_spec (ws := ws) B.pre
  have hown : s.vm.findClass y.cls = some m.cls := findClass_of_methodNamed B.named
  have hlocks := B.notSynchronized
  obtain ⟨p1, p2, p3, p4, p5, p6⟩ := hpool s _ hts hN
  have hl := lv_entry (as.map (x_tv ad)) (n := nL) (x_sl_len ad hrm)
  rw [lg_entry_eq]
  rw [x_args_map] at hl
  refine x_run_ok (G := x_G p l e (headSpec ws rm).room s m _ below meth c (MQ below (x_Qc D cl A ad cI cZ sh (rt == 0) r) _ s 0 0 A) D cl A ad cI cZ sh nL) ?_ n1 0 (lv_args 0 as) [] σ h s.heap [] _ hP va_S.rf hl
  intro k0 hk0
  refine x_blk_ok (cc := cc) ?_ hcode ?_ hk0 n0
  · intro k o pc L S σ hk hdec hop hst
    refine x_step_ok (Ts := ws) (own := y.cls) hx hb hlocks hown hts hK hD ht1 ht2 (by rw [hr]; exact hret) p1 p2 p3 p4 ?_ ?_ hk hdec hop hst
    · intro q j na ci v hp as rest o fs σ r1 H locs ls pc g1 g2 g3 g4 g5 g6 g7 g8
      obtain ⟨rfl, Cn, T, N, f1, f2⟩ := p5 q j na ci v hp
      exact x_virt hMv ⟨hx, hb, hml, hown, hts⟩ (hM _ _ _ _ g4) f2 f1 g2 g5 hK g6 hN g1 g7 g3 g8
    · intro q j na ci v hp as rest σ r1 H locs ls pc g1 g3 g4 g5 g6 g7 g8
      obtain ⟨rfl, f2⟩ := p6 q j na ci v hp
      exact x_stat hMv ⟨hx, hb, hml, hown, hts⟩ (hM _ _ _ _ g4) f2 g5 hK g6 hN g1 g7 g3 g8
  · intro pc L L' S σ hsub hg H locs ls hP hS hl
    refine hg H locs ls hP hS ⟨hl.1, hl.2.1, fun q hq => ?_⟩
    obtain ⟨z, hz, rfl⟩ := List.mem_map.mp hq
    exact hl.2.2 _ (List.mem_map.mpr ⟨z, hsub z hz, rfl⟩)
end
