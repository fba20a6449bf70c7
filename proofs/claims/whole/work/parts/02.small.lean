/-! The small machine: a store of numbers (object, place) over objects whose shape stays; a step an instruction; blocks between cuts; runs; methods by their depth. -/
abbrev xS : Type := Nat → Nat → Int32
abbrev xL : Type := List (Nat × Value)
abbrev xR : Type := Int32 × xS
abbrev xH : Type := (Nat × List (Option Nat)) ⊕ (Bool × Nat)
abbrev xO : Type := Nat × Instr × Int32 × Nat × List (Int32 × Nat)
abbrev xE : Type := Nat × Nat × Nat × Nat × Bool
abbrev xK : Type := Nat → xL → List Value → xS → Option xR
abbrev xC : Type := Nat → List Value → xS → Option xR
def x_up (σ : xS) (o k : Nat) (v : Int32) : xS := fun a => if a = o then upd (σ a) k v else σ a
def x_lk : xL → Nat → Option Value
  | [], _ => none
  | q :: L, i => if q.1 = i then some q.2 else x_lk L i
def x_st (L : xL) (i : Nat) (v : Value) : xL := (i, v) :: L.filter (fun q => !(q.1 == i) && !(q.1 + 1 == i && q.2.category == 2))
def x_rm : Nat → List Value → Bool
  | _, [] => true
  | n + 1, .int _ :: r => x_rm n r
  | n + 1, .ref _ :: r => x_rm n r
  | _, _ => false
def x_bin (f : Int32 → Int32 → Int32) (S : List Value) (kk : List Value → Option xR) : Option xR := match S with
  | .int y :: .int x :: S => kk (.int (f x y) :: S)
  | _ => none
def x_div (f : Int32 → Int32 → Int32) (S : List Value) (kk : List Value → Option xR) : Option xR := match S with
  | .int y :: .int x :: S => if y = 0 then none else kk (.int (f x y) :: S)
  | _ => none
def x_ldi (L : xL) (t : Nat) (kk : Int32 → Option xR) : Option xR := match x_lk L t with
  | some (.int x) => kk x
  | _ => none
def x_lda (L : xL) (t : Nat) (kk : Nat → Option xR) : Option xR := match x_lk L t with
  | some (.ref x) => kk x
  | _ => none
def x_top (S : List Value) (kk : Int32 → List Value → Option xR) : Option xR := match S with
  | .int x :: S => kk x S
  | _ => none
def x_two (S : List Value) (kk : Int32 → Int32 → List Value → Option xR) : Option xR := match S with
  | .int y :: .int x :: S => kk x y S
  | _ => none
def x_lt (t nL : Nat) (kk : Option xR) : Option xR := match Nat.blt t nL with
  | true => kk
  | false => none
def x_c1 : Value → Bool
  | .int _ => true
  | .ref _ => true
  | _ => false
def x_d1 (S : List Value) (kk : Value → List Value → Option xR) : Option xR := match S with
  | a :: S => (match x_c1 a with
    | true => kk a S
    | false => none)
  | _ => none
def x_d2 (S : List Value) (kk : Value → Value → List Value → Option xR) : Option xR := x_d1 S fun a S => x_d1 S fun b S => kk a b S
def x_br (c : ClassFile.Cond) (x y : Int32) (a b : Option xR) : Option xR := match c with
  | .eq => if x = y then a else b
  | .ne => if x = y then b else a
  | .lt => if x < y then a else b
  | .ge => if y ≤ x then a else b
  | .gt => if y < x then a else b
  | .le => if x ≤ y then a else b
def x_sw (x : Int32) (k : Nat → Option xR) (d : Nat) : List (Int32 × Nat) → Option xR
  | [] => k d
  | q :: r => if x = q.1 then k q.2 else x_sw x k d r
def x_gf (sh : List xH) (e : Option xE) (S : List Value) (σ : xS) (kk : List Value → Option xR) : Option xR := match e, S with
  | some (0, ci, f, _, _), .ref o :: S => (match sh[o]? with
    | some (.inl (cj, fs)) => (match Nat.beq cj ci with
      | true => (match fs[f]? with
        | some none => kk (.int (σ o f) :: S)
        | some (some a) => kk (.ref a :: S)
        | none => none)
      | false => none)
    | _ => none)
  | _, _ => none
def x_pf (sh : List xH) (e : Option xE) (S : List Value) (σ : xS) (kk : List Value → xS → Option xR) : Option xR := match e, S with
  | some (0, ci, f, _, true), .int x :: .ref o :: S => (match sh[o]? with
    | some (.inl (cj, fs)) => (match Nat.beq cj ci with
      | true => (match fs[f]? with
        | some none => kk S (x_up σ o f x)
        | _ => none)
      | false => none)
    | _ => none)
  | _, _ => none
def x_bq : Bool → Bool → Bool
  | true, true => true
  | false, false => true
  | _, _ => false
def x_al (sh : List xH) (ca : Nat → Option (List Int32)) (b : Bool) (S : List Value) (σ : xS) (kk : List Value → Option xR) : Option xR := match S with
  | .int i :: .ref o :: S => (match sh[o]? with
    | some (.inr (b2, n)) => (match x_bq b b2 with
      | true => if i < 0 ∨ n ≤ i.toNatClampNeg then none else kk (.int (σ o i.toNatClampNeg) :: S)
      | false => none)
    | some _ => none
    | none => (match b, ca o with
      | false, some q => if i < 0 ∨ q.length ≤ i.toNatClampNeg then none else kk (.int (q.getD i.toNatClampNeg 0) :: S)
      | _, _ => none))
  | _ => none
def x_nb (b : Bool) (x : Int32) : Int32 := match b with
  | true => vp_nar .boolean x
  | false => x
def x_rs (v : Bool) (x : Int32) (rest : List Value) : List Value := match v with
  | true => rest
  | false => .int x :: rest
def x_as (sh : List xH) (b : Bool) (S : List Value) (σ : xS) (kk : List Value → xS → Option xR) : Option xR := match S with
  | .int x :: .int i :: .ref o :: S => (match sh[o]? with
    | some (.inr (b2, n)) => (match x_bq b b2 with
      | true => if i < 0 ∨ n ≤ i.toNatClampNeg then none else kk S (x_up σ o i.toNatClampNeg (x_nb b x))
      | false => none)
    | _ => none)
  | _ => none
def x_go (C : xC) (j : Nat) (v : Bool) (as rest : List Value) (σ : xS) (kk : List Value → xS → Option xR) : Option xR :=
  (C j as σ).bind fun r => kk (x_rs v r.1 rest) r.2
def x_iv (sh : List xH) (C : xC) (e : Option xE) (S : List Value) (σ : xS) (kk : List Value → xS → Option xR) : Option xR := match e with
  | some (1, j, na, ci, v) => (match S.drop na with
    | .ref o :: rest => (match sh[o]? with
      | some (.inl (cj, _)) => (match Nat.beq cj ci && x_rm 8 rest with
        | true => x_go C j v (.ref o :: (S.take na).reverse) rest σ kk
        | false => none)
      | _ => none)
    | _ => none)
  | _ => none
def x_is (C : xC) (e : Option xE) (S : List Value) (σ : xS) (kk : List Value → xS → Option xR) : Option xR := match e with
  | some (2, j, na, _, v) => (match Nat.ble na S.length && x_rm 8 (S.drop na) with
    | true => x_go C j v (S.take na).reverse (S.drop na) σ kk
    | false => none)
  | _ => none
def x_ir (rt : Nat) (S : List Value) (σ : xS) : Option xR := match S with
  | [.int x] => (match rt with
    | 1 => some (x, σ)
    | 2 => if x = 0 ∨ x = 1 then some (x, σ) else none
    | _ => none)
  | _ => none
def x_vr (rt : Nat) (S : List Value) (σ : xS) : Option xR := match S, rt with
  | [], 0 => some (0, σ)
  | _, _ => none
def x_oc (e : Option xE) (S : List Value) (kk : List Value → Option xR) : Option xR := match e with
  | some (3, o, _, _, false) => kk (.ref o :: S)
  | some (4, n, _, _, _) => kk (.int (Int32.ofNat n) :: S)
  | _ => none
def x_ow (e : Option xE) (S : List Value) (kk : List Value → Option xR) : Option xR := match e with
  | some (4, n, _, _, _) => kk (.int (Int32.ofNat n) :: S)
  | _ => none
def x_os (e : Option xE) (S : List Value) (kk : List Value → Option xR) : Option xR := match e with
  | some (3, o, _, _, true) => kk (.ref o :: S)
  | _ => none
def x_step (sh : List xH) (ca : Nat → Option (List Int32)) (pool : Nat → Option xE) (nL rt : Nat) (C : xC) (k : xK) (o : xO) (pc : Nat) (L : xL) (S : List Value) (σ : xS) : Option xR := match o.2.1 with
  | .iconst _ => k (pc + o.1) L (.int o.2.2.1 :: S) σ
  | .bipush _ => k (pc + o.1) L (.int o.2.2.1 :: S) σ
  | .sipush _ => k (pc + o.1) L (.int o.2.2.1 :: S) σ
  | .iload_n _ => x_ldi L o.2.2.2.1 fun x => k (pc + o.1) L (.int x :: S) σ
  | .iload _ => x_ldi L o.2.2.2.1 fun x => k (pc + o.1) L (.int x :: S) σ
  | .aload_n _ => x_lda L o.2.2.2.1 fun x => k (pc + o.1) L (.ref x :: S) σ
  | .aload _ => x_lda L o.2.2.2.1 fun x => k (pc + o.1) L (.ref x :: S) σ
  | .istore_n _ => x_top S fun x S => x_lt o.2.2.2.1 nL (k (pc + o.1) (x_st L o.2.2.2.1 (.int x)) S σ)
  | .istore _ => x_top S fun x S => x_lt o.2.2.2.1 nL (k (pc + o.1) (x_st L o.2.2.2.1 (.int x)) S σ)
  | .iinc _ _ => x_ldi L o.2.2.2.1 fun x => x_lt o.2.2.2.1 nL (k (pc + o.1) (x_st L o.2.2.2.1 (.int (x + o.2.2.1))) S σ)
  | .iadd => x_bin (fun x y => x + y) S fun S => k (pc + o.1) L S σ
  | .isub => x_bin (fun x y => x - y) S fun S => k (pc + o.1) L S σ
  | .imul => x_bin (fun x y => x * y) S fun S => k (pc + o.1) L S σ
  | .iand => x_bin (fun x y => x &&& y) S fun S => k (pc + o.1) L S σ
  | .ior => x_bin (fun x y => x ||| y) S fun S => k (pc + o.1) L S σ
  | .ixor => x_bin (fun x y => x ^^^ y) S fun S => k (pc + o.1) L S σ
  | .ishl => x_bin (fun x y => x <<< (y &&& 31)) S fun S => k (pc + o.1) L S σ
  | .ishr => x_bin (fun x y => x >>> (y &&& 31)) S fun S => k (pc + o.1) L S σ
  | .iushr => x_bin (fun x y => (x.toUInt32 >>> (y.toUInt32 &&& Int32.toUInt32 31)).toInt32) S fun S => k (pc + o.1) L S σ
  | .idiv => x_div (fun x y => x / y) S fun S => k (pc + o.1) L S σ
  | .irem => x_div (fun x y => x - x / y * y) S fun S => k (pc + o.1) L S σ
  | .dup => x_d1 S fun a S => k (pc + o.1) L (a :: a :: S) σ
  | .pop => x_d1 S fun _ S => k (pc + o.1) L S σ
  | .dup_x1 => x_d2 S fun a b S => k (pc + o.1) L (a :: b :: a :: S) σ
  | .dup2 => x_d2 S fun a b S => k (pc + o.1) L (a :: b :: a :: b :: S) σ
  | .ifCond c _ => x_top S fun x S => x_br c x 0 (k o.2.2.2.1 L S σ) (k (pc + o.1) L S σ)
  | .if_icmp c _ => x_two S fun x y S => x_br c x y (k o.2.2.2.1 L S σ) (k (pc + o.1) L S σ)
  | .goto _ => k o.2.2.2.1 L S σ
  | .tableswitch _ _ _ _ => x_top S fun x S => x_sw x (fun t => k t L S σ) o.2.2.2.1 o.2.2.2.2
  | .lookupswitch _ _ => x_top S fun x S => x_sw x (fun t => k t L S σ) o.2.2.2.1 o.2.2.2.2
  | .getfield q => x_gf sh (pool q) S σ fun S => k (pc + o.1) L S σ
  | .putfield q => x_pf sh (pool q) S σ fun S σ => k (pc + o.1) L S σ
  | .iaload => x_al sh ca false S σ fun S => k (pc + o.1) L S σ
  | .baload => x_al sh ca true S σ fun S => k (pc + o.1) L S σ
  | .iastore => x_as sh false S σ fun S σ => k (pc + o.1) L S σ
  | .bastore => x_as sh true S σ fun S σ => k (pc + o.1) L S σ
  | .invokevirtual q => x_iv sh C (pool q) S σ fun S σ => k (pc + o.1) L S σ
  | .invokestatic q => x_is C (pool q) S σ fun S σ => k (pc + o.1) L S σ
  | .ldc q => x_oc (pool q) S fun S => k (pc + o.1) L S σ
  | .ldc_w q => x_ow (pool q) S fun S => k (pc + o.1) L S σ
  | .getstatic q => x_os (pool q) S fun S => k (pc + o.1) L S σ
  | .ireturn => x_ir rt S σ
  | .return_ => x_vr rt S σ
  | _ => none
def x_at (code : List (Nat × xO)) (pc : Nat) : Option xO := match code with
  | [] => none
  | q :: r => (match Nat.beq q.1 pc with
    | true => some q.2
    | false => x_at r pc)
def x_in (cuts : List (Nat × List Nat)) (pc : Nat) : Option (List Nat) := match cuts with
  | [] => none
  | q :: r => (match Nat.beq q.1 pc with
    | true => some q.2
    | false => x_in r pc)
/-- the locals that live on, in their order -/
def x_nm (L : xL) : List Nat → xL
  | [] => []
  | i :: r => (match x_lk L i with
    | some v => (i, v) :: x_nm L r
    | none => x_nm L r)
/-- from a cut to the next ones -/
noncomputable def x_blk (sh : List xH) (ca : Nat → Option (List Int32)) (pool : Nat → Option xE) (nL rt : Nat) (code : List (Nat × xO)) (cuts : List (Nat × List Nat)) (C : xC) (k0 : xK) (n : Nat) : xK :=
  Nat.rec (motive := fun _ => xK) (fun _ _ _ _ => none) (fun _ ih pc L S σ => match x_at code pc with
    | none => none
    | some o => x_step sh ca pool nL rt C (fun pc L S σ => match x_in cuts pc with
      | some live => k0 pc (x_nm L live) S σ
      | none => ih pc L S σ) o pc L S σ) n
noncomputable def x_run (B : xK → xK) (n : Nat) : xK := Nat.rec (motive := fun _ => xK) (fun _ _ _ _ => none) (fun _ ih => B ih) n
theorem x_run_succ (B : xK → xK) (n : Nat) : x_run B (n + 1) = B (x_run B n) := rfl
