/-! The methods by their depth; words of their places; contracts of all of them -/
def x_tx (o : Nat) : Option (Int32 × Int32 × Int32 × Int32) := match o with
  | 1000 => some (76, 73, 83, 84)
  | 1001 => some (83, 72, 79, 87)
  | 1002 => some (68, 82, 79, 80)
  | 1003 => some (67, 65, 76, 76)
  | 1004 => some (83, 65, 86, 69)
  | _ => none
/-- is the first word this text of four letters? -/
def x_fw (as : List Value) (σ : xS) : Option xR := match as with
  | [.ref 14, .ref o] => (match x_tx o with
    | some t => if σ 17 0 - σ 16 0 = 4 then (if σ 16 0 < 0 ∨ 16 < σ 16 0 then none else some (if σ 15 (σ 16 0).toNatClampNeg = t.1 ∧ σ 15 ((σ 16 0).toNatClampNeg + 1) = t.2.1 ∧ σ 15 ((σ 16 0).toNatClampNeg + 2) = t.2.2.1 ∧ σ 15 ((σ 16 0).toNatClampNeg + 3) = t.2.2.2 then 1 else 0, σ)) else some (0, σ)
    | none => none)
  | _ => none
noncomputable def x_M (d : Nat) : xC := Nat.rec (motive := fun _ => xC) (fun _ _ _ => none) (fun _ ih j as σ => match Nat.beq j x_jF with
  | true => x_fw as σ
  | false => (match x_tn x_tab j with
    | none => none
    | some i => (match x_rm i.2.2.1 as with
      | true => x_run (x_b i ih) 5000 0 (lv_args 0 as) [] σ
      | false => none))) d
def x_tyn (c : Nat) : Nat → FieldType := match c with
  | 0 => tyX7
  | 1 => tyX4
  | 2 => tyX5
  | 3 => tyX1
  | 4 => tyX3
  | 5 => tyX6
  | 6 => tyX2
  | 7 => tyX0
  | _ => tyXM
/-- the words that a place of the pool needs -/
def x_el (own : String) (q : Nat) (e : xE) : List Cond := match e.1 with
  | 0 => (match x_cl[e.2.1]? with
    | some c => [.fieldLink own q c.1 (c.2.1 e.2.2.1).2.1 (c.2.1 e.2.2.1).2.2.1]
    | none => [])
  | 1 => (match x_cl[e.2.2.2.1]?, x_tn x_tab e.2.1 with
    | some c, some i => [.methodLink own q i.1, .code i.1 i.2.1 i.2.2.1 i.2.2.2.1, .instanceMethod i.1, .selects c.1 i.1 i.1, .initialized c.1]
    | _, _ => [])
  | 2 => (match x_tn x_tab e.2.1 with
    | some i => [.methodLink own q i.1, .code i.1 i.2.1 i.2.2.1 i.2.2.2.1, .static i.1, .initialized i.1.cls]
    | none => [])
  | 3 => (match e.2.2.2.2 with
    | true => [.fieldLink own q "DeskMachine$Desk" "WORDS_NEEDED" "[I"]
    | false => [])
  | 4 => [.constant own q (Int32.ofNat e.2.1)]
  | _ => []
def x_wl (i : xI) : List Cond := i.2.2.2.2.2.1.flatMap fun q => x_el i.1.cls q.1 q.2
def x_lays : List Cond := x_cl.flatMap fun c => u_ws c.1 c.2.1 c.2.2
def x_words : List Cond := x_lays ++ x_tab.flatMap x_wl
def x_ws (i : xI) : List Cond := Cond.code i.1 i.2.1 i.2.2.1 i.2.2.2.1 :: x_words
def x_rmo (i : xI) : Room := { frames := i.2.2.2.2.2.2.2.2.1, cells := 0, slots := 0, locals := i.2.2.2.2.2.2.2.2.2.1 }
def x_g (j : Nat) : xI := (x_tn x_tab j).getD x_i0
def x_txs : List (Nat × Nat) := [(67, 1000), (73, 1001), (75, 1002), (77, 1003), (79, 1004)]
def x_sk (na : Nat) (v : Bool) (fr lo : Nat) (i : xI) : Bool := Nat.beq na i.2.2.2.2.2.2.2.2.2.2.1 && (Nat.ble (i.2.2.2.2.2.2.2.2.1 + 1) fr && (Nat.ble (8 + (i.2.2.1 + 11) + i.2.2.2.2.2.2.2.2.2.1) lo && x_bq v (Nat.beq i.2.2.2.2.1 0)))
def x_dsk (i : xI) : Bool := Nat.beq i.2.2.2.2.2.2.2.2.2.2.2 7
def x_pk (dsk : Bool) (fr lo : Nat) (q : Nat) (e : xE) : Bool := match e.1 with
  | 0 => (match x_cl[e.2.1]? with
    | some c => Nat.blt e.2.2.1 c.2.2 && (x_bq e.2.2.2.2 false || (x_bq (c.2.1 e.2.2.1).2.2.2 false && decide (x_tyn e.2.1 e.2.2.1 = .int)))
    | none => false)
  | 1 => (match x_tn x_tab e.2.1 with
    | some i => Nat.blt e.2.2.2.1 9 && (Nat.beq i.2.2.2.2.2.2.2.2.2.2.2 e.2.2.2.1 && x_sk e.2.2.1 e.2.2.2.2 fr lo i)
    | none => false)
  | 2 => (match x_tn x_tab e.2.1 with
    | some i => x_sk e.2.2.1 e.2.2.2.2 fr lo i
    | none => false)
  | 3 => (match e.2.2.2.2 with
    | true => Nat.beq e.2.1 900
    | false => dsk && decide ((q, e.2.1) ∈ x_txs))
  | 4 => true
  | _ => false
def x_ck1 (i : xI) : Bool := i.2.2.2.2.2.2.1.all fun q => decide (decode i.2.1 q.1 = .ok (q.2.2.1, q.2.1)) && x_ok q.1 q.2
def x_ck2 (i : xI) : Bool := i.2.2.2.2.2.1.all fun q => x_pk (x_dsk i) i.2.2.2.2.2.2.2.2.1 i.2.2.2.2.2.2.2.2.2.1 q.1 q.2
def x_ck3 (i : xI) : Bool := plainName i.1.cls && decide ((i.2.2.2.2.1, i.2.2.2.1) ∈ ([(0, none), (1, some .int), (2, some .boolean)] : List (Nat × Option FieldType)))
def x_ck4 (i : xI) : Bool := decide (i.1.cls ≠ "java/lang/invoke/MethodHandle" ∧ i.1.cls ≠ "java/lang/invoke/VarHandle") && (decide ((parseMethodDescriptor i.1.desc).map (fun d => d.parameters.length) = some i.2.2.2.2.2.2.2.2.2.2.1) && (match x_cl[i.2.2.2.2.2.2.2.2.2.2.2]? with
  | some c => decide (i.1.cls = c.1)
  | none => true))
