/-! The methods by their depth; every table checked; contracts of all of them -/
def x_tx (o : Nat) : Option (Int32 × Int32 × Int32 × Int32) := match o with
  | 1000 => some (76, 73, 83, 84)
  | 1001 => some (83, 72, 79, 87)
  | 1002 => some (68, 82, 79, 80)
  | 1003 => some (67, 65, 76, 76)
  | 1004 => some (83, 65, 86, 69)
  | _ => none
/-- is the first word this text of four letters? -/
def x_fw (as : List Value) (σ : xS) : Option xR := match as with
  | [.ref 14, .ref o] => (match x_tx o with
    | some t => if σ 17 0 - σ 16 0 = 4 then (if σ 16 0 < 0 ∨ 16 < σ 16 0 then none else some (if σ 15 (σ 16 0).toNatClampNeg = t.1 ∧ σ 15 ((σ 16 0).toNatClampNeg + 1) = t.2.1 ∧ σ 15 ((σ 16 0).toNatClampNeg + 2) = t.2.2.1 ∧ σ 15 ((σ 16 0).toNatClampNeg + 3) = t.2.2.2 then 1 else 0, σ)) else some (0, σ)
    | none => none)
  | _ => none
noncomputable def x_M (d : Nat) : xC := Nat.rec (motive := fun _ => xC) (fun _ _ _ => none) (fun _ ih j as σ => match Nat.beq j x_jF with
  | true => x_fw as σ
  | false => (match x_tn x_tab j with
    | none => none
    | some i => (match x_rm i.2.2.1 as with
      | true => x_run (x_b i ih) 5000 0 (lv_args 0 as) [] σ
      | false => none))) d
def x_ws (i : xI) : List Cond := Cond.code i.1 i.2.1 i.2.2.1 i.2.2.2.1 :: lw_tbl.filter goodWord
def x_rmo (i : xI) : Room := { frames := i.2.2.2.2.2.2.2.2.1, cells := 0, slots := 0, locals := i.2.2.2.2.2.2.2.2.2 }
def x_g (j : Nat) : xI := (x_tn x_tab j).getD x_i0
def x_wd (w : Cond) : Bool := decide (w ∈ lw_tbl) && goodWord w
def x_txs : List (Nat × Nat × String) := [(67, 1000, "LIST"), (73, 1001, "SHOW"), (75, 1002, "DROP"), (77, 1003, "CALL"), (79, 1004, "SAVE")]
def x_sk (own : String) (q na : Nat) (v : Bool) (fr lo : Nat) (i : xI) : Bool := x_wd (.methodLink own q i.1) && (x_wd (.code i.1 i.2.1 i.2.2.1 i.2.2.2.1) && (decide (i.1.cls ≠ "java/lang/invoke/MethodHandle" ∧ i.1.cls ≠ "java/lang/invoke/VarHandle") && (decide ((parseMethodDescriptor i.1.desc).map (fun d => d.parameters.length) = some na) && (Nat.ble (i.2.2.2.2.2.2.2.2.1 + 1) fr && (Nat.ble (8 + (i.2.2.1 + 11) + i.2.2.2.2.2.2.2.2.2) lo && decide (v = (i.2.2.2.2.1 == 0)))))))
def x_pk (own : String) (fr lo : Nat) (q : Nat) (e : xE) : Bool := match e.1 with
  | 0 => (match x_cl[e.2.1]? with
    | some c => decide (e.2.2.1 < c.2.2) && (decide ((c.2.1 e.2.2.1).1 = c.1) && (x_wd (.fieldLink own q c.1 (c.2.1 e.2.2.1).2.1 (c.2.1 e.2.2.1).2.2.1) && (!e.2.2.2.2 || (decide ((c.2.1 e.2.2.1).2.2.2 = false) && decide (parseFieldDescriptor (c.2.1 e.2.2.1).2.2.1 = some .int)))))
    | none => false)
  | 1 => (match x_cl[e.2.2.2.1]?, x_tn x_tab e.2.1 with
    | some c, some i => decide (i.1.cls = c.1) && (x_sk own q e.2.2.1 e.2.2.2.2 fr lo i && (x_wd (.instanceMethod i.1) && (x_wd (.selects c.1 i.1 i.1) && x_wd (.initialized c.1))))
    | _, _ => false)
  | 2 => (match x_tn x_tab e.2.1 with
    | some i => x_sk own q e.2.2.1 e.2.2.2.2 fr lo i && (x_wd (.static i.1) && x_wd (.initialized i.1.cls))
    | none => false)
  | 3 => (match e.2.2.2.2 with
    | true => decide (e.2.1 = 900) && x_wd (.fieldLink own q "DeskMachine$Desk" "WORDS_NEEDED" "[I")
    | false => decide (own = "DeskMachine$Desk") && decide ((q, e.2.1) ∈ x_txs.map (fun z => (z.1, z.2.1))))
  | 4 => x_wd (.constant own q (Int32.ofNat e.2.1))
  | _ => false
def x_ck1 (i : xI) : Bool := i.2.2.2.2.2.2.1.all fun q => decide (decode i.2.1 q.1 = .ok (q.2.2.1, q.2.1)) && x_ok q.1 q.2
def x_ck2 (i : xI) : Bool := i.2.2.2.2.2.1.all fun q => x_pk i.1.cls i.2.2.2.2.2.2.2.2.1 i.2.2.2.2.2.2.2.2.2 q.1 q.2
def x_ck3 (i : xI) : Bool := plainName i.1.cls && decide ((i.2.2.2.2.1, i.2.2.2.1) ∈ ([(0, none), (1, some .int), (2, some .boolean)] : List (Nat × Option FieldType)))
