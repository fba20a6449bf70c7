/-! Blocks, runs, a method's contract out of a run -/
theorem x_at_mem : ∀ {code : List (Nat × xO)} {pc : Nat} {o : xO}, x_at code pc = some o → (pc, o) ∈ code
  | [], pc, o, h => by cases h
  | q :: r, pc, o, h => by
    unfold x_at at h
    split at h
    · rename_i hq
      cases h
      have e : q.1 = pc := Nat.eq_of_beq_eq_true hq
      exact List.mem_cons.mpr (Or.inl (by rw [← e]))
    · exact List.mem_cons_of_mem _ (x_at_mem h)
theorem x_nm_mem : ∀ {live : List Nat} {L : xL} {q : Nat × Value}, q ∈ x_nm L live → q ∈ L
  | [], L, q, h => by cases h
  | i :: r, L, q, h => by
    unfold x_nm at h
    split at h
    · rename_i v hv
      rcases List.mem_cons.mp h with rfl | h
      · exact x_lk_mem hv
      · exact x_nm_mem h
    · exact x_nm_mem h
theorem x_blk_ok {cc : ByteArray} {sh : List xH} {ca : Nat → Option (List Int32)} {pool : Nat → Option xE} {nL rt : Nat} {code : List (Nat × xO)} {cuts : List (Nat × List Nat)} {C : xC} {k0 : xK} {r : xR} {G : Nat → xL → List Value → xS → Prop}
    (hstep : ∀ (k : xK) (o : xO) (pc : Nat) (L : xL) (S : List Value) (σ : xS), (∀ pc L S σ, k pc L S σ = some r → G pc L S σ) → decode cc pc = .ok (o.2.1, o.1) → x_ok pc o = true → x_step sh ca pool nL rt C k o pc L S σ = some r → G pc L S σ)
    (hcode : ∀ q ∈ code, decode cc q.1 = .ok (q.2.2.1, q.2.1) ∧ x_ok q.1 q.2 = true) (hG : ∀ (pc : Nat) (L L' : xL) (S : List Value) (σ : xS), (∀ q ∈ L', q ∈ L) → G pc L' S σ → G pc L S σ) (hk0 : ∀ pc L S σ, k0 pc L S σ = some r → G pc L S σ) :
    ∀ (n pc : Nat) (L : xL) (S : List Value) (σ : xS), x_blk sh ca pool nL rt code cuts C k0 n pc L S σ = some r → G pc L S σ := by
  intro n
  induction n with
  | zero => intro pc L S σ h; cases h
  | succ n ih =>
    intro pc L S σ h
    change (match x_at code pc with
      | none => none
      | some o => x_step sh ca pool nL rt C (fun pc L S σ => match x_in cuts pc with
        | some live => k0 pc (x_nm L live) S σ
        | none => x_blk sh ca pool nL rt code cuts C k0 n pc L S σ) o pc L S σ) = some r at h
    split at h
    · cases h
    · rename_i o ho
      obtain ⟨h1, h2⟩ := hcode _ (x_at_mem ho)
      refine hstep _ o pc L S σ (fun pc L S σ h => ?_) h1 h2 h
      split at h
      · exact hG _ _ _ _ _ (fun q hq => x_nm_mem hq) (hk0 _ _ _ _ h)
      · exact ih _ _ _ _ h
theorem x_run_ok {B : xK → xK} {r : xR} {G : Nat → xL → List Value → xS → Prop} (hB : ∀ k0 : xK, (∀ pc L S σ, k0 pc L S σ = some r → G pc L S σ) → ∀ pc L S σ, B k0 pc L S σ = some r → G pc L S σ) :
    ∀ (n pc : Nat) (L : xL) (S : List Value) (σ : xS), x_run B n pc L S σ = some r → G pc L S σ := by
  intro n
  induction n with
  | zero => intro pc L S σ h; cases h
  | succ n ih => intro pc L S σ h; exact hB (x_run B n) ih pc L S σ h
theorem x_args_map (ad : Nat → Nat) : ∀ (as : List Value) (i : Nat), lv_args i (as.map (x_tv ad)) = (lv_args i as).map fun q => (q.1, x_tv ad q.2)
  | [], i => rfl
  | a :: as, i => by
    simp only [List.map_cons, lv_args, x_tv_cat, x_args_map ad as]
theorem x_sl_len (ad : Nat → Nat) : ∀ {n : Nat} {as : List Value}, x_rm n as = true → (lg_sl (as.map (x_tv ad))).length ≤ n
  | n, [], _ => by simp [lg_sl]
  | 0, v :: r, h => by cases v <;> simp [x_rm] at h
  | n + 1, v :: r, h => by
    cases v with
    | int x =>
      have := x_sl_len ad (n := n) (as := r) h
      have e : lg_sl ((Value.int x :: r).map (x_tv ad)) = Slot.val (x_tv ad (.int x)) :: lg_sl (r.map (x_tv ad)) := rfl
      rw [e, List.length_cons]
      omega
    | ref x =>
      have := x_sl_len ad (n := n) (as := r) h
      have e : lg_sl ((Value.ref x :: r).map (x_tv ad)) = Slot.val (x_tv ad (.ref x)) :: lg_sl (r.map (x_tv ad)) := rfl
      rw [e, List.length_cons]
      omega
    | _ => simp [x_rm] at h
def x_Pc (D : va_G) (cl : List vw_C) (tys : List (ClassId × FieldType)) (ad : Nat → Nat) (cI cZ : ClassId) (sh : List xH) (NW : State → Prop) (as : List Value) (σ : xS) : Array Value → State → Prop :=
  va_Pc (as.map (x_tv ad)) (fun U => va_P D cl (x_w ad cI cZ sh σ) U.heap ∧ va_K D cl tys U ∧ NW U)
/-- what the constants' words ride on -/
def x_Mv (A : Nat → Prop) (NW : State → Prop) : Prop := ∀ s U : State, NW s → s.WarmedH U.vm → (∀ q : Nat, q < s.heap.size → ¬ A q → U.heap[q]? = s.heap[q]?) → NW U
section XV
variable {p : Program} {l : Launch} {e : Env} {R : Room} {s : State} {m : MethodId} {args : Array Value} {below : List Frame} {meth : Method} {c : Code} {H : Heap} {locs : List Loc}
variable {D : va_G} {cl : List vw_C} {tys : List (ClassId × FieldType)} {A : Nat → Prop} {ad : Nat → Nat} {cI cZ : ClassId} {sh : List xH} {cc bytes : ByteArray} {nL maxL na ci q pc o : Nat} {NW : State → Prop} {Ts ws : List Cond} {own C : String} {T : u_T} {N : Nat} {y : MethodName} {ret : Option FieldType} {rm : Room} {as rest : List Value} {σ : xS} {v : Bool} {r1 : xR} {ls : Array Slot} {fs : List (Option Nat)}
theorem x_Pc_blind (hMv : x_Mv A NW) : FrameBlind (x_Pc D cl tys ad cI cZ sh NW as σ) := fun a U g mk h =>
  ⟨h.1, h.2.1, va_K.moved (u := U) (U := U.calling g mk a) (Vm.Alike.refl U.vm) h.2.2.1, hMv U (U.calling g mk a) h.2.2.2 (State.WarmedH.refl U) (fun _ _ _ => rfl)⟩
theorem x_virt (hMv : x_Mv A NW) (S : CallFix p m c cc nL s args Ts own) (hM : Met l y ws rm (x_Pc D cl tys ad cI cZ sh NW (.ref o :: as) σ) (x_Qc D cl A ad cI cZ sh v r1) 0 0 A)
    (cw : CallW R s args own C q y bytes maxL ret ws rm 0 0 na ∨ ∃ host, va_CN R s args own q y host bytes maxL ret ws rm 0 0 na ∧ (Cond.instanceMethod y).before args s = true ∧ (Cond.selects C y y).before args s = true)
    (hc : cl[ci]? = some (C, T, N)) (hs : sh[o]? = some (.inl (ci, fs))) (hP : va_P D cl (x_w ad cI cZ sh σ) H) (hK : va_K D cl tys s) (hS : va_S A s.heap H locs) (hN : NW s) (hn : as.length = na) (hls : ls.size = nL) (hr : x_rm 8 rest = true) (hdg : decode cc pc = .ok (.invokevirtual q, 3)) :
    ∃ a, va_Run p l e R s m args below meth c H locs 0 0 0 0 (F0 m pc ls ((as.map (x_tv ad)).reverse ++ .ref (ad o) :: rest.map (x_tv ad))) (rest.map (x_tv ad)) (x_Qc D cl A ad cI cZ sh v r1 a) A := by
  have hpre : PreV s H C (ad o) (x_Pc D cl tys ad cI cZ sh NW (.ref o :: as) σ) (as.map (x_tv ad)) :=
    ⟨x_Pc_blind hMv, va_recv hK hP hc (x_w_at hs), fun U hU hW => ⟨rfl, by rw [hU]; exact hP, va_K.moved hW.alike hK, hMv s U hN hW (fun z h1 h2 => by rw [hU]; exact hS.2.1 z h1 h2)⟩⟩
  rcases cw with cw | ⟨host, cw⟩
  · exact ⟨_, va_runV (As := as.map (x_tv ad)) (rest := rest.map (x_tv ad)) (b := ad o) S hM cw hpre rfl (by rw [List.length_map]; exact hn) hls rfl (lv_room (x_rm_sum ad hr)) hdg ⟨Nat.zero_le _, Nat.zero_le _⟩⟩
  · exact ⟨_, va_runVN (As := as.map (x_tv ad)) (rest := rest.map (x_tv ad)) (b := ad o) S hM cw hpre rfl (by rw [List.length_map]; exact hn) hls rfl (lv_room (x_rm_sum ad hr)) hdg ⟨Nat.zero_le _, Nat.zero_le _⟩⟩
theorem x_stat (hMv : x_Mv A NW) (S : CallFix p m c cc nL s args Ts own) (hM : Met l y ws rm (x_Pc D cl tys ad cI cZ sh NW as σ) (x_Qc D cl A ad cI cZ sh v r1) 0 0 A)
    (cw : (CallB R s args own q y bytes maxL ret ws rm 0 0 na ∧ (Cond.static y).before args s = true) ∨ ∃ host, va_CN R s args own q y host bytes maxL ret ws rm 0 0 na ∧ (Cond.static y).before args s = true)
    (hP : va_P D cl (x_w ad cI cZ sh σ) H) (hK : va_K D cl tys s) (hS : va_S A s.heap H locs) (hN : NW s) (hn : as.length = na) (hls : ls.size = nL) (hr : x_rm 8 rest = true) (hdg : decode cc pc = .ok (.invokestatic q, 3)) :
    ∃ a, va_Run p l e R s m args below meth c H locs 0 0 0 0 (F0 m pc ls ((as.map (x_tv ad)).reverse ++ rest.map (x_tv ad))) (rest.map (x_tv ad)) (x_Qc D cl A ad cI cZ sh v r1 a) A := by
  have hpre : PreS s H (x_Pc D cl tys ad cI cZ sh NW as σ) (as.map (x_tv ad)) :=
    ⟨x_Pc_blind hMv, fun U hU hW => ⟨rfl, by rw [hU]; exact hP, va_K.moved hW.alike hK, hMv s U hN hW (fun z h1 h2 => by rw [hU]; exact hS.2.1 z h1 h2)⟩⟩
  rcases cw with cw | ⟨host, cw1, cw2⟩
  · exact ⟨_, va_runS (As := as.map (x_tv ad)) (rest := rest.map (x_tv ad)) S hM cw hpre rfl (by rw [List.length_map]; exact hn) hls rfl (lv_room (x_rm_sum ad hr)) hdg ⟨Nat.zero_le _, Nat.zero_le _⟩⟩
  · exact ⟨_, va_runSN (As := as.map (x_tv ad)) (rest := rest.map (x_tv ad)) S hM ⟨cw1, cw2, trivial⟩ hpre rfl (by rw [List.length_map]; exact hn) hls rfl (lv_room (x_rm_sum ad hr)) hdg ⟨Nat.zero_le _, Nat.zero_le _⟩⟩
end XV
/-- what the words say of a pool's places, for the methods' tables y, b, l, r, w, v -/
def x_PO (cl : List vw_C) (A : Nat → Prop) (ad : Nat → Nat) (ca : Nat → Option (List Int32)) (pool : Nat → Option xE) (ws : List Cond) (own : String) (yj : Nat → MethodName) (bj : Nat → ByteArray) (lj : Nat → Nat) (rj : Nat → Option FieldType) (wj : Nat → List Cond) (vj : Nat → Bool) (mj : Nat → Room) (rm : Room) (s : State) (args : Array Value) : Prop :=
  (∀ q ci f n b, pool q = some (0, ci, f, n, b) → x_FO cl ws s args own q ci f b) ∧ (∀ q o n1 n2 b, pool q = some (3, o, n1, n2, b) → x_SO A ad s args own q o b) ∧ (∀ q o n1 n2 b, pool q = some (4, o, n1, n2, b) → (Jvm.Cond.constant own q (Int32.ofNat o)).before args s = true) ∧
  (∀ o q, ca o = some q → va_T .int (ad o) q.length (fun j => .int (q.getD j 0)) A s s.heap) ∧
  (∀ q j na ci v, pool q = some (1, j, na, ci, v) → v = vj j ∧ ∃ (C : String) (T : u_T) (N : Nat), cl[ci]? = some (C, T, N) ∧ (CallW rm s args own C q (yj j) (bj j) (lj j) (rj j) (wj j) (mj j) 0 0 na ∨ ∃ host, va_CN rm s args own q (yj j) host (bj j) (lj j) (rj j) (wj j) (mj j) 0 0 na ∧ (Cond.instanceMethod (yj j)).before args s = true ∧ (Cond.selects C (yj j) (yj j)).before args s = true)) ∧
  (∀ q j na ci v, pool q = some (2, j, na, ci, v) → v = vj j ∧ ((CallB rm s args own q (yj j) (bj j) (lj j) (rj j) (wj j) (mj j) 0 0 na ∧ (Cond.static (yj j)).before args s = true) ∨ ∃ host, va_CN rm s args own q (yj j) host (bj j) (lj j) (rj j) (wj j) (mj j) 0 0 na ∧ (Cond.static (yj j)).before args s = true))
theorem x_met {l : Launch} {D : va_G} {cl : List vw_C} {tys : List (ClassId × FieldType)} {A : Nat → Prop} {ad : Nat → Nat} {cI cZ : ClassId} {sh : List xH} {NW : State → Prop} {ca : Nat → Option (List Int32)} {y : MethodName} {ws ws' : List Cond} {rm : Room} {cc : ByteArray} {nL rt : Nat} {ret : Option FieldType} {pool : Nat → Option xE} {code : List (Nat × xO)} {cuts : List (Nat × List Nat)} {C : xC} {n0 n1 : Nat} {as : List Value} {σ : xS} {r : xR}
    {yj : Nat → MethodName} {bj : Nat → ByteArray} {lj : Nat → Nat} {rj : Nat → Option FieldType} {wj : Nat → List Cond} {vj : Nat → Bool} {mj : Nat → Room}
    (hy : plainName y.cls = true) (hw : ws = Cond.code y cc nL ret :: ws') (hret : x_rt rt ret) (hcode : ∀ q ∈ code, decode cc q.1 = .ok (q.2.2.1, q.2.1) ∧ x_ok q.1 q.2 = true) (hMv : x_Mv A NW) (hD : ∀ σ : xS, va_D A (x_w ad cI cZ sh σ)) {t1 t2 : Nat} (ht1 : tys[t1]? = some (cI, .int)) (ht2 : tys[t2]? = some (cZ, .boolean))
    (hpool : ∀ (s : State) (args : Array Value), (∀ w ∈ ws, w.before args s = true) → NW s → x_PO cl A ad ca pool ws y.cls yj bj lj rj wj vj mj rm s args)
    (hM : ∀ (j : Nat) (as : List Value) (σ : xS) (r1 : xR), C j as σ = some r1 → Met l (yj j) (wj j) (mj j) (x_Pc D cl tys ad cI cZ sh NW as σ) (x_Qc D cl A ad cI cZ sh (vj j) r1) 0 0 A)
    (hrm : x_rm nL as = true) (h : x_run (fun k0 => x_blk sh ca pool nL rt code cuts C k0 n0) n1 0 (lv_args 0 as) [] σ = some r) :
    Met l y ws rm (x_Pc D cl tys ad cI cZ sh NW as σ) (x_Qc D cl A ad cI cZ sh (rt == 0) r) 0 0 A := by
  refine Met.ofW (cc := cc) (maxL := nL) (ret := ret) hy hw ?_
  intro p e s m args below meth c s₁ B hml hv
  obtain ⟨rfl, hP, hK, hN⟩ := hv
  have hx := B.exec
  have hb := B.bytes
  have hr := B.returns
  have hts := atoms_spec (ws := ws) B.pre
  have hown : s.vm.findClass y.cls = some m.cls := findClass_of_methodNamed B.named
  have hlocks := B.notSynchronized
  obtain ⟨p1, p2, p3, p4, p5, p6⟩ := hpool s _ hts hN
  have hl := lv_entry (as.map (x_tv ad)) (n := nL) (x_sl_len ad hrm)
  rw [lg_entry_eq]
  rw [x_args_map] at hl
  refine x_run_ok (G := x_G p l e (headSpec ws rm).room s m _ below meth c (MQ below (x_Qc D cl A ad cI cZ sh (rt == 0) r) _ s 0 0 A) D cl A ad cI cZ sh nL) ?_ n1 0 (lv_args 0 as) [] σ h s.heap [] _ hP va_S.rf hl
  intro k0 hk0
  refine x_blk_ok (cc := cc) ?_ hcode ?_ hk0 n0
  · intro k o pc L S σ hk hdec hop hst
    refine x_step_ok (Ts := ws) (own := y.cls) hx hb hlocks hown hts hK hD ht1 ht2 (by rw [hr]; exact hret) p1 p2 p3 p4 ?_ ?_ hk hdec hop hst
    · intro q j na ci v hp as rest o fs σ r1 H locs ls pc g1 g2 g3 g4 g5 g6 g7 g8
      obtain ⟨rfl, Cn, T, N, f1, f2⟩ := p5 q j na ci v hp
      exact x_virt hMv ⟨hx, hb, hml, hown, hts⟩ (hM _ _ _ _ g4) f2 f1 g2 g5 hK g6 hN g1 g7 g3 g8
    · intro q j na ci v hp as rest σ r1 H locs ls pc g1 g3 g4 g5 g6 g7 g8
      obtain ⟨rfl, f2⟩ := p6 q j na ci v hp
      exact x_stat hMv ⟨hx, hb, hml, hown, hts⟩ (hM _ _ _ _ g4) f2 g5 hK g6 hN g1 g7 g3 g8
  · intro pc L L' S σ hsub hg H locs ls hP hS hl
    refine hg H locs ls hP hS ⟨hl.1, hl.2.1, fun q hq => ?_⟩
    obtain ⟨z, hz, rfl⟩ := List.mem_map.mp hq
    exact hl.2.2 _ (List.mem_map.mpr ⟨z, hsub z hz, rfl⟩)
