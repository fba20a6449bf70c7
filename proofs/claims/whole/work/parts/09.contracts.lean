/-! What the words say of every place of the methods' pools; the contract of every method, at every depth -/
theorem x_tn_mem : ∀ {l : List xI} {n : Nat} {i : xI}, x_tn l n = some i → i ∈ l
  | [], n, i, h => by cases h
  | a :: l, 0, i, h => by cases h; exact List.mem_cons_self
  | a :: l, n + 1, i, h => List.mem_cons_of_mem _ (x_tn_mem (l := l) (n := n) h)
theorem x_pl_mem : ∀ {P : List (Nat × xE)} {q : Nat} {e : xE}, x_pl P q = some e → (q, e) ∈ P
  | [], q, e, h => by cases h
  | a :: P, q, e, h => by
    unfold x_pl at h
    split at h
    · rename_i hq
      cases h
      have e1 : a.1 = q := Nat.eq_of_beq_eq_true hq
      exact List.mem_cons.mpr (Or.inl (by rw [← e1]))
    · exact List.mem_cons_of_mem _ (x_pl_mem h)
theorem x_cl_own : ∀ c ∈ x_cl, ∀ f, f < c.2.2 → (c.2.1 f).1 = c.1 :=
  List.forall_mem_cons.mpr ⟨by decide +kernel, List.forall_mem_cons.mpr ⟨by decide +kernel, List.forall_mem_cons.mpr ⟨by decide +kernel, List.forall_mem_cons.mpr ⟨by decide +kernel, List.forall_mem_cons.mpr ⟨by decide +kernel, List.forall_mem_cons.mpr ⟨by decide +kernel, List.forall_mem_cons.mpr ⟨by decide +kernel, List.forall_mem_cons.mpr ⟨by decide +kernel, List.forall_mem_cons.mpr ⟨by decide +kernel, fun _ h => absurd h List.not_mem_nil⟩⟩⟩⟩⟩⟩⟩⟩⟩
theorem x_cl_nm : ∀ c ∈ x_cl, ∀ a, a < c.2.2 → ∀ b, b < c.2.2 → a ≠ b → (c.2.1 a).2.1 ≠ (c.2.1 b).2.1 :=
  List.forall_mem_cons.mpr ⟨nmX7, List.forall_mem_cons.mpr ⟨nmX4, List.forall_mem_cons.mpr ⟨nmX5, List.forall_mem_cons.mpr ⟨nmX1, List.forall_mem_cons.mpr ⟨nmX3, List.forall_mem_cons.mpr ⟨nmX6, List.forall_mem_cons.mpr ⟨nmX2, List.forall_mem_cons.mpr ⟨nmX0, List.forall_mem_cons.mpr ⟨nmXM, fun _ h => absurd h List.not_mem_nil⟩⟩⟩⟩⟩⟩⟩⟩⟩
theorem x_cl_ty : ∀ (ci : Nat) (c : vw_C), x_cl[ci]? = some c → ∀ k, k < c.2.2 → parseFieldDescriptor (c.2.1 k).2.2.1 = some (x_tyn ci k)
  | 0, c, h => by cases h; exact tyX7_ok
  | 1, c, h => by cases h; exact tyX4_ok
  | 2, c, h => by cases h; exact tyX5_ok
  | 3, c, h => by cases h; exact tyX1_ok
  | 4, c, h => by cases h; exact tyX3_ok
  | 5, c, h => by cases h; exact tyX6_ok
  | 6, c, h => by cases h; exact tyX2_ok
  | 7, c, h => by cases h; exact tyX0_ok
  | 8, c, h => by cases h; exact tyXM_ok
  | n + 9, c, h => by simp [x_cl] at h
/-- the constants: the table of needed words, the five texts, and what else is asked of them -/
def x_NW (A : Nat → Prop) (ad : Nat → Nat) (X : State → Prop) (U : State) : Prop :=
  va_Z "DeskMachine$Desk" "WORDS_NEEDED" "[I" (.ref (ad 900)) A U U.heap ∧ va_T .int (ad 900) 7 (fun j => .int (([1, 2, 2, 3, 3, 1, 0] : List Int32).getD j 0)) A U U.heap ∧ (∀ z ∈ x_txs, ∃ tx : String, vk_R "DeskMachine$Desk" z.1 tx (ad z.2) U) ∧ X U
theorem x_NW_mv {A : Nat → Prop} {ad : Nat → Nat} {X : State → Prop} (hX : x_Mv A X) : x_Mv A (x_NW A ad X) := by
  intro s U ⟨h1, h2, h3, h4⟩ hW hq
  exact ⟨(va_Z.moved hW.alike h1).kept hq, (va_T.moved hW.alike h2).kept hq, fun z hz => by
    obtain ⟨tx, h⟩ := h3 z hz
    exact ⟨tx, vk_R.warm hW h⟩, hX s U h4 hW hq⟩
theorem x_in_ws {i j : xI} (hj : j ∈ x_tab) {q : Nat} {e : xE} (he : (q, e) ∈ j.2.2.2.2.2.1) {w : Cond} (hw : w ∈ x_el j.1.cls q e) : w ∈ x_ws i :=
  List.mem_cons_of_mem _ (List.mem_append_right _ (List.mem_flatMap.mpr ⟨j, hj, List.mem_flatMap.mpr ⟨(q, e), he, hw⟩⟩))
theorem x_in_lay {i : xI} {c : vw_C} (hc : c ∈ x_cl) {w : Cond} (hw : w ∈ u_ws c.1 c.2.1 c.2.2) : w ∈ x_ws i :=
  List.mem_cons_of_mem _ (List.mem_append_left _ (List.mem_flatMap.mpr ⟨c, hc, hw⟩))
theorem x_good {i j : xI} (hg : ∀ w ∈ x_words, goodWord w = true) (hc : Cond.code j.1 j.2.1 j.2.2.1 j.2.2.2.1 ∈ x_words) : GoodIn (x_ws i) (x_ws j) := by
  intro w hw
  rcases List.mem_cons.mp hw with rfl | hw
  · exact ⟨List.mem_cons_of_mem _ hc, good_of_word (hg _ hc)⟩
  · exact ⟨List.mem_cons_of_mem _ hw, good_of_word (hg _ hw)⟩
theorem x_PO_of {A : Nat → Prop} {ad : Nat → Nat} {X : State → Prop} {i : xI} (hi : i ∈ x_tab) (hg : ∀ w ∈ x_words, goodWord w = true) {s : State} {args : Array Value} (hts : ∀ w ∈ x_ws i, w.before args s = true) (hN : x_NW A ad X s) :
    x_PO x_cl A ad x_ca (x_pl i.2.2.2.2.2.1) (x_ws i) i.1.cls (fun j => (x_g j).1) (fun j => (x_g j).2.1) (fun j => (x_g j).2.2.1) (fun j => (x_g j).2.2.2.1) (fun j => x_ws (x_g j)) (fun j => Nat.beq (x_g j).2.2.2.2.1 0) (fun j => x_rmo (x_g j)) (x_rmo i) s args := by
  have hck : ∀ (q : Nat) (e : xE), (q, e) ∈ i.2.2.2.2.2.1 → x_pk (x_dsk i) i.2.2.2.2.2.2.2.2.1 i.2.2.2.2.2.2.2.2.2.1 q e = true := fun q e h => List.all_eq_true.mp (x_ck2_all i hi) (q, e) h
  have hsite : ∀ (q na : Nat) (v : Bool) (i' : xI), i' ∈ x_tab → x_sk na v i.2.2.2.2.2.2.2.2.1 i.2.2.2.2.2.2.2.2.2.1 i' = true → Cond.methodLink i.1.cls q i'.1 ∈ x_ws i → Cond.code i'.1 i'.2.1 i'.2.2.1 i'.2.2.2.1 ∈ x_words → Cond.initialized i'.1.cls ∈ x_ws i →
      v = Nat.beq i'.2.2.2.2.1 0 ∧ CallB (x_rmo i) s args i.1.cls q i'.1 i'.2.1 i'.2.2.1 i'.2.2.2.1 (x_ws i') (x_rmo i') 0 0 na := by
    intro q na v i' hi' hsk h1 h2 h3
    unfold x_sk at hsk
    simp only [Bool.and_eq_true] at hsk
    obtain ⟨k1, k2, k3, k4⟩ := hsk
    have h4 := x_ck4_all i' hi'
    unfold x_ck4 at h4
    simp only [Bool.and_eq_true, decide_eq_true_eq] at h4
    obtain ⟨⟨m1, m2⟩, m3, -⟩ := h4
    have hna : na = i'.2.2.2.2.2.2.2.2.2.2.1 := Nat.eq_of_beq_eq_true k1
    exact ⟨x_bq_eq k4, callB_of na hts (x_good hg h2) rfl rfl rfl (hts _ h3) (hts _ h1) ⟨m1, m2, by rw [hna]; exact m3⟩ ⟨Nat.le_of_ble_eq_true k2, Nat.le_of_ble_eq_true k3⟩⟩
  refine ⟨?_, ?_, ?_, ?_, ?_, ?_⟩
  · intro q ci f n b hp
    have hm := x_pl_mem hp
    have h1 := hck _ _ hm
    unfold x_pk at h1
    dsimp only at h1
    cases hc : x_cl[ci]? with
    | none => rw [hc] at h1; cases h1
    | some c =>
      rw [hc] at h1
      simp only [Bool.and_eq_true, Bool.or_eq_true, decide_eq_true_eq] at h1
      obtain ⟨h2, h3⟩ := h1
      have hf : f < c.2.2 := by simpa [Nat.blt_eq] using h2
      have hmc : c ∈ x_cl := List.mem_of_getElem? hc
      refine ⟨c.1, c.2.1, c.2.2, hc, hf, fun w hw => x_in_lay hmc hw, x_cl_own c hmc f hf, Or.inl (hts _ (x_in_ws hi hm ?_)), fun hb => ?_⟩
      · unfold x_el
        dsimp only
        rw [hc]
        exact List.mem_cons_self
      · subst hb
        rcases h3 with h3 | ⟨h3, h4⟩
        · cases h3
        · exact ⟨x_bq_eq h3, by rw [x_cl_ty ci c hc f hf, h4], ⟨x_tyn ci, x_cl_ty ci c hc⟩, x_cl_nm c hmc⟩
  · intro q o n1 n2 b hp
    have hm := x_pl_mem hp
    have h1 := hck _ _ hm
    unfold x_pk at h1
    dsimp only at h1
    cases b with
    | true =>
      have ho : o = 900 := Nat.eq_of_beq_eq_true h1
      subst ho
      refine ⟨"DeskMachine$Desk", "WORDS_NEEDED", "[I", hN.1, hts _ (x_in_ws hi hm ?_)⟩
      unfold x_el
      exact List.mem_cons_self
    | false =>
      have h1 : (x_dsk i && decide ((q, o) ∈ x_txs)) = true := h1
      rw [Bool.and_eq_true, decide_eq_true_eq] at h1
      obtain ⟨h2, h3⟩ := h1
      have h7 : i.2.2.2.2.2.2.2.2.2.2.2 = 7 := Nat.eq_of_beq_eq_true h2
      have h4 := x_ck4_all i hi
      unfold x_ck4 at h4
      rw [h7] at h4
      have h8 : x_cl[7]? = some (RX0, TX0, 9) := rfl
      rw [h8] at h4
      simp only [Bool.and_eq_true, decide_eq_true_eq] at h4
      obtain ⟨tx, ht⟩ := hN.2.2.1 (q, o) h3
      refine ⟨tx, ?_⟩
      rw [h4.2.2]
      exact ht
  · intro q o n1 n2 b hp
    have hm := x_pl_mem hp
    exact hts _ (x_in_ws hi hm List.mem_cons_self)
  · intro o q hq
    unfold x_ca at hq
    split at hq
    · rename_i ho
      cases hq
      have ho : o = 900 := Nat.eq_of_beq_eq_true ho
      subst ho
      exact hN.2.1
    · cases hq
  · intro q j na ci v hp
    have hm := x_pl_mem hp
    have h1 := hck _ _ hm
    unfold x_pk at h1
    dsimp only at h1
    cases hj : x_tn x_tab j with
    | none => rw [hj] at h1; cases h1
    | some i' =>
      rw [hj] at h1
      simp only [Bool.and_eq_true] at h1
      obtain ⟨h2, h3, h4⟩ := h1
      have hci : ci < 9 := by simpa [Nat.blt_eq] using h2
      have hi' : i' ∈ x_tab := x_tn_mem hj
      have h7 : i'.2.2.2.2.2.2.2.2.2.2.2 = ci := Nat.eq_of_beq_eq_true h3
      have hg' : x_g j = i' := by unfold x_g; rw [hj]; rfl
      cases hc : x_cl[ci]? with
      | none =>
        have : x_cl.length ≤ ci := by simpa using hc
        have h9 : x_cl.length = 9 := rfl
        omega
      | some c =>
        have hcls : i'.1.cls = c.1 := by
          have h5 := x_ck4_all i' hi'
          unfold x_ck4 at h5
          rw [h7, hc] at h5
          simp only [Bool.and_eq_true, decide_eq_true_eq] at h5
          exact h5.2.2
        have hel : x_el i.1.cls q (1, j, na, ci, v) = [.methodLink i.1.cls q i'.1, .code i'.1 i'.2.1 i'.2.2.1 i'.2.2.2.1, .instanceMethod i'.1, .selects c.1 i'.1 i'.1, .initialized c.1] := by
          simp only [x_el, hc, hj]
        have hin : ∀ w ∈ x_el i.1.cls q (1, j, na, ci, v), w ∈ x_words := fun w hw => List.mem_append_right _ (List.mem_flatMap.mpr ⟨i, hi, List.mem_flatMap.mpr ⟨(q, (1, j, na, ci, v)), hm, hw⟩⟩)
        rw [hel] at hin
        obtain ⟨hv, hB⟩ := hsite q na v i' hi' h4 (List.mem_cons_of_mem _ (hin _ (by simp))) (hin _ (by simp)) (List.mem_cons_of_mem _ (by rw [hcls]; exact hin _ (by simp)))
        dsimp only
        rw [hg']
        exact ⟨hv, c.1, c.2.1, c.2.2, rfl, Or.inl ⟨hB, hts _ (List.mem_cons_of_mem _ (hin _ (by simp))), hts _ (List.mem_cons_of_mem _ (hin _ (by simp)))⟩⟩
  · intro q j na ci v hp
    have hm := x_pl_mem hp
    have h1 := hck _ _ hm
    unfold x_pk at h1
    dsimp only at h1
    cases hj : x_tn x_tab j with
    | none => rw [hj] at h1; cases h1
    | some i' =>
      rw [hj] at h1
      have hi' : i' ∈ x_tab := x_tn_mem hj
      have hg' : x_g j = i' := by unfold x_g; rw [hj]; rfl
      have hel : x_el i.1.cls q (2, j, na, ci, v) = [.methodLink i.1.cls q i'.1, .code i'.1 i'.2.1 i'.2.2.1 i'.2.2.2.1, .static i'.1, .initialized i'.1.cls] := by
        simp only [x_el, hj]
      have hin : ∀ w ∈ x_el i.1.cls q (2, j, na, ci, v), w ∈ x_words := fun w hw => List.mem_append_right _ (List.mem_flatMap.mpr ⟨i, hi, List.mem_flatMap.mpr ⟨(q, (2, j, na, ci, v)), hm, hw⟩⟩)
      rw [hel] at hin
      obtain ⟨hv, hB⟩ := hsite q na v i' hi' h1 (List.mem_cons_of_mem _ (hin _ (by simp))) (hin _ (by simp)) (List.mem_cons_of_mem _ (hin _ (by simp)))
      dsimp only
      rw [hg']
      exact ⟨hv, Or.inl ⟨hB, hts _ (List.mem_cons_of_mem _ (hin _ (by simp)))⟩⟩
/-- the contract of every method, at every depth; what firstWordIs does is a premise yet -/
theorem x_M_ok_open {l : Launch} {D : va_G} {tys : List (ClassId × FieldType)} {A : Nat → Prop} {ad : Nat → Nat} {cI cZ : ClassId} {X : State → Prop} (hX : x_Mv A X) (hg : ∀ w ∈ x_words, goodWord w = true) (hD : ∀ σ : xS, va_D A (x_w ad cI cZ x_sh σ)) {t1 t2 : Nat} (ht1 : tys[t1]? = some (cI, .int)) (ht2 : tys[t2]? = some (cZ, .boolean))
    (hF : ∀ (as : List Value) (σ : xS) (r : xR), x_fw as σ = some r → Met l (x_g x_jF).1 (x_ws (x_g x_jF)) (x_rmo (x_g x_jF)) (x_Pc D x_cl tys ad cI cZ x_sh (x_NW A ad X) as σ) (x_Qc D x_cl A ad cI cZ x_sh false r) 0 0 A) :
    ∀ (d j : Nat) (as : List Value) (σ : xS) (r : xR), x_M d j as σ = some r → Met l (x_g j).1 (x_ws (x_g j)) (x_rmo (x_g j)) (x_Pc D x_cl tys ad cI cZ x_sh (x_NW A ad X) as σ) (x_Qc D x_cl A ad cI cZ x_sh (Nat.beq (x_g j).2.2.2.2.1 0) r) 0 0 A := by
  intro d
  induction d with
  | zero => intro j as σ r h; cases h
  | succ d ih =>
    intro j as σ r h
    change (match Nat.beq j x_jF with
      | true => x_fw as σ
      | false => (match x_tn x_tab j with
        | none => none
        | some i => (match x_rm i.2.2.1 as with
          | true => x_run (x_b i (x_M d)) 5000 0 (lv_args 0 as) [] σ
          | false => none))) = some r at h
    split at h
    · rename_i hj
      have hj : j = x_jF := Nat.eq_of_beq_eq_true hj
      subst hj
      exact hF as σ r h
    · split at h
      · cases h
      · rename_i i hj
        have hi : i ∈ x_tab := x_tn_mem hj
        have hg' : x_g j = i := by unfold x_g; rw [hj]; rfl
        rw [hg']
        split at h
        · rename_i hrm
          have h3 := x_ck3_all i hi
          unfold x_ck3 at h3
          rw [Bool.and_eq_true, decide_eq_true_eq] at h3
          have hrt : x_rt i.2.2.2.2.1 i.2.2.2.1 := by
            have h4 := h3.2
            simp only [List.mem_cons, Prod.mk.injEq, List.not_mem_nil, or_false] at h4
            exact h4
          have hcode : ∀ q ∈ i.2.2.2.2.2.2.1, decode i.2.1 q.1 = .ok (q.2.2.1, q.2.1) ∧ x_ok q.1 q.2 = true := fun q hq => by
            have h5 := List.all_eq_true.mp (x_ck1_all i hi) q hq
            rw [Bool.and_eq_true, decide_eq_true_eq] at h5
            exact h5
          have hb : ∀ n : Nat, (n == 0) = Nat.beq n 0 := fun n => by cases n <;> rfl
          have hm := x_met (ws := x_ws i) (ws' := x_words) (rm := x_rmo i) h3.1 rfl hrt hcode (x_NW_mv hX) hD ht1 ht2 (fun s args hts hN => x_PO_of hi hg hts hN) ih hrm h
          rw [hb] at hm
          exact hm
        · cases h
