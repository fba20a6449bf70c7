/-! What a set of methods may change: the objects that it can reach by the fields it reads -/
set_option maxHeartbeats 4000000 in
set_option maxRecDepth 100000 in
theorem x_step_fr2 {K : Nat → Bool} {sh : List xH} {ca : Nat → Option (List Int32)} {pool : Nat → Option xE} {nL rt : Nat} {C : xC} {k : xK} {o : xO} {pc : Nat} {L : xL} {S : List Value} {σ : xS} {r : xR}
    (hcl : ∀ (q n : Nat) (b : Bool) (o ci : Nat) (fs : List (Option Nat)) (f a : Nat), pool q = some (0, ci, f, n, b) → K o = true → sh[o]? = some (.inl (ci, fs)) → fs[f]? = some (some a) → K a = true) (hsta : ∀ q o n1 n2 b, pool q = some (3, o, n1, n2, b) → K o = true)
    (hC : ∀ (q j na ci : Nat) (v : Bool), pool q = some (1, j, na, ci, v) ∨ pool q = some (2, j, na, ci, v) → ∀ (as : List Value) (σ : xS) (r : xR), C j as σ = some r → (∀ v ∈ as, x_rk K v) → ∀ o, K o = false → r.2 o = σ o)
    (hk : ∀ pc L S σ, k pc L S σ = some r → (∀ q ∈ L, x_rk K q.2) → (∀ v ∈ S, x_rk K v) → ∀ o, K o = false → r.2 o = σ o)
    (h : x_step sh ca pool nL rt C k o pc L S σ = some r) (hL : ∀ q ∈ L, x_rk K q.2) (hS : ∀ v ∈ S, x_rk K v) : ∀ o, K o = false → r.2 o = σ o := by
  obtain ⟨len, i, v, t, ts⟩ := o
  have hlk : ∀ {i : Nat} {v : Value}, x_lk L i = some v → x_rk K v := fun h => hL _ (x_lk_mem h)
  cases i with
  | iconst n => exact hk _ _ _ _ h hL (x_rk_c (x_rk_i K _) hS)
  | bipush n => exact hk _ _ _ _ h hL (x_rk_c (x_rk_i K _) hS)
  | sipush n => exact hk _ _ _ _ h hL (x_rk_c (x_rk_i K _) hS)
  | iload_n n =>
    obtain ⟨x, g, h⟩ := x_ldi_inv h
    exact hk _ _ _ _ h hL (x_rk_c (x_rk_i K _) hS)
  | iload n =>
    obtain ⟨x, g, h⟩ := x_ldi_inv h
    exact hk _ _ _ _ h hL (x_rk_c (x_rk_i K _) hS)
  | aload_n n =>
    obtain ⟨x, g, h⟩ := x_lda_inv h
    exact hk _ _ _ _ h hL (x_rk_c (hlk g) hS)
  | aload n =>
    obtain ⟨x, g, h⟩ := x_lda_inv h
    exact hk _ _ _ _ h hL (x_rk_c (hlk g) hS)
  | istore_n n =>
    obtain ⟨x, S', rfl, h⟩ := x_top_inv h
    obtain ⟨g, h⟩ := x_lt_inv h
    exact hk _ _ _ _ h (x_rk_st (x_rk_i K _) hL) (x_rk_t hS)
  | istore n =>
    obtain ⟨x, S', rfl, h⟩ := x_top_inv h
    obtain ⟨g, h⟩ := x_lt_inv h
    exact hk _ _ _ _ h (x_rk_st (x_rk_i K _) hL) (x_rk_t hS)
  | iinc n d =>
    obtain ⟨x, g, h⟩ := x_ldi_inv h
    obtain ⟨g2, h⟩ := x_lt_inv h
    exact hk _ _ _ _ h (x_rk_st (x_rk_i K _) hL) hS
  | iadd =>
    have h : x_bin (fun x y => x + y) S (fun S => k (pc + len) L S σ) = some r := h
    obtain ⟨x, y, S', rfl, h⟩ := x_bin_inv h
    exact hk _ _ _ _ h hL (x_rk_c (x_rk_i K _) (x_rk_t (x_rk_t hS)))
  | isub =>
    have h : x_bin (fun x y => x - y) S (fun S => k (pc + len) L S σ) = some r := h
    obtain ⟨x, y, S', rfl, h⟩ := x_bin_inv h
    exact hk _ _ _ _ h hL (x_rk_c (x_rk_i K _) (x_rk_t (x_rk_t hS)))
  | imul =>
    have h : x_bin (fun x y => x * y) S (fun S => k (pc + len) L S σ) = some r := h
    obtain ⟨x, y, S', rfl, h⟩ := x_bin_inv h
    exact hk _ _ _ _ h hL (x_rk_c (x_rk_i K _) (x_rk_t (x_rk_t hS)))
  | iand =>
    have h : x_bin (fun x y => x &&& y) S (fun S => k (pc + len) L S σ) = some r := h
    obtain ⟨x, y, S', rfl, h⟩ := x_bin_inv h
    exact hk _ _ _ _ h hL (x_rk_c (x_rk_i K _) (x_rk_t (x_rk_t hS)))
  | ior =>
    have h : x_bin (fun x y => x ||| y) S (fun S => k (pc + len) L S σ) = some r := h
    obtain ⟨x, y, S', rfl, h⟩ := x_bin_inv h
    exact hk _ _ _ _ h hL (x_rk_c (x_rk_i K _) (x_rk_t (x_rk_t hS)))
  | ixor =>
    have h : x_bin (fun x y => x ^^^ y) S (fun S => k (pc + len) L S σ) = some r := h
    obtain ⟨x, y, S', rfl, h⟩ := x_bin_inv h
    exact hk _ _ _ _ h hL (x_rk_c (x_rk_i K _) (x_rk_t (x_rk_t hS)))
  | ishl =>
    have h : x_bin (fun x y => x <<< (y &&& 31)) S (fun S => k (pc + len) L S σ) = some r := h
    obtain ⟨x, y, S', rfl, h⟩ := x_bin_inv h
    exact hk _ _ _ _ h hL (x_rk_c (x_rk_i K _) (x_rk_t (x_rk_t hS)))
  | ishr =>
    have h : x_bin (fun x y => x >>> (y &&& 31)) S (fun S => k (pc + len) L S σ) = some r := h
    obtain ⟨x, y, S', rfl, h⟩ := x_bin_inv h
    exact hk _ _ _ _ h hL (x_rk_c (x_rk_i K _) (x_rk_t (x_rk_t hS)))
  | iushr =>
    have h : x_bin (fun x y => (x.toUInt32 >>> (y.toUInt32 &&& Int32.toUInt32 31)).toInt32) S (fun S => k (pc + len) L S σ) = some r := h
    obtain ⟨x, y, S', rfl, h⟩ := x_bin_inv h
    exact hk _ _ _ _ h hL (x_rk_c (x_rk_i K _) (x_rk_t (x_rk_t hS)))
  | idiv =>
    have h : x_div (fun x y => x / y) S (fun S => k (pc + len) L S σ) = some r := h
    obtain ⟨x, y, S', rfl, hy, h⟩ := x_div_inv h
    exact hk _ _ _ _ h hL (x_rk_c (x_rk_i K _) (x_rk_t (x_rk_t hS)))
  | irem =>
    have h : x_div (fun x y => x - x / y * y) S (fun S => k (pc + len) L S σ) = some r := h
    obtain ⟨x, y, S', rfl, hy, h⟩ := x_div_inv h
    exact hk _ _ _ _ h hL (x_rk_c (x_rk_i K _) (x_rk_t (x_rk_t hS)))
  | dup =>
    obtain ⟨a, S', rfl, ha, h⟩ := x_d1_inv h
    exact hk _ _ _ _ h hL (x_rk_c (x_rk_h hS) hS)
  | pop =>
    obtain ⟨a, S', rfl, ha, h⟩ := x_d1_inv h
    exact hk _ _ _ _ h hL (x_rk_t hS)
  | dup_x1 =>
    obtain ⟨a, b, S', rfl, ha, hb2, h⟩ := x_d2_inv h
    exact hk _ _ _ _ h hL (x_rk_c (x_rk_h hS) (x_rk_c (x_rk_h (x_rk_t hS)) (x_rk_c (x_rk_h hS) (x_rk_t (x_rk_t hS)))))
  | dup2 =>
    obtain ⟨a, b, S', rfl, ha, hb2, h⟩ := x_d2_inv h
    exact hk _ _ _ _ h hL (x_rk_c (x_rk_h hS) (x_rk_c (x_rk_h (x_rk_t hS)) hS))
  | ifCond cnd off =>
    obtain ⟨x, S', rfl, h⟩ := x_top_inv h
    cases cnd with
    | eq =>
      change (if x = 0 then _ else _) = some r at h
      split at h
      · exact hk _ _ _ _ h hL (x_rk_t hS)
      · exact hk _ _ _ _ h hL (x_rk_t hS)
    | ne =>
      change (if x = 0 then _ else _) = some r at h
      split at h
      · exact hk _ _ _ _ h hL (x_rk_t hS)
      · exact hk _ _ _ _ h hL (x_rk_t hS)
    | lt =>
      change (if x < 0 then _ else _) = some r at h
      split at h
      · exact hk _ _ _ _ h hL (x_rk_t hS)
      · exact hk _ _ _ _ h hL (x_rk_t hS)
    | ge =>
      change (if 0 ≤ x then _ else _) = some r at h
      split at h
      · exact hk _ _ _ _ h hL (x_rk_t hS)
      · exact hk _ _ _ _ h hL (x_rk_t hS)
    | gt =>
      change (if 0 < x then _ else _) = some r at h
      split at h
      · exact hk _ _ _ _ h hL (x_rk_t hS)
      · exact hk _ _ _ _ h hL (x_rk_t hS)
    | le =>
      change (if x ≤ 0 then _ else _) = some r at h
      split at h
      · exact hk _ _ _ _ h hL (x_rk_t hS)
      · exact hk _ _ _ _ h hL (x_rk_t hS)
  | if_icmp cnd off =>
    obtain ⟨x, y, S', rfl, h⟩ := x_two_inv h
    cases cnd with
    | eq =>
      change (if x = y then _ else _) = some r at h
      split at h
      · exact hk _ _ _ _ h hL (x_rk_t (x_rk_t hS))
      · exact hk _ _ _ _ h hL (x_rk_t (x_rk_t hS))
    | ne =>
      change (if x = y then _ else _) = some r at h
      split at h
      · exact hk _ _ _ _ h hL (x_rk_t (x_rk_t hS))
      · exact hk _ _ _ _ h hL (x_rk_t (x_rk_t hS))
    | lt =>
      change (if x < y then _ else _) = some r at h
      split at h
      · exact hk _ _ _ _ h hL (x_rk_t (x_rk_t hS))
      · exact hk _ _ _ _ h hL (x_rk_t (x_rk_t hS))
    | ge =>
      change (if y ≤ x then _ else _) = some r at h
      split at h
      · exact hk _ _ _ _ h hL (x_rk_t (x_rk_t hS))
      · exact hk _ _ _ _ h hL (x_rk_t (x_rk_t hS))
    | gt =>
      change (if y < x then _ else _) = some r at h
      split at h
      · exact hk _ _ _ _ h hL (x_rk_t (x_rk_t hS))
      · exact hk _ _ _ _ h hL (x_rk_t (x_rk_t hS))
    | le =>
      change (if x ≤ y then _ else _) = some r at h
      split at h
      · exact hk _ _ _ _ h hL (x_rk_t (x_rk_t hS))
      · exact hk _ _ _ _ h hL (x_rk_t (x_rk_t hS))
  | goto off => exact hk _ _ _ _ h hL hS
  | tableswitch d lo hi os =>
    obtain ⟨x, S', rfl, h⟩ := x_top_inv h
    rcases x_sw_inv h with ⟨j, q, g1, g2, g3⟩ | ⟨g1, g2⟩
    · exact hk _ _ _ _ g3 hL (x_rk_t hS)
    · exact hk _ _ _ _ g2 hL (x_rk_t hS)
  | lookupswitch d ps =>
    obtain ⟨x, S', rfl, h⟩ := x_top_inv h
    rcases x_sw_inv h with ⟨j, q, g1, g2, g3⟩ | ⟨g1, g2⟩
    · exact hk _ _ _ _ g3 hL (x_rk_t hS)
    · exact hk _ _ _ _ g2 hL (x_rk_t hS)
  | getfield q =>
    have h : x_gf sh (pool q) S σ (fun S => k (pc + len) L S σ) = some r := h
    obtain ⟨ci, g, n, b, o, S', fs, hp, rfl, hs, h⟩ := x_gf_inv h
    rcases h with ⟨hf, h⟩ | ⟨a, hf, h⟩
    · exact hk _ _ _ _ h hL (x_rk_c (x_rk_i K _) (x_rk_t hS))
    · exact hk _ _ _ _ h hL (x_rk_c (fun z hz => by cases hz; exact hcl _ _ _ _ _ _ _ _ hp (x_rk_h hS o rfl) hs hf) (x_rk_t hS))
  | putfield q =>
    have h : x_pf sh (pool q) S σ (fun S σ => k (pc + len) L S σ) = some r := h
    obtain ⟨ci, g, n, x, o, S', fs, hp, rfl, hs, hf, h⟩ := x_pf_inv h
    have ho := x_rk_h (x_rk_t hS) o rfl
    intro z hz
    rw [hk _ _ _ _ h hL (x_rk_t (x_rk_t hS)) z hz, x_up_ne (fun e => by rw [e, ho] at hz; cases hz)]
  | iaload =>
    have h : x_al sh ca false S σ (fun S => k (pc + len) L S σ) = some r := h
    obtain ⟨i, o, S', rfl, h2⟩ := x_al_inv h
    rcases h2 with ⟨n, hs, hi, h⟩ | ⟨-, q, hq, hi, h⟩
    · exact hk _ _ _ _ h hL (x_rk_c (x_rk_i K _) (x_rk_t (x_rk_t hS)))
    · exact hk _ _ _ _ h hL (x_rk_c (x_rk_i K _) (x_rk_t (x_rk_t hS)))
  | baload =>
    have h : x_al sh ca true S σ (fun S => k (pc + len) L S σ) = some r := h
    obtain ⟨i, o, S', rfl, h2⟩ := x_al_inv h
    rcases h2 with ⟨n, hs, hi, h⟩ | ⟨-, q, hq, hi, h⟩
    · exact hk _ _ _ _ h hL (x_rk_c (x_rk_i K _) (x_rk_t (x_rk_t hS)))
    · exact hk _ _ _ _ h hL (x_rk_c (x_rk_i K _) (x_rk_t (x_rk_t hS)))
  | iastore =>
    have h : x_as sh false S σ (fun S σ => k (pc + len) L S σ) = some r := h
    obtain ⟨x, i, o, S', n, rfl, hs, hi, h⟩ := x_as_inv h
    have ho := x_rk_h (x_rk_t (x_rk_t hS)) o rfl
    intro z hz
    rw [hk _ _ _ _ h hL (x_rk_t (x_rk_t (x_rk_t hS))) z hz, x_up_ne (fun e => by rw [e, ho] at hz; cases hz)]
  | bastore =>
    have h : x_as sh true S σ (fun S σ => k (pc + len) L S σ) = some r := h
    obtain ⟨x, i, o, S', n, rfl, hs, hi, h⟩ := x_as_inv h
    have ho := x_rk_h (x_rk_t (x_rk_t hS)) o rfl
    intro z hz
    rw [hk _ _ _ _ h hL (x_rk_t (x_rk_t (x_rk_t hS))) z hz, x_up_ne (fun e => by rw [e, ho] at hz; cases hz)]
  | invokevirtual q =>
    have h : x_iv sh C (pool q) S σ (fun S σ => k (pc + len) L S σ) = some r := h
    obtain ⟨j, na, ci, v, o, as, rest, fs, r1, hp, rfl, hn, hs, hr, hc, h⟩ := x_iv_inv h
    have h1 : ∀ u ∈ (.ref o :: as), x_rk K u := fun u hu => hS u (by
      rcases List.mem_cons.mp hu with rfl | hu
      · simp
      · simp [hu])
    have h2 : ∀ u ∈ rest, x_rk K u := fun u hu => hS u (by simp [hu])
    intro z hz
    rw [hk _ _ _ _ h hL (x_rk_rs h2) z hz, hC _ _ _ _ _ (Or.inl hp) _ _ _ hc h1 z hz]
  | invokestatic q =>
    have h : x_is C (pool q) S σ (fun S σ => k (pc + len) L S σ) = some r := h
    obtain ⟨j, na, ci, v, as, rest, r1, hp, rfl, hn, hr, hc, h⟩ := x_is_inv h
    have h1 : ∀ u ∈ as, x_rk K u := fun u hu => hS u (by simp [hu])
    have h2 : ∀ u ∈ rest, x_rk K u := fun u hu => hS u (by simp [hu])
    intro z hz
    rw [hk _ _ _ _ h hL (x_rk_rs h2) z hz, hC _ _ _ _ _ (Or.inr hp) _ _ _ hc h1 z hz]
  | ldc q =>
    have h : x_oc (pool q) S (fun S => k (pc + len) L S σ) = some r := h
    rcases x_oc_inv h with ⟨o, n1, n2, hp, h⟩ | ⟨o, n1, n2, b, hp, h⟩
    · exact hk _ _ _ _ h hL (x_rk_c (fun z hz => by cases hz; exact hsta _ _ _ _ _ hp) hS)
    · exact hk _ _ _ _ h hL (x_rk_c (x_rk_i K _) hS)
  | ldc_w q =>
    have h : x_ow (pool q) S (fun S => k (pc + len) L S σ) = some r := h
    obtain ⟨o, n1, n2, b, hp, h⟩ := x_ow_inv h
    exact hk _ _ _ _ h hL (x_rk_c (x_rk_i K _) hS)
  | getstatic q =>
    have h : x_os (pool q) S (fun S => k (pc + len) L S σ) = some r := h
    obtain ⟨o, n1, n2, hp, h⟩ := x_os_inv h
    exact hk _ _ _ _ h hL (x_rk_c (fun z hz => by cases hz; exact hsta _ _ _ _ _ hp) hS)
  | ireturn =>
    have h : x_ir rt S σ = some r := h
    obtain ⟨x, rfl, rfl, hrt⟩ := x_ir_inv h
    intro z hz; rfl
  | return_ =>
    have h : x_vr rt S σ = some r := h
    obtain ⟨rfl, rfl, rfl⟩ := x_vr_inv h
    intro z hz; rfl
  | _ => exact absurd h (by simp [x_step])
def x_frk (Sm K : Nat → Bool) (i : xI) : Bool := i.2.2.2.2.2.1.all fun q => if q.2.1 = 0 then ((List.range 27).all fun o => !K o || (match x_sh[o]? with
  | some (.inl c) => !(Nat.beq c.1 q.2.2.1) || (match c.2[q.2.2.2.1]? with
    | some (some a) => K a
    | _ => true)
  | _ => true)) else (!(Nat.beq q.2.1 1 || Nat.beq q.2.1 2) || Sm q.2.2.1)
def x_frs (Sm K : Nat → Bool) : Bool := (List.range 172).all fun j => !Sm j || (match x_tn x_tab j with
  | some i => x_frk Sm K i
  | none => true)
theorem x_frame2 {Sm K : Nat → Bool} (hS : x_frs Sm K = true) (h9 : ∀ o, 900 ≤ o → K o = true) :
    ∀ (d j : Nat) (as : List Value) (σ : xS) (r : xR), Sm j = true → x_M d j as σ = some r → (∀ v ∈ as, x_rk K v) → ∀ o, K o = false → r.2 o = σ o := by
  intro d
  induction d with
  | zero => intro j as σ r _ h; cases h
  | succ d ih =>
    intro j as σ r hSj h has
    change (match Nat.beq j x_jF with
      | true => x_fw as σ
      | false => (match x_tn x_tab j with
        | none => none
        | some i => (match x_rm i.2.2.1 as with
          | true => x_run (x_b i (x_M d)) 5000 0 (lv_args 0 as) [] σ
          | false => none))) = some r at h
    split at h
    · intro o ho
      rw [x_fw_same h]
    · split at h
      · cases h
      · rename_i i hj
        have hi : i ∈ x_tab := x_tn_mem hj
        have h172 : x_tab.length = 172 := by decide +kernel
        have hlt : j < 172 := by rw [← h172]; exact x_tn_lt hj
        have h1 := List.all_eq_true.mp hS j (List.mem_range.mpr hlt)
        rw [hSj, hj] at h1
        have h1 : x_frk Sm K i = true := h1
        unfold x_frk at h1
        split at h
        · have hcode : ∀ q ∈ i.2.2.2.2.2.2.1, decode i.2.1 q.1 = .ok (q.2.2.1, q.2.1) ∧ x_ok q.1 q.2 = true := fun q hq => by
            have h5 := List.all_eq_true.mp (x_ck1_all i hi) q hq
            rw [Bool.and_eq_true, decide_eq_true_eq] at h5
            exact h5
          refine x_run_ok (G := fun _ L S σ => (∀ q ∈ L, x_rk K q.2) → (∀ v ∈ S, x_rk K v) → ∀ o, K o = false → r.2 o = σ o) ?_ 5000 0 (lv_args 0 as) [] σ h (x_args_rk has) (fun v hv => by cases hv)
          intro k0 hk0
          refine x_blk_ok (cc := i.2.1) ?_ hcode ?_ hk0 300
          · intro k o pc L S σ hk _ _ hst
            refine x_step_fr2 ?_ (fun q o n1 n2 b hp => h9 o (x_sta3 i hi q o n1 n2 b hp)) ?_ hk hst
            · intro q n b o ci fs f a hp hK hs hf
              have h2 := List.all_eq_true.mp h1 _ (x_pl_mem hp)
              rw [if_pos rfl] at h2
              have ho : o < 27 := (List.getElem?_eq_some_iff.mp hs).1
              have h3 := List.all_eq_true.mp h2 o (List.mem_range.mpr ho)
              rw [hK, hs] at h3
              have h3 : (!(Nat.beq ci ci) || (match fs[f]? with
                | some (some a) => K a
                | _ => true)) = true := h3
              rw [hf, Nat.beq_refl] at h3
              exact h3
            · intro q j' na ci v hp
              have h2 : Sm j' = true := by
                rcases hp with hp | hp
                · have h3 := List.all_eq_true.mp h1 _ (x_pl_mem hp)
                  simpa using h3
                · have h3 := List.all_eq_true.mp h1 _ (x_pl_mem hp)
                  simpa using h3
              exact fun as σ r hr => ih j' as σ r h2 hr
          · intro pc L L' S σ hsub hg hL
            exact hg (fun q hq => hL q (hsub q hq))
        · cases h
