/-! A field that no instruction of a set of methods writes keeps its number -/
set_option maxHeartbeats 4000000 in
set_option maxRecDepth 100000 in
theorem x_step_fd {sh : List xH} {ca : Nat → Option (List Int32)} {pool : Nat → Option xE} {nL rt : Nat} {C : xC} {k : xK} {o : xO} {pc : Nat} {L : xL} {S : List Value} {σ : xS} {r : xR} {o0 f0 c0 : Nat} {fs0 : List (Option Nat)} (hs0 : sh[o0]? = some (.inl (c0, fs0)))
    (hput : ∀ q n b, o.2.1 = .putfield q → ¬ pool q = some (0, c0, f0, n, b)) (hC : ∀ (q j na ci : Nat) (v : Bool), pool q = some (1, j, na, ci, v) ∨ pool q = some (2, j, na, ci, v) → ∀ (as : List Value) (σ : xS) (r : xR), C j as σ = some r → r.2 o0 f0 = σ o0 f0)
    (hk : ∀ pc L S σ, k pc L S σ = some r → r.2 o0 f0 = σ o0 f0) (h : x_step sh ca pool nL rt C k o pc L S σ = some r) : r.2 o0 f0 = σ o0 f0 := by
  obtain ⟨len, i, v, t, ts⟩ := o
  cases i with
  | iconst n => exact hk _ _ _ _ h
  | bipush n => exact hk _ _ _ _ h
  | sipush n => exact hk _ _ _ _ h
  | iload_n n =>
    obtain ⟨x, g, h⟩ := x_ldi_inv h
    exact hk _ _ _ _ h
  | iload n =>
    obtain ⟨x, g, h⟩ := x_ldi_inv h
    exact hk _ _ _ _ h
  | aload_n n =>
    obtain ⟨x, g, h⟩ := x_lda_inv h
    exact hk _ _ _ _ h
  | aload n =>
    obtain ⟨x, g, h⟩ := x_lda_inv h
    exact hk _ _ _ _ h
  | istore_n n =>
    obtain ⟨x, S', rfl, h⟩ := x_top_inv h
    obtain ⟨g, h⟩ := x_lt_inv h
    exact hk _ _ _ _ h
  | istore n =>
    obtain ⟨x, S', rfl, h⟩ := x_top_inv h
    obtain ⟨g, h⟩ := x_lt_inv h
    exact hk _ _ _ _ h
  | iinc n d =>
    obtain ⟨x, g, h⟩ := x_ldi_inv h
    obtain ⟨g2, h⟩ := x_lt_inv h
    exact hk _ _ _ _ h
  | iadd =>
    have h : x_bin (fun x y => x + y) S (fun S => k (pc + len) L S σ) = some r := h
    obtain ⟨x, y, S', rfl, h⟩ := x_bin_inv h
    exact hk _ _ _ _ h
  | isub =>
    have h : x_bin (fun x y => x - y) S (fun S => k (pc + len) L S σ) = some r := h
    obtain ⟨x, y, S', rfl, h⟩ := x_bin_inv h
    exact hk _ _ _ _ h
  | imul =>
    have h : x_bin (fun x y => x * y) S (fun S => k (pc + len) L S σ) = some r := h
    obtain ⟨x, y, S', rfl, h⟩ := x_bin_inv h
    exact hk _ _ _ _ h
  | iand =>
    have h : x_bin (fun x y => x &&& y) S (fun S => k (pc + len) L S σ) = some r := h
    obtain ⟨x, y, S', rfl, h⟩ := x_bin_inv h
    exact hk _ _ _ _ h
  | ior =>
    have h : x_bin (fun x y => x ||| y) S (fun S => k (pc + len) L S σ) = some r := h
    obtain ⟨x, y, S', rfl, h⟩ := x_bin_inv h
    exact hk _ _ _ _ h
  | ixor =>
    have h : x_bin (fun x y => x ^^^ y) S (fun S => k (pc + len) L S σ) = some r := h
    obtain ⟨x, y, S', rfl, h⟩ := x_bin_inv h
    exact hk _ _ _ _ h
  | ishl =>
    have h : x_bin (fun x y => x <<< (y &&& 31)) S (fun S => k (pc + len) L S σ) = some r := h
    obtain ⟨x, y, S', rfl, h⟩ := x_bin_inv h
    exact hk _ _ _ _ h
  | ishr =>
    have h : x_bin (fun x y => x >>> (y &&& 31)) S (fun S => k (pc + len) L S σ) = some r := h
    obtain ⟨x, y, S', rfl, h⟩ := x_bin_inv h
    exact hk _ _ _ _ h
  | iushr =>
    have h : x_bin (fun x y => (x.toUInt32 >>> (y.toUInt32 &&& Int32.toUInt32 31)).toInt32) S (fun S => k (pc + len) L S σ) = some r := h
    obtain ⟨x, y, S', rfl, h⟩ := x_bin_inv h
    exact hk _ _ _ _ h
  | idiv =>
    have h : x_div (fun x y => x / y) S (fun S => k (pc + len) L S σ) = some r := h
    obtain ⟨x, y, S', rfl, hy, h⟩ := x_div_inv h
    exact hk _ _ _ _ h
  | irem =>
    have h : x_div (fun x y => x - x / y * y) S (fun S => k (pc + len) L S σ) = some r := h
    obtain ⟨x, y, S', rfl, hy, h⟩ := x_div_inv h
    exact hk _ _ _ _ h
  | dup =>
    obtain ⟨a, S', rfl, ha, h⟩ := x_d1_inv h
    exact hk _ _ _ _ h
  | pop =>
    obtain ⟨a, S', rfl, ha, h⟩ := x_d1_inv h
    exact hk _ _ _ _ h
  | dup_x1 =>
    obtain ⟨a, b, S', rfl, ha, hb2, h⟩ := x_d2_inv h
    exact hk _ _ _ _ h
  | dup2 =>
    obtain ⟨a, b, S', rfl, ha, hb2, h⟩ := x_d2_inv h
    exact hk _ _ _ _ h
  | ifCond cnd off =>
    obtain ⟨x, S', rfl, h⟩ := x_top_inv h
    cases cnd with
    | eq =>
      change (if x = 0 then _ else _) = some r at h
      split at h
      · exact hk _ _ _ _ h
      · exact hk _ _ _ _ h
    | ne =>
      change (if x = 0 then _ else _) = some r at h
      split at h
      · exact hk _ _ _ _ h
      · exact hk _ _ _ _ h
    | lt =>
      change (if x < 0 then _ else _) = some r at h
      split at h
      · exact hk _ _ _ _ h
      · exact hk _ _ _ _ h
    | ge =>
      change (if 0 ≤ x then _ else _) = some r at h
      split at h
      · exact hk _ _ _ _ h
      · exact hk _ _ _ _ h
    | gt =>
      change (if 0 < x then _ else _) = some r at h
      split at h
      · exact hk _ _ _ _ h
      · exact hk _ _ _ _ h
    | le =>
      change (if x ≤ 0 then _ else _) = some r at h
      split at h
      · exact hk _ _ _ _ h
      · exact hk _ _ _ _ h
  | if_icmp cnd off =>
    obtain ⟨x, y, S', rfl, h⟩ := x_two_inv h
    cases cnd with
    | eq =>
      change (if x = y then _ else _) = some r at h
      split at h
      · exact hk _ _ _ _ h
      · exact hk _ _ _ _ h
    | ne =>
      change (if x = y then _ else _) = some r at h
      split at h
      · exact hk _ _ _ _ h
      · exact hk _ _ _ _ h
    | lt =>
      change (if x < y then _ else _) = some r at h
      split at h
      · exact hk _ _ _ _ h
      · exact hk _ _ _ _ h
    | ge =>
      change (if y ≤ x then _ else _) = some r at h
      split at h
      · exact hk _ _ _ _ h
      · exact hk _ _ _ _ h
    | gt =>
      change (if y < x then _ else _) = some r at h
      split at h
      · exact hk _ _ _ _ h
      · exact hk _ _ _ _ h
    | le =>
      change (if x ≤ y then _ else _) = some r at h
      split at h
      · exact hk _ _ _ _ h
      · exact hk _ _ _ _ h
  | goto off => exact hk _ _ _ _ h
  | tableswitch d lo hi os =>
    obtain ⟨x, S', rfl, h⟩ := x_top_inv h
    rcases x_sw_inv h with ⟨j, q, g1, g2, g3⟩ | ⟨g1, g2⟩
    · exact hk _ _ _ _ g3
    · exact hk _ _ _ _ g2
  | lookupswitch d ps =>
    obtain ⟨x, S', rfl, h⟩ := x_top_inv h
    rcases x_sw_inv h with ⟨j, q, g1, g2, g3⟩ | ⟨g1, g2⟩
    · exact hk _ _ _ _ g3
    · exact hk _ _ _ _ g2
  | getfield q =>
    have h : x_gf sh (pool q) S σ (fun S => k (pc + len) L S σ) = some r := h
    obtain ⟨ci, g, n, b, o, S', fs, hp, rfl, hs, h⟩ := x_gf_inv h
    rcases h with ⟨hf, h⟩ | ⟨a, hf, h⟩
    · exact hk _ _ _ _ h
    · exact hk _ _ _ _ h
  | putfield q =>
    have h : x_pf sh (pool q) S σ (fun S σ => k (pc + len) L S σ) = some r := h
    obtain ⟨ci, g, n, x, o, S', fs, hp, rfl, hs, hf, h⟩ := x_pf_inv h
    rw [hk _ _ _ _ h]
    by_cases e : o0 = o
    · subst e
      have e2 : (Sum.inl (ci, fs) : xH) = Sum.inl (c0, fs0) := Option.some.inj (hs.symm.trans hs0)
      cases e2
      refine x_up_off (fun e => ?_)
      subst e
      exact hput q n true rfl hp
    · exact x_up_oth e f0
  | iaload =>
    have h : x_al sh ca false S σ (fun S => k (pc + len) L S σ) = some r := h
    obtain ⟨i, o, S', rfl, h2⟩ := x_al_inv h
    rcases h2 with ⟨n, hs, hi, h⟩ | ⟨-, q, hq, hi, h⟩
    · exact hk _ _ _ _ h
    · exact hk _ _ _ _ h
  | baload =>
    have h : x_al sh ca true S σ (fun S => k (pc + len) L S σ) = some r := h
    obtain ⟨i, o, S', rfl, h2⟩ := x_al_inv h
    rcases h2 with ⟨n, hs, hi, h⟩ | ⟨-, q, hq, hi, h⟩
    · exact hk _ _ _ _ h
    · exact hk _ _ _ _ h
  | iastore =>
    have h : x_as sh false S σ (fun S σ => k (pc + len) L S σ) = some r := h
    obtain ⟨x, i, o, S', n, rfl, hs, hi, h⟩ := x_as_inv h
    rw [hk _ _ _ _ h]
    refine x_up_oth (fun e => ?_) f0
    subst e
    cases hs.symm.trans hs0
  | bastore =>
    have h : x_as sh true S σ (fun S σ => k (pc + len) L S σ) = some r := h
    obtain ⟨x, i, o, S', n, rfl, hs, hi, h⟩ := x_as_inv h
    rw [hk _ _ _ _ h]
    refine x_up_oth (fun e => ?_) f0
    subst e
    cases hs.symm.trans hs0
  | invokevirtual q =>
    have h : x_iv sh C (pool q) S σ (fun S σ => k (pc + len) L S σ) = some r := h
    obtain ⟨j, na, ci, v, o, as, rest, fs, r1, hp, rfl, hn, hs, hr, hc, h⟩ := x_iv_inv h
    rw [hk _ _ _ _ h, hC q j na ci v (Or.inl hp) _ _ _ hc]
  | invokestatic q =>
    have h : x_is C (pool q) S σ (fun S σ => k (pc + len) L S σ) = some r := h
    obtain ⟨j, na, ci, v, as, rest, r1, hp, rfl, hn, hr, hc, h⟩ := x_is_inv h
    rw [hk _ _ _ _ h, hC q j na ci v (Or.inr hp) _ _ _ hc]
  | ldc q =>
    have h : x_oc (pool q) S (fun S => k (pc + len) L S σ) = some r := h
    rcases x_oc_inv h with ⟨o, n1, n2, hp, h⟩ | ⟨o, n1, n2, b, hp, h⟩
    · exact hk _ _ _ _ h
    · exact hk _ _ _ _ h
  | ldc_w q =>
    have h : x_ow (pool q) S (fun S => k (pc + len) L S σ) = some r := h
    obtain ⟨o, n1, n2, b, hp, h⟩ := x_ow_inv h
    exact hk _ _ _ _ h
  | getstatic q =>
    have h : x_os (pool q) S (fun S => k (pc + len) L S σ) = some r := h
    obtain ⟨o, n1, n2, hp, h⟩ := x_os_inv h
    exact hk _ _ _ _ h
  | ireturn =>
    have h : x_ir rt S σ = some r := h
    obtain ⟨x, rfl, rfl, hrt⟩ := x_ir_inv h
    rfl
  | return_ =>
    have h : x_vr rt S σ = some r := h
    obtain ⟨rfl, rfl, rfl⟩ := x_vr_inv h
    rfl
  | _ => exact absurd h (by simp [x_step])
theorem x_blk_fd {sh : List xH} {ca : Nat → Option (List Int32)} {pool : Nat → Option xE} {nL rt : Nat} {code : List (Nat × xO)} {cuts : List (Nat × List Nat)} {C : xC} {k0 : xK} {r : xR} {o0 f0 c0 : Nat} {fs0 : List (Option Nat)} (hs0 : sh[o0]? = some (.inl (c0, fs0)))
    (hput : ∀ z ∈ code, ∀ q n b, z.2.2.1 = .putfield q → ¬ pool q = some (0, c0, f0, n, b)) (hC : ∀ (q j na ci : Nat) (v : Bool), pool q = some (1, j, na, ci, v) ∨ pool q = some (2, j, na, ci, v) → ∀ (as : List Value) (σ : xS) (r : xR), C j as σ = some r → r.2 o0 f0 = σ o0 f0)
    (hk0 : ∀ pc L S σ, k0 pc L S σ = some r → r.2 o0 f0 = σ o0 f0) :
    ∀ (n pc : Nat) (L : xL) (S : List Value) (σ : xS), x_blk sh ca pool nL rt code cuts C k0 n pc L S σ = some r → r.2 o0 f0 = σ o0 f0 := by
  intro n
  induction n with
  | zero => intro pc L S σ h; cases h
  | succ n ih =>
    intro pc L S σ h
    change (match x_at code pc with
      | none => none
      | some o => x_step sh ca pool nL rt C (fun pc L S σ => match x_in cuts pc with
        | some live => k0 pc (x_nm L live) S σ
        | none => x_blk sh ca pool nL rt code cuts C k0 n pc L S σ) o pc L S σ) = some r at h
    split at h
    · cases h
    · rename_i o ho
      refine x_step_fd hs0 (hput _ (x_at_mem ho)) hC (fun pc L S σ h => ?_) h
      split at h
      · exact hk0 _ _ _ _ h
      · exact ih _ _ _ _ h
/-- may method i write field f0 of class c0, or call a method outside the set? -/
def x_fdk (Sm : Nat → Bool) (c0 f0 : Nat) (i : xI) : Bool := (i.2.2.2.2.2.2.1.all fun z => match z.2.2.1 with
  | .putfield q => (match x_pl i.2.2.2.2.2.1 q with
    | some e => !(Nat.beq e.1 0 && (Nat.beq e.2.1 c0 && Nat.beq e.2.2.1 f0))
    | none => true)
  | _ => true) && i.2.2.2.2.2.1.all fun q => !(Nat.beq q.2.1 1 || Nat.beq q.2.1 2) || Sm q.2.2.1
def x_fds (Sm : Nat → Bool) (c0 f0 : Nat) : Bool := (List.range 172).all fun j => !Sm j || (match x_tn x_tab j with
  | some i => x_fdk Sm c0 f0 i
  | none => true)
theorem x_tn_lt : ∀ {l : List xI} {n : Nat} {i : xI}, x_tn l n = some i → n < l.length
  | [], n, i, h => by cases h
  | a :: l, 0, i, h => by simp
  | a :: l, n + 1, i, h => by
    have := x_tn_lt (l := l) (n := n) h
    simp only [List.length_cons]
    omega
theorem x_fd {Sm : Nat → Bool} {o0 f0 c0 : Nat} {fs0 : List (Option Nat)} (hs0 : x_sh[o0]? = some (.inl (c0, fs0))) (hS : x_fds Sm c0 f0 = true) :
    ∀ (d j : Nat) (as : List Value) (σ : xS) (r : xR), Sm j = true → x_M d j as σ = some r → r.2 o0 f0 = σ o0 f0 := by
  intro d
  induction d with
  | zero => intro j as σ r _ h; cases h
  | succ d ih =>
    intro j as σ r hj h
    change (match Nat.beq j x_jF with
      | true => x_fw as σ
      | false => (match x_tn x_tab j with
        | none => none
        | some i => (match x_rm i.2.2.1 as with
          | true => x_run (x_b i (x_M d)) 5000 0 (lv_args 0 as) [] σ
          | false => none))) = some r at h
    split at h
    · rw [x_fw_same h]
    · split at h
      · cases h
      · rename_i i hi
        have h172 : x_tab.length = 172 := by decide +kernel
        have hlt : j < 172 := by rw [← h172]; exact x_tn_lt hi
        have h1 := List.all_eq_true.mp hS j (List.mem_range.mpr hlt)
        rw [hj, hi] at h1
        have h1 : x_fdk Sm c0 f0 i = true := h1
        unfold x_fdk at h1
        rw [Bool.and_eq_true] at h1
        split at h
        · refine x_run_ok (G := fun _ _ _ σ => r.2 o0 f0 = σ o0 f0) ?_ 5000 0 (lv_args 0 as) [] σ h
          intro k0 hk0
          refine x_blk_fd hs0 ?_ ?_ hk0 300
          · intro z hz q n b hzq hp
            have h2 := List.all_eq_true.mp h1.1 z hz
            rw [hzq] at h2
            have h2 : (match x_pl i.2.2.2.2.2.1 q with
              | some e => !(Nat.beq e.1 0 && (Nat.beq e.2.1 c0 && Nat.beq e.2.2.1 f0))
              | none => true) = true := h2
            rw [hp] at h2
            simp at h2
          · intro q j' na ci v hp
            have h2 : Sm j' = true := by
              rcases hp with hp | hp
              · have h3 := List.all_eq_true.mp h1.2 _ (x_pl_mem hp)
                simpa using h3
              · have h3 := List.all_eq_true.mp h1.2 _ (x_pl_mem hp)
                simpa using h3
            exact fun as σ r hr => ih j' as σ r h2 hr
        · cases h
