/-! Numbers: every Int32 of the two programs is nI of a natural; literals, arithmetic, comparisons -/
/-- not by rfl for simp: the kernel would run the machine to compare -/
theorem bnd0 (a : xR) (f : xR → Option xR) : (some a).bind f = f a := by
  cases a
  rfl
theorem n_lit (n : Nat) : (OfNat.ofNat n : Int32) = nI n := rfl
theorem n_and {a m : Nat} (k : Nat) (hm : m = 2 ^ k - 1) (hm2 : m < 2 ^ 31) (ha : a < 2 ^ 32) : nI a &&& nI m = nI (a % 2 ^ k) := pk_andN ha k (by rw [pk_tn (by omega)]; exact hm)
theorem n_and1 {a : Nat} (ha : a < 4294967296) : nI a &&& 1 = nI (a % 2) := n_and (m := 1) 1 rfl (by decide) ha
theorem n_and7 {a : Nat} (ha : a < 4294967296) : nI a &&& 7 = nI (a % 8) := n_and (m := 7) 3 rfl (by decide) ha
theorem n_and15 {a : Nat} (ha : a < 4294967296) : nI a &&& 15 = nI (a % 16) := n_and (m := 15) 4 rfl (by decide) ha
theorem n_and31 {a : Nat} (ha : a < 4294967296) : nI a &&& 31 = nI (a % 32) := n_and (m := 31) 5 rfl (by decide) ha
theorem n_and63 {a : Nat} (ha : a < 4294967296) : nI a &&& 63 = nI (a % 64) := n_and (m := 63) 6 rfl (by decide) ha
theorem n_and255 {a : Nat} (ha : a < 4294967296) : nI a &&& 255 = nI (a % 256) := n_and (m := 255) 8 rfl (by decide) ha
theorem n_and511 {a : Nat} (ha : a < 4294967296) : nI a &&& 511 = nI (a % 512) := n_and (m := 511) 9 rfl (by decide) ha
theorem n_and65535 {a : Nat} (ha : a < 4294967296) : nI a &&& (Int32.ofNat 65535) = nI (a % 65536) := n_and (m := 65535) 16 rfl (by decide) ha
theorem n_mod (a : Nat) : nI a = nI (a % 4294967296) := by
  apply Int32.toBitVec_inj.mp
  show BitVec.ofNat 32 a = BitVec.ofNat 32 (a % 4294967296)
  apply BitVec.eq_of_toNat_eq
  simp
theorem n_subw {a b : Nat} (hb : b < 4294967296) : nI a - nI b = nI (a + (4294967296 - b)) := by
  apply Int32.toBitVec_inj.mp
  apply BitVec.eq_of_toNat_eq
  show (BitVec.ofNat 32 a - BitVec.ofNat 32 b).toNat = (BitVec.ofNat 32 (a + (4294967296 - b))).toNat
  simp only [BitVec.toNat_sub, BitVec.toNat_ofNat]
  omega
theorem n_shl8 {a : Nat} (ha : a < 65536) : nI a <<< ((8 : Int32) &&& 31) = nI (a * 256) := pk_shlN ((8 : Int32) &&& 31) 8 (by decide) (by omega)
theorem n_shl (k : Nat) (s : Int32) (hs : (s.toBitVec.smod 32).toNat = k) {a : Nat} (ha : a * 2 ^ k < 2 ^ 32) : nI a <<< s = nI (a * 2 ^ k) := pk_shlN s k hs ha
theorem n_shr (k : Nat) (s : Int32) (hs : (s.toBitVec.smod 32).toNat = k) {a : Nat} (ha : a < 2 ^ 31) : nI a >>> s = nI (a / 2 ^ k) := pk_shrN ha s k hs
theorem n_shr1 {a : Nat} (ha : a < 2147483648) : nI a >>> ((1 : Int32) &&& 31) = nI (a / 2) := n_shr 1 _ (by decide) ha
theorem n_shr2 {a : Nat} (ha : a < 2147483648) : nI a >>> ((2 : Int32) &&& 31) = nI (a / 4) := n_shr 2 _ (by decide) ha
theorem n_shr3 {a : Nat} (ha : a < 2147483648) : nI a >>> ((3 : Int32) &&& 31) = nI (a / 8) := n_shr 3 _ (by decide) ha
theorem n_shr4 {a : Nat} (ha : a < 2147483648) : nI a >>> ((4 : Int32) &&& 31) = nI (a / 16) := n_shr 4 _ (by decide) ha
theorem n_shr6 {a : Nat} (ha : a < 2147483648) : nI a >>> ((6 : Int32) &&& 31) = nI (a / 64) := n_shr 6 _ (by decide) ha
theorem n_shr7 {a : Nat} (ha : a < 2147483648) : nI a >>> ((7 : Int32) &&& 31) = nI (a / 128) := n_shr 7 _ (by decide) ha
theorem n_shr8 {a : Nat} (ha : a < 2147483648) : nI a >>> ((8 : Int32) &&& 31) = nI (a / 256) := n_shr 8 _ (by decide) ha
theorem n_shr16 {a : Nat} (ha : a < 2147483648) : nI a >>> ((16 : Int32) &&& 31) = nI (a / 65536) := n_shr 16 _ (by decide) ha
theorem n_shl1 {a : Nat} (ha : a < 65536) : nI a <<< ((1 : Int32) &&& 31) = nI (a * 2) := n_shl 1 _ (by decide) (by omega)
theorem n_shl2 {a : Nat} (ha : a < 65536) : nI a <<< ((2 : Int32) &&& 31) = nI (a * 4) := n_shl 2 _ (by decide) (by omega)
theorem n_shl4 {a : Nat} (ha : a < 65536) : nI a <<< ((4 : Int32) &&& 31) = nI (a * 16) := n_shl 4 _ (by decide) (by omega)
theorem n_shl6 {a : Nat} (ha : a < 65536) : nI a <<< ((6 : Int32) &&& 31) = nI (a * 64) := n_shl 6 _ (by decide) (by omega)
theorem n_shl7 {a : Nat} (ha : a < 65536) : nI a <<< ((7 : Int32) &&& 31) = nI (a * 128) := n_shl 7 _ (by decide) (by omega)
theorem n_bv (a : Nat) : (nI a).toBitVec = BitVec.ofNat 32 a := rfl
theorem n_inj {x y : Int32} (h : x.toBitVec = y.toBitVec) : x = y := Int32.toBitVec_inj.mp h
theorem n_or {a b k : Nat} (hb : b < 2 ^ k) : nI (a * 2 ^ k) ||| nI b = nI (a * 2 ^ k + b) := by
  apply n_inj
  show BitVec.ofNat 32 (a * 2 ^ k) ||| BitVec.ofNat 32 b = BitVec.ofNat 32 (a * 2 ^ k + b)
  rw [← BitVec.ofNat_or]
  rw [Nat.mul_comm a (2 ^ k), ← Nat.two_pow_add_eq_or_of_lt hb]
theorem n_or8 {a b : Nat} (hb : b < 256) : nI (a * 256) ||| nI b = nI (a * 256 + b) := n_or (k := 8) hb
theorem n_or8' {a b : Nat} (hb : b < 256) : nI b ||| nI (a * 256) = nI (a * 256 + b) := by rw [Int32.or_comm]; exact n_or8 hb
theorem n_eq {a b : Nat} (ha : a < 2147483648) (hb : b < 2147483648) : (nI a = nI b) = (a = b) := propext (nI_eq ha hb)
theorem n_lt {a b : Nat} (ha : a < 2147483648) (hb : b < 2147483648) : (nI a < nI b) = (a < b) := propext (nI_ltI ha hb)
theorem n_le {a b : Nat} (ha : a < 2147483648) (hb : b < 2147483648) : (nI a ≤ nI b) = (a ≤ b) := propext (nI_leI ha hb)
theorem n_cl {a : Nat} (ha : a < 2147483648) : (nI a).toNatClampNeg = a := nI_clamp ha
theorem n_div {a d : Nat} (ha : a < 2147483648) (h0 : 0 < d) (hd : d < 2147483648) : nI a / nI d = nI (a / d) := pk_div ha h0 hd
theorem n_rem {a d : Nat} (ha : a < 2147483648) (h0 : 0 < d) (hd : d < 2147483648) : nI a - nI a / nI d * nI d = nI (a % d) := pk_rem ha h0 hd
theorem n_sub {a b : Nat} (h : b ≤ a) : nI a - nI b = nI (a - b) := pk_sub h
theorem n_ok {a n : Nat} (h : a < n) (hn : n < 2147483648) : ¬ (nI a < 0 ∨ n ≤ (nI a).toNatClampNeg) := nI_in h hn
theorem ok511 (a : Int32) : ¬ (a &&& 511 < 0 ∨ 512 ≤ (a &&& 511).toNatClampNeg) := pk_andIn a 9 rfl (by decide)
theorem ix511 {a : Nat} (ha : a < 4294967296) : (nI a &&& 511).toNatClampNeg = a % 512 := by rw [n_and511 ha, n_cl (by omega)]
theorem x_up_eq (σ : xS) (o k : Nat) (v : Int32) : x_up σ o k v o = upd (σ o) k v := by unfold x_up; rw [if_pos rfl]
theorem x_up_at (σ : xS) (o k : Nat) (v : Int32) : x_up σ o k v o k = v := by rw [x_up_eq]; exact pk_us
theorem x_up_off {σ : xS} {o k : Nat} {v : Int32} {j : Nat} (h : ¬ j = k) : x_up σ o k v o j = σ o j := by rw [x_up_eq]; exact pk_un h
theorem x_up_oth {σ : xS} {o k : Nat} {v : Int32} {a : Nat} (h : ¬ a = o) (j : Nat) : x_up σ o k v a j = σ a j := congrFun (x_up_ne h) j
/-! the same with every literal as nI of a numeral -/
theorem L0 : (0 : Int32) = nI 0 := rfl
theorem L1 : (1 : Int32) = nI 1 := rfl
theorem L2 : (2 : Int32) = nI 2 := rfl
theorem L3 : (3 : Int32) = nI 3 := rfl
theorem L4 : (4 : Int32) = nI 4 := rfl
theorem L5 : (5 : Int32) = nI 5 := rfl
theorem L6 : (6 : Int32) = nI 6 := rfl
theorem L7 : (7 : Int32) = nI 7 := rfl
theorem L8 : (8 : Int32) = nI 8 := rfl
theorem L9 : (9 : Int32) = nI 9 := rfl
theorem L10 : (10 : Int32) = nI 10 := rfl
theorem L11 : (11 : Int32) = nI 11 := rfl
theorem L13 : (13 : Int32) = nI 13 := rfl
theorem L15 : (15 : Int32) = nI 15 := rfl
theorem L16 : (16 : Int32) = nI 16 := rfl
theorem L17 : (17 : Int32) = nI 17 := rfl
theorem L18 : (18 : Int32) = nI 18 := rfl
theorem L19 : (19 : Int32) = nI 19 := rfl
theorem L20 : (20 : Int32) = nI 20 := rfl
theorem L21 : (21 : Int32) = nI 21 := rfl
theorem L22 : (22 : Int32) = nI 22 := rfl
theorem L23 : (23 : Int32) = nI 23 := rfl
theorem L26 : (26 : Int32) = nI 26 := rfl
theorem L31 : (31 : Int32) = nI 31 := rfl
theorem L32 : (32 : Int32) = nI 32 := rfl
theorem L36 : (36 : Int32) = nI 36 := rfl
theorem L40 : (40 : Int32) = nI 40 := rfl
theorem L48 : (48 : Int32) = nI 48 := rfl
theorem L62 : (62 : Int32) = nI 62 := rfl
theorem L63 : (63 : Int32) = nI 63 := rfl
theorem L64 : (64 : Int32) = nI 64 := rfl
theorem L65 : (65 : Int32) = nI 65 := rfl
theorem L67 : (67 : Int32) = nI 67 := rfl
theorem L68 : (68 : Int32) = nI 68 := rfl
theorem L69 : (69 : Int32) = nI 69 := rfl
theorem L72 : (72 : Int32) = nI 72 := rfl
theorem L73 : (73 : Int32) = nI 73 := rfl
theorem L76 : (76 : Int32) = nI 76 := rfl
theorem L79 : (79 : Int32) = nI 79 := rfl
theorem L80 : (80 : Int32) = nI 80 := rfl
theorem L82 : (82 : Int32) = nI 82 := rfl
theorem L83 : (83 : Int32) = nI 83 := rfl
theorem L84 : (84 : Int32) = nI 84 := rfl
theorem L86 : (86 : Int32) = nI 86 := rfl
theorem L87 : (87 : Int32) = nI 87 := rfl
theorem L96 : (96 : Int32) = nI 96 := rfl
theorem L118 : (118 : Int32) = nI 118 := rfl
theorem L126 : (126 : Int32) = nI 126 := rfl
theorem L128 : (128 : Int32) = nI 128 := rfl
theorem L153 : (153 : Int32) = nI 153 := rfl
theorem L229 : (229 : Int32) = nI 229 := rfl
theorem L255 : (255 : Int32) = nI 255 := rfl
theorem L256 : (256 : Int32) = nI 256 := rfl
theorem L496 : (496 : Int32) = nI 496 := rfl
theorem L511 : (511 : Int32) = nI 511 := rfl
theorem L512 : (512 : Int32) = nI 512 := rfl
theorem L1000 : (1000 : Int32) = nI 1000 := rfl
theorem L65535 : Int32.ofNat 65535 = nI 65535 := rfl
theorem Lm1 : (-1 : Int32) = nI 4294967295 := rfl
theorem N_and1 {a : Nat} (ha : a < 4294967296) : nI a &&& nI 1 = nI (a % 2) := n_and (m := 1) 1 rfl (by decide) ha
theorem N_and7 {a : Nat} (ha : a < 4294967296) : nI a &&& nI 7 = nI (a % 8) := n_and (m := 7) 3 rfl (by decide) ha
theorem N_and15 {a : Nat} (ha : a < 4294967296) : nI a &&& nI 15 = nI (a % 16) := n_and (m := 15) 4 rfl (by decide) ha
theorem N_and31 {a : Nat} (ha : a < 4294967296) : nI a &&& nI 31 = nI (a % 32) := n_and (m := 31) 5 rfl (by decide) ha
theorem N_and63 {a : Nat} (ha : a < 4294967296) : nI a &&& nI 63 = nI (a % 64) := n_and (m := 63) 6 rfl (by decide) ha
theorem N_and255 {a : Nat} (ha : a < 4294967296) : nI a &&& nI 255 = nI (a % 256) := n_and (m := 255) 8 rfl (by decide) ha
theorem N_and511 {a : Nat} (ha : a < 4294967296) : nI a &&& nI 511 = nI (a % 512) := n_and (m := 511) 9 rfl (by decide) ha
theorem N_and65535 {a : Nat} (ha : a < 4294967296) : nI a &&& nI 65535 = nI (a % 65536) := n_and (m := 65535) 16 rfl (by decide) ha
theorem N_shr1 {a : Nat} (ha : a < 2147483648) : nI a >>> nI 1 = nI (a / 2) := n_shr 1 _ (by decide) ha
theorem N_shr2 {a : Nat} (ha : a < 2147483648) : nI a >>> nI 2 = nI (a / 4) := n_shr 2 _ (by decide) ha
theorem N_shr3 {a : Nat} (ha : a < 2147483648) : nI a >>> nI 3 = nI (a / 8) := n_shr 3 _ (by decide) ha
theorem N_shr4 {a : Nat} (ha : a < 2147483648) : nI a >>> nI 4 = nI (a / 16) := n_shr 4 _ (by decide) ha
theorem N_shr6 {a : Nat} (ha : a < 2147483648) : nI a >>> nI 6 = nI (a / 64) := n_shr 6 _ (by decide) ha
theorem N_shr7 {a : Nat} (ha : a < 2147483648) : nI a >>> nI 7 = nI (a / 128) := n_shr 7 _ (by decide) ha
theorem N_shr8 {a : Nat} (ha : a < 2147483648) : nI a >>> nI 8 = nI (a / 256) := n_shr 8 _ (by decide) ha
theorem N_shr16 {a : Nat} (ha : a < 2147483648) : nI a >>> nI 16 = nI (a / 65536) := n_shr 16 _ (by decide) ha
theorem N_shl1 {a : Nat} (ha : a < 65536) : nI a <<< nI 1 = nI (a * 2) := n_shl 1 _ (by decide) (by omega)
theorem N_shl2 {a : Nat} (ha : a < 65536) : nI a <<< nI 2 = nI (a * 4) := n_shl 2 _ (by decide) (by omega)
theorem N_shl4 {a : Nat} (ha : a < 65536) : nI a <<< nI 4 = nI (a * 16) := n_shl 4 _ (by decide) (by omega)
theorem N_shl6 {a : Nat} (ha : a < 65536) : nI a <<< nI 6 = nI (a * 64) := n_shl 6 _ (by decide) (by omega)
theorem N_shl7 {a : Nat} (ha : a < 65536) : nI a <<< nI 7 = nI (a * 128) := n_shl 7 _ (by decide) (by omega)
theorem N_shl8 {a : Nat} (ha : a < 65536) : nI a <<< nI 8 = nI (a * 256) := n_shl 8 _ (by decide) (by omega)
