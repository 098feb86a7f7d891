/-! the numbers alone: arithmetic of nI, bits; the first family is the kit's own starting text -/
/-! ===== Int32 by its bits: bt x i ===== -/
def bt (x : Int32) (i : Nat) : Bool := x.toBitVec.getLsbD i
theorem b_ext {x y : Int32} (h : ∀ i, i < 32 → bt x i = bt y i) : x = y := Int32.toBitVec_inj.mp (BitVec.eq_of_getLsbD_eq (fun i hi => h i hi))
theorem b_or (x y : Int32) (i : Nat) : bt (x ||| y) i = (bt x i || bt y i) := by unfold bt; rw [Int32.toBitVec_or, BitVec.getLsbD_or]
theorem b_and (x y : Int32) (i : Nat) : bt (x &&& y) i = (bt x i && bt y i) := by unfold bt; rw [Int32.toBitVec_and, BitVec.getLsbD_and]
theorem b_xor (x y : Int32) (i : Nat) : bt (x ^^^ y) i = (bt x i ^^ bt y i) := by unfold bt; rw [Int32.toBitVec_xor, BitVec.getLsbD_xor]
theorem b_big {x : Int32} {i : Nat} (h : 32 ≤ i) : bt x i = false := BitVec.getLsbD_of_ge _ _ h
theorem b_255 (i : Nat) : bt 255 i = decide (i < 8) := by
  rcases Nat.lt_or_ge i 32 with h | h
  · exact (by decide +kernel : ∀ i, i < 32 → bt 255 i = decide (i < 8)) i h
  · rw [b_big h, decide_eq_false (by omega)]
theorem b_65535 (i : Nat) : bt 65535 i = decide (i < 16) := by
  rcases Nat.lt_or_ge i 32 with h | h
  · exact (by decide +kernel : ∀ i, i < 32 → bt 65535 i = decide (i < 16)) i h
  · rw [b_big h, decide_eq_false (by omega)]
theorem b_m1 : ∀ i, i < 32 → bt (-1) i = true := by decide +kernel
theorem b_0 (i : Nat) : bt 0 i = false := BitVec.getLsbD_zero
theorem s_l : ∀ n, n < 32 → ((nI n &&& 31).toBitVec.smod 32).toNat = n := by decide +kernel
theorem s_u : ∀ n, n < 32 → (((nI n).toUInt32 &&& Int32.toUInt32 31).toBitVec % 32).toNat = n := by decide +kernel
theorem b_shl (n : Nat) (hn : n < 32) (x : Int32) {i : Nat} (hi : i < 32) : bt (x <<< (nI n &&& 31)) i = (decide (n ≤ i) && bt x (i - n)) := by
  unfold bt
  rw [Int32.toBitVec_shiftLeft]
  show (x.toBitVec <<< ((nI n &&& 31).toBitVec.smod 32).toNat).getLsbD i = _
  rw [s_l n hn, BitVec.getLsbD_shiftLeft]
  rcases Nat.lt_or_ge i n with h | h
  · simp [h, Nat.not_le.mpr h]
  · simp [hi, h, Nat.not_lt.mpr h]
theorem b_ushr (n : Nat) (hn : n < 32) (x : Int32) (i : Nat) : bt ((x.toUInt32 >>> ((nI n).toUInt32 &&& Int32.toUInt32 31)).toInt32) i = bt x (n + i) := by
  show (x.toUInt32 >>> ((nI n).toUInt32 &&& Int32.toUInt32 31)).toBitVec.getLsbD i = x.toUInt32.toBitVec.getLsbD (n + i)
  rw [UInt32.toBitVec_shiftRight]
  show (x.toUInt32.toBitVec >>> (((nI n).toUInt32 &&& Int32.toUInt32 31).toBitVec % 32).toNat).getLsbD i = _
  rw [s_u n hn, BitVec.getLsbD_ushiftRight]
theorem b_sshr (n : Nat) (hn : n < 32) (x : Int32) {i : Nat} (hi : i < 32) : bt (x >>> (nI n &&& 31)) i = if n + i < 32 then bt x (n + i) else bt x 31 := by
  unfold bt
  rw [Int32.toBitVec_shiftRight]
  show (x.toBitVec.sshiftRight ((nI n &&& 31).toBitVec.smod 32).toNat).getLsbD i = _
  rw [s_l n hn, BitVec.getLsbD_sshiftRight, BitVec.msb_eq_getLsbD_last]
  simp [hi]
theorem b_shl8 (x : Int32) {i : Nat} (hi : i < 32) : bt (x <<< ((8 : Int32) &&& 31)) i = (decide (8 ≤ i) && bt x (i - 8)) := b_shl 8 (by omega) x hi
theorem b_shl16 (x : Int32) {i : Nat} (hi : i < 32) : bt (x <<< ((16 : Int32) &&& 31)) i = (decide (16 ≤ i) && bt x (i - 16)) := b_shl 16 (by omega) x hi
theorem b_shl24 (x : Int32) {i : Nat} (hi : i < 32) : bt (x <<< ((24 : Int32) &&& 31)) i = (decide (24 ≤ i) && bt x (i - 24)) := b_shl 24 (by omega) x hi
theorem b_sshr8 (x : Int32) {i : Nat} (hi : i < 32) : bt (x >>> ((8 : Int32) &&& 31)) i = if 8 + i < 32 then bt x (8 + i) else bt x 31 := b_sshr 8 (by omega) x hi

theorem z0 : (0 : Int32) = nI 0 := rfl
theorem z1 : (1 : Int32) = nI 1 := rfl
theorem z2 : (2 : Int32) = nI 2 := rfl
theorem z3 : (3 : Int32) = nI 3 := rfl
theorem z4 : (4 : Int32) = nI 4 := rfl
theorem z5 : (5 : Int32) = nI 5 := rfl
theorem z6 : (6 : Int32) = nI 6 := rfl
theorem z7 : (7 : Int32) = nI 7 := rfl
theorem z8 : (8 : Int32) = nI 8 := rfl
theorem z9 : (9 : Int32) = nI 9 := rfl
theorem z10 : (10 : Int32) = nI 10 := rfl
theorem z12 : (12 : Int32) = nI 12 := rfl
theorem z16 : (16 : Int32) = nI 16 := rfl
theorem z18 : (18 : Int32) = nI 18 := rfl
theorem z24 : (24 : Int32) = nI 24 := rfl
theorem z31 : (31 : Int32) = nI 31 := rfl
theorem z33 : (33 : Int32) = nI 33 := rfl
theorem z48 : (48 : Int32) = nI 48 := rfl
theorem z49 : (49 : Int32) = nI 49 := rfl
theorem z51 : (51 : Int32) = nI 51 := rfl
theorem z53 : (53 : Int32) = nI 53 := rfl
theorem z55 : (55 : Int32) = nI 55 := rfl
theorem z57 : (57 : Int32) = nI 57 := rfl
theorem z59 : (59 : Int32) = nI 59 := rfl
theorem z60 : (60 : Int32) = nI 60 := rfl
theorem z61 : (61 : Int32) = nI 61 := rfl
theorem z63 : (63 : Int32) = nI 63 := rfl
theorem z66 : (66 : Int32) = nI 66 := rfl
theorem z97 : (97 : Int32) = nI 97 := rfl
theorem z99 : (99 : Int32) = nI 99 := rfl
theorem z111 : (111 : Int32) = nI 111 := rfl
theorem z114 : (114 : Int32) = nI 114 := rfl
theorem z115 : (115 : Int32) = nI 115 := rfl
theorem z116 : (116 : Int32) = nI 116 := rfl
theorem z118 : (118 : Int32) = nI 118 := rfl
theorem z122 : (122 : Int32) = nI 122 := rfl
theorem z126 : (126 : Int32) = nI 126 := rfl
theorem z255 : (255 : Int32) = nI 255 := rfl
theorem z854 : (854 : Int32) = nI 854 := rfl
theorem z1000 : (1000 : Int32) = nI 1000 := rfl
theorem z1111 : (1111 : Int32) = nI 1111 := rfl
theorem z7143 : (7143 : Int32) = nI 7143 := rfl
theorem z9999 : (9999 : Int32) = nI 9999 := rfl
theorem z10000 : (10000 : Int32) = nI 10000 := rfl
def nM : Int32 := -1
theorem zM : (-1 : Int32) = nM := rfl
theorem zMn : -(nI 1) = nM := rfl
theorem nM_i : nM.toInt = -1 := by decide
theorem zsub {a b : Nat} (h : b ≤ a) : nI a - nI b = nI (a - b) := by
  have e : nI a = nI (a - b) + nI b := by rw [nI_add, Nat.sub_add_cancel h]
  rw [e, Int32.add_sub_cancel]
theorem zlt_t {a b : Nat} (h : a < b) (hb : b < 2147483648) : (nI a < nI b) = True := eq_true (nI_lt h hb)
theorem zlt_f {a b : Nat} (h : b ≤ a) (ha : a < 2147483648) : (nI a < nI b) = False := eq_false (nI_nlt h ha)
theorem zle_t {a b : Nat} (h : a ≤ b) (hb : b < 2147483648) : (nI a ≤ nI b) = True := eq_true (nI_le h hb)
theorem zle_f {a b : Nat} (h : b < a) (ha : a < 2147483648) : (nI a ≤ nI b) = False := eq_false (nI_ge h ha)
theorem zeq_t {a b : Nat} (h : a = b) : (nI a = nI b) = True := eq_true (by rw [h])
theorem zeq_f {a b : Nat} (h : a ≠ b) (ha : a < 2147483648) (hb : b < 2147483648) : (nI a = nI b) = False := eq_false (fun q => h ((nI_eq ha hb).mp q))
theorem zeq_i {a b : Nat} (ha : a < 2147483648) (hb : b < 2147483648) : (nI a = nI b) = (a = b) := propext (nI_eq ha hb)
theorem zlt_i {a b : Nat} (ha : a < 2147483648) (hb : b < 2147483648) : (nI a < nI b) = (a < b) := propext (nI_ltI ha hb)
theorem zle_i {a b : Nat} (ha : a < 2147483648) (hb : b < 2147483648) : (nI a ≤ nI b) = (a ≤ b) := propext (nI_leI ha hb)
theorem zeM1 {a : Nat} (h : a < 2147483648) : (nI a = nM) = False := eq_false (fun q => by have := congrArg Int32.toInt q; rw [nM_i, nI_toInt h] at this; omega)
theorem zeM2 {a : Nat} (h : a < 2147483648) : (nM = nI a) = False := eq_false (fun q => by have := congrArg Int32.toInt q; rw [nM_i, nI_toInt h] at this; omega)
theorem zeM3 : (nM = nM) = True := eq_true rfl
theorem zltM {a : Nat} (h : a < 2147483648) : (nM < nI a) = True := eq_true (by rw [Int32.lt_iff_toInt_lt, nM_i, nI_toInt h]; omega)
theorem zleM {a : Nat} (h : a < 2147483648) : (nI a ≤ nM) = False := eq_false (by rw [Int32.le_iff_toInt_le, nM_i, nI_toInt h]; omega)
theorem zin {n N : Nat} (h : n < N) (hN : N < 2147483648) : vp_in (nI n) N = True := eq_true (vp_in_nI h hN)
theorem zaM {a : Nat} (h : 1 ≤ a) : nI a + nM = nI (a - 1) := by
  obtain ⟨b, rfl⟩ : ∃ b, a = b + 1 := ⟨a - 1, by omega⟩
  exact pk_m1 b
def bI (b : Bool) : Int32 := if b then nI 1 else nI 0
theorem bI_0 {b : Bool} : (bI b = nI 0) = (b = false) := by cases b <;> simp [bI] <;> decide
theorem bI_1 {b : Bool} : (bI b = nI 1) = (b = true) := by cases b <;> simp [bI] <;> decide
theorem bI_t : bI true = nI 1 := rfl
theorem bI_f : bI false = nI 0 := rfl
theorem b_1 : ∀ i, i < 32 → bt 1 i = decide (i = 0) := by decide +kernel
theorem and1 (x : Int32) : (x &&& 1) = 0 ↔ bt x 0 = false := by
  constructor
  · intro h
    have := congrArg (fun q => bt q 0) h
    simp only [b_and, b_1 0 (by decide), b_0] at this
    simpa using this
  · intro h
    apply b_ext
    intro i hi
    rw [b_and, b_1 i hi, b_0]
    by_cases h0 : i = 0
    · rw [h0, h]; rfl
    · simp [h0]
theorem zop {m : Int32} {i : Nat} (hi : i < 31) : (((m >>> (nI i &&& nI 31)) &&& nI 1) = nI 0) = (bt m i = false) := by
  apply propext
  show ((m >>> (nI i &&& 31)) &&& 1) = 0 ↔ _
  rw [and1, b_sshr i (by omega) m (by decide), if_pos (by omega), Nat.add_zero]
theorem zon {m : Int32} {i j : Nat} (hi : i < 31) (hj : j < 31) : bt (m ||| (nI 1 <<< (nI i &&& nI 31))) j = if j = i then true else bt m j := by
  show bt (m ||| (1 <<< (nI i &&& 31))) j = _
  rw [b_or, b_shl i (by omega) 1 (by omega)]
  by_cases h : j = i
  · subst h; simp [b_1]
  · rw [if_neg h]
    by_cases h2 : i ≤ j
    · rw [b_1 _ (by omega), decide_eq_false (show ¬ j - i = 0 by omega)]; simp
    · simp [h2]
theorem zoff {m : Int32} {i j : Nat} (hi : i < 31) (hj : j < 31) : bt (m &&& ((nI 1 <<< (nI i &&& nI 31)) ^^^ nM)) j = if j = i then false else bt m j := by
  show bt (m &&& ((1 <<< (nI i &&& 31)) ^^^ (-1))) j = _
  rw [b_and, b_xor, b_m1 j (by omega), b_shl i (by omega) 1 (by omega)]
  by_cases h : j = i
  · subst h; simp [b_1]
  · rw [if_neg h]
    by_cases h2 : i ≤ j
    · rw [b_1 _ (by omega), decide_eq_false (show ¬ j - i = 0 by omega)]; simp
    · simp [h2]
theorem zrem {a : Nat} (ha : a < 2147483648) : nI a - nI a / nI 10000 * nI 10000 = nI (a % 10000) := pk_rem ha (by decide) (by decide)
def covN (b k : Nat) : Nat := (7 * b + k) % 10000
def uncN (b k : Nat) : Nat := 7143 * (b + 10000 - k) % 10000
theorem covN_lt (b k : Nat) : covN b k < 10000 := Nat.mod_lt _ (by decide)
theorem uncN_lt (b k : Nat) : uncN b k < 10000 := Nat.mod_lt _ (by decide)
theorem nI_ofInt (z : Nat) : Int32.ofInt (z : Int) = nI z := rfl
theorem ge0 (z : Int32) : (0 ≤ z) = (bt z 31 = false) := by
  apply propext
  rw [Int32.le_iff_toInt_le]
  show (0 : Int) ≤ z.toBitVec.toInt ↔ z.toBitVec.getLsbD 31 = false
  rw [BitVec.toInt_eq_msb_cond, BitVec.msb_eq_getLsbD_last]
  have := z.toBitVec.isLt
  cases hb : z.toBitVec.getLsbD (32 - 1)
  · simp [hb]
  · simp [hb]; omega
theorem xor_pos (x : Int32) : (nI 0 ≤ (x ^^^ nI 10000)) = (nI 0 ≤ x) := by
  show (0 ≤ (x ^^^ 10000)) = (0 ≤ x)
  rw [ge0, ge0, b_xor, show bt 10000 31 = false by decide, Bool.xor_false]
theorem fb_bmod {z : Int} (h1 : -2147483648 ≤ z) (h2 : z < 2147483648) : z.bmod (2 ^ 32) = z := by
  rw [Int.bmod_eq_of_le (by omega) (by omega)]
theorem zrN {x : Int32} {m : Nat} (h : m < 2147483648) (hx : x.toInt = -(m : Int)) : (x - x / nI 10000 * nI 10000).toInt = -((m % 10000 : Nat) : Int) := by
  have hd : (x / nI 10000).toInt = -((m / 10000 : Nat) : Int) := by
    rw [Int32.toInt_div, hx, nI_toInt (by decide), Int.neg_tdiv, Int.tdiv_eq_ediv_of_nonneg (by omega), fb_bmod (by omega) (by omega)]
    omega
  have hm : (x / nI 10000 * nI 10000).toInt = -((m / 10000 * 10000 : Nat) : Int) := by
    rw [Int32.toInt_mul, hd, nI_toInt (by decide), fb_bmod (by omega) (by omega)]
    omega
  rw [Int32.toInt_sub, hx, hm, fb_bmod (by omega) (by omega)]
  omega
theorem J_fm_pos {a : Nat} (h : a < 2147483648) {post : Int32 → Prop} (hp : post (nI (a % 10000))) : wp_J9_floorMod_7cf53 (nI a) (nI 10000) post := by
  unfold wp_J9_floorMod_7cf53
  refine ⟨by rw [z0, zeq_f (by decide) (by decide) (by decide)]; exact not_false, ?_, ?_⟩
  · intro _; rw [zrem h]; exact hp
  · intro hc
    rw [z0, xor_pos, zle_t (Nat.zero_le _) h] at hc
    exact absurd trivial hc
theorem J_fm_neg {x : Int32} {m : Nat} (h0 : 0 < m) (h : m < 2147483648) (hx : x.toInt = -(m : Int)) {post : Int32 → Prop} (hp : post (nI (if m % 10000 = 0 then 0 else 10000 - m % 10000))) : wp_J9_floorMod_7cf53 x (nI 10000) post := by
  unfold wp_J9_floorMod_7cf53
  have hr := zrN h hx
  refine ⟨by rw [z0, zeq_f (by decide) (by decide) (by decide)]; exact not_false, ?_, ?_⟩
  · intro hc
    rw [z0, xor_pos, Int32.le_iff_toInt_le, hx, nI_toInt (by decide)] at hc
    omega
  · intro _
    constructor
    · intro hz
      rw [hz] at hr ⊢
      have h1 : m % 10000 = 0 := by
        have : (0 : Int32).toInt = 0 := by decide
        omega
      rw [if_pos h1] at hp
      exact hp
    · intro hz
      have h1 : ¬ m % 10000 = 0 := by
        intro q
        apply hz
        apply Int32.toInt_inj.mp
        rw [hr, q]
        rfl
      rw [if_neg h1] at hp
      have e : x - x / nI 10000 * nI 10000 + nI 10000 = nI (10000 - m % 10000) := by
        apply Int32.toInt_inj.mp
        rw [Int32.toInt_add, hr, nI_toInt (by decide), nI_toInt (by omega), fb_bmod (by omega) (by omega)]
        omega
      rw [e]
      exact hp
theorem X3_covered {b k : Nat} (hb : b < 10000) (hk : k < 10000) {post : Int32 → Prop} (hp : post (nI (covN b k))) : wp_X3_covered (nI b) (nI k) post := by
  unfold wp_X3_covered
  rw [z7, z10000, pk_mul, nI_add]
  exact J_fm_pos (by omega) hp
theorem X3_uncovered {b k : Nat} (hb : b < 10000) (hk : k < 10000) {post : Int32 → Prop} (hp : post (nI (uncN b k))) : wp_X3_uncovered (nI b) (nI k) post := by
  unfold wp_X3_uncovered
  rw [z7143, z10000]
  unfold uncN at hp
  by_cases h : k ≤ b
  · rw [zsub h, pk_mul]
    refine J_fm_pos (by omega) ?_
    rw [show 7143 * (b + 10000 - k) % 10000 = 7143 * (b - k) % 10000 by omega] at hp
    exact hp
  · refine J_fm_neg (m := 7143 * (k - b)) (by omega) (by omega) ?_ ?_
    · rw [Int32.toInt_mul, Int32.toInt_sub, nI_toInt (by decide), nI_toInt (by omega), nI_toInt (by omega), fb_bmod (z := (b : Int) - k) (by omega) (by omega), fb_bmod (by omega) (by omega)]
      omega
    · rw [show (if 7143 * (k - b) % 10000 = 0 then 0 else 10000 - 7143 * (k - b) % 10000) = 7143 * (b + 10000 - k) % 10000 by split <;> omega]
      exact hp
