/-! the open inn at a place among those of least work -/
def kyN (T : AT) (i : Nat) : Nat := 8 * wkN T i T.1 + i
def cnN (T : AT) (x : Nat) : Nat → Nat
  | 0 => 0
  | i + 1 => cnN T x i + (if T.2.2.1 i = true ∧ kyN T i < x then 1 else 0)
theorem cnN_s (T : AT) (x i : Nat) : cnN T x (i + 1) = cnN T x i + (if T.2.2.1 i = true ∧ kyN T i < x then 1 else 0) := rfl
theorem cnN_0 (T : AT) : ∀ k, cnN T 0 k = 0
  | 0 => rfl
  | k + 1 => by rw [cnN_s, cnN_0 T k, if_neg (fun h => Nat.not_lt_zero _ h.2)]
theorem cnN_mono (T : AT) {x y : Nat} (h : x ≤ y) : ∀ k, cnN T x k ≤ cnN T y k
  | 0 => Nat.le_refl _
  | k + 1 => by
    have := cnN_mono T h k
    rw [cnN_s, cnN_s]
    by_cases h1 : T.2.2.1 k = true ∧ kyN T k < x
    · rw [if_pos h1, if_pos ⟨h1.1, by omega⟩]; omega
    · rw [if_neg h1]; split <;> omega
theorem cnN_step (T : AT) (w i : Nat) (hi : i < 8) : ∀ k, k ≤ 8 → cnN T (8 * w + i + 1) k = cnN T (8 * w + i) k + (if i < k ∧ T.2.2.1 i = true ∧ wkN T i T.1 = w then 1 else 0)
  | 0, _ => by rw [if_neg (by omega)]; rfl
  | k + 1, hk => by
    rw [cnN_s, cnN_s, cnN_step T w i hi k (by omega)]
    unfold kyN
    by_cases e : k = i
    · subst e
      rw [if_neg (show ¬ (k < k ∧ _) from fun h => absurd h.1 (Nat.lt_irrefl _))]
      by_cases h1 : T.2.2.1 k = true ∧ wkN T k T.1 = w
      · rw [if_pos ⟨h1.1, by omega⟩, if_neg (by omega), if_pos ⟨by omega, h1.1, h1.2⟩]
      · rw [if_neg (show ¬ (k < k + 1 ∧ _) from fun h => h1 h.2)]
        by_cases h2 : T.2.2.1 k = true ∧ 8 * wkN T k T.1 + k < 8 * w + k
        · rw [if_pos h2, if_pos ⟨h2.1, by omega⟩]
        · rw [if_neg h2, if_neg (fun h => by
            rcases Nat.lt_or_ge (8 * wkN T k T.1 + k) (8 * w + k) with q | q
            · exact h2 ⟨h.1, q⟩
            · exact h1 ⟨h.1, by omega⟩)]
    · have e1 : (8 * wkN T k T.1 + k < 8 * w + i + 1) ↔ (8 * wkN T k T.1 + k < 8 * w + i) := by omega
      have e2 : (i < k + 1) ↔ (i < k) := by omega
      simp only [e1, e2]
      omega
/-- the inns that serve -/
def goN (T : AT) (pl i : Nat) : Prop := T.2.2.1 i = true ∧ cnN T (kyN T i) 8 + 1 = pl
theorem goN_one {T : AT} {pl i j : Nat} (hi : i < 8) (hj : j < 8) (h1 : goN T pl i) (h2 : goN T pl j) : i = j := by
  have key : ∀ a b, a < 8 → b < 8 → goN T pl a → goN T pl b → ¬ kyN T a < kyN T b := by
    intro a b ha hb h1 h2 hlt
    have s := cnN_step T (wkN T a T.1) a ha 8 (by omega)
    rw [if_pos ⟨ha, h1.1, rfl⟩] at s
    have m := cnN_mono T (show 8 * wkN T a T.1 + a + 1 ≤ kyN T b from hlt) 8
    have p1 := h1.2
    have p2 := h2.2
    have s1 : cnN T (8 * wkN T a T.1 + a) 8 = cnN T (kyN T a) 8 := rfl
    omega
  have k1 := key i j hi hj h1 h2
  have k2 := key j i hj hi h2 h1
  unfold kyN at k1 k2
  omega
def leG (T : AT) (pl : Nat) : Nat → Int32
  | 0 => nM
  | k + 1 => if T.2.2.1 (7 - k) = true ∧ cnN T (kyN T (7 - k)) 8 + 1 = pl then nI (7 - k) else leG T pl k
def leN (T : AT) (pl : Nat) : Int32 := leG T pl 8
theorem leG_s (T : AT) (pl : Nat) : ∀ k, k ≤ 8 → (∃ i, 8 - k ≤ i ∧ i < 8 ∧ goN T pl i ∧ leG T pl k = nI i) ∨ ((∀ i, 8 - k ≤ i → i < 8 → ¬ goN T pl i) ∧ leG T pl k = nM)
  | 0, _ => Or.inr ⟨fun i h1 h2 => by omega, rfl⟩
  | k + 1, hk => by
    by_cases h : T.2.2.1 (7 - k) = true ∧ cnN T (kyN T (7 - k)) 8 + 1 = pl
    · exact Or.inl ⟨7 - k, by omega, by omega, h, if_pos h⟩
    · have e : leG T pl (k + 1) = leG T pl k := if_neg h
      rw [e]
      rcases leG_s T pl k (by omega) with ⟨i, h1, h2, h3, h4⟩ | ⟨h1, h2⟩
      · exact Or.inl ⟨i, by omega, h2, h3, h4⟩
      · refine Or.inr ⟨fun i q1 q2 => ?_, h2⟩
        by_cases e : i = 7 - k
        · rw [e]; exact h
        · exact h1 i (by omega) q2
theorem leN_hit {T : AT} {pl i : Nat} (hi : i < 8) (h : goN T pl i) : leN T pl = nI i := by
  rcases leG_s T pl 8 (by omega) with ⟨j, -, h2, h3, h4⟩ | ⟨h1, -⟩
  · rw [goN_one hi h2 h h3]; exact h4
  · exact absurd h (h1 i (by omega) hi)
theorem leN_none {T : AT} {pl : Nat} (h : ∀ i, i < 8 → ¬ goN T pl i) : leN T pl = nM := by
  rcases leG_s T pl 8 (by omega) with ⟨j, -, h2, h3, -⟩ | ⟨-, h2⟩
  · exact absurd h3 (h j h2)
  · exact h2
section
variable {u : St} {T : AT} {g : Nat → Bool}
theorem X2_least (H : CR u T g) (V : AV T g) {pl : Nat} (h1 : 1 ≤ pl) (h3 : pl ≤ 3) {post : Int32 → Prop} (hp : post (leN T pl)) : wp_X2_leastUsedInn u (nI pl) post := by
  have hn := v_n V
  have hc8 : ∀ x, cnN T x 8 ≤ 8 := by
    intro x
    have : ∀ k, cnN T x k ≤ k := by
      intro k
      induction k with
      | zero => exact Nat.le_refl _
      | succ k ih => rw [cnN_s]; split <;> omega
    exact this 8
  unfold wp_X2_leastUsedInn
  simp only [z0, z6]
  refine lpnA 7 (fun w x => x = nI (cnN T (8 * w) 8) ∧ cnN T (8 * w) 8 < pl) ?_ ?_ (by omega) ⟨by rw [cnN_0], by rw [cnN_0]; omega⟩
  · rintro K w x hw ⟨rfl, hlt⟩ hk
    simp (disch := omega) only [jn, Nat.reduceAdd, Nat.reduceSub, Nat.reduceMul, z0, z1, z2, z3, z4, z5, z6, z7, z8, z9, z10, z12, z16, z18, z24, z31, z33, z48, z49, z51, z53, z55, z57, z59, z60, z61, z63, z66, z97, z99, z111, z114, z115, z116, z118, z122, z126, z255, z854, z1000, z1111, z7143, z9999, z10000, zM, zMn, nI_add, pk_mul, zsub, zlt_t, zlt_f, zle_t, zle_f, zeq_t, zeq_f, zeM1, zeM2, zeM3, zltM, zleM, nI_clamp, zin, false_or, or_false, true_and, and_true, false_and, and_false, not_true_eq_false, not_false_eq_true, true_imp_iff, false_imp_iff, implies_true, if_true, if_false]
    refine lpnA 8 (fun i x => x = nI (cnN T (8 * w + i) 8) ∧ cnN T (8 * w + i) 8 < pl) ?_ ?_ (by omega) ⟨rfl, hlt⟩
    · rintro K2 i x hi ⟨rfl, hlt⟩ hk2
      have s := cnN_step T w i hi 8 (by omega)
      have b1 := hc8 (8 * w + i)
      have b2 := wkN_le T i T.1
      have s' : cnN T (8 * w + (i + 1)) 8 = cnN T (8 * w + i) 8 + (if i < 8 ∧ T.2.2.1 i = true ∧ wkN T i T.1 = w then 1 else 0) := s
      simp (disch := omega) only [jn, Nat.reduceAdd, Nat.reduceSub, Nat.reduceMul, z0, z1, z2, z3, z4, z5, z6, z7, z8, z9, z10, z12, z16, z18, z24, z31, z33, z48, z49, z51, z53, z55, z57, z59, z60, z61, z63, z66, z97, z99, z111, z114, z115, z116, z118, z122, z126, z255, z854, z1000, z1111, z7143, z9999, z10000, zM, zMn, nI_add, pk_mul, zsub, zlt_t, zlt_f, zle_t, zle_f, zeq_t, zeq_f, zeM1, zeM2, zeM3, zltM, zleM, nI_clamp, zin, false_or, or_false, true_and, and_true, false_and, and_false, not_true_eq_false, not_false_eq_true, true_imp_iff, false_imp_iff, implies_true, if_true, if_false, X2_hasOpen H, bI_0]
      cases ho : T.2.2.1 i
      · rw [if_neg (by rw [ho]; simp)] at s'
        simp only [jn, Nat.reduceAdd, Nat.reduceSub, Nat.reduceMul, z0, z1, z2, z3, z4, z5, z6, z7, z8, z9, z10, z12, z16, z18, z24, z31, z33, z48, z49, z51, z53, z55, z57, z59, z60, z61, z63, z66, z97, z99, z111, z114, z115, z116, z118, z122, z126, z255, z854, z1000, z1111, z7143, z9999, z10000, zM, zMn, nI_add, pk_mul, zsub, zlt_t, zlt_f, zle_t, zle_f, zeq_t, zeq_f, zeM1, zeM2, zeM3, zltM, zleM, nI_clamp, zin, false_or, or_false, true_and, and_true, false_and, and_false, not_true_eq_false, not_false_eq_true, true_imp_iff, false_imp_iff, implies_true, if_true, if_false, reduceCtorEq]
        exact hk2 _ ⟨by rw [s']; rfl, by omega⟩
      · simp only [jn, Nat.reduceAdd, Nat.reduceSub, Nat.reduceMul, z0, z1, z2, z3, z4, z5, z6, z7, z8, z9, z10, z12, z16, z18, z24, z31, z33, z48, z49, z51, z53, z55, z57, z59, z60, z61, z63, z66, z97, z99, z111, z114, z115, z116, z118, z122, z126, z255, z854, z1000, z1111, z7143, z9999, z10000, zM, zMn, nI_add, pk_mul, zsub, zlt_t, zlt_f, zle_t, zle_f, zeq_t, zeq_f, zeM1, zeM2, zeM3, zltM, zleM, nI_clamp, zin, false_or, or_false, true_and, and_true, false_and, and_false, not_true_eq_false, not_false_eq_true, true_imp_iff, false_imp_iff, implies_true, if_true, if_false, reduceCtorEq]
        refine X2_through H V hi ?_
        by_cases hw2 : wkN T i T.1 = w
        · rw [if_pos ⟨hi, ho, hw2⟩] at s'
          by_cases hpl : cnN T (8 * w + i) 8 + 1 = pl
          · simp (disch := omega) only [jn, Nat.reduceAdd, Nat.reduceSub, Nat.reduceMul, z0, z1, z2, z3, z4, z5, z6, z7, z8, z9, z10, z12, z16, z18, z24, z31, z33, z48, z49, z51, z53, z55, z57, z59, z60, z61, z63, z66, z97, z99, z111, z114, z115, z116, z118, z122, z126, z255, z854, z1000, z1111, z7143, z9999, z10000, zM, zMn, nI_add, pk_mul, zsub, zlt_t, zlt_f, zle_t, zle_f, zeq_t, zeq_f, zeM1, zeM2, zeM3, zltM, zleM, nI_clamp, zin, false_or, or_false, true_and, and_true, false_and, and_false, not_true_eq_false, not_false_eq_true, true_imp_iff, false_imp_iff, implies_true, if_true, if_false]
            rw [leN_hit hi ⟨ho, by unfold kyN; rw [hw2]; exact hpl⟩] at hp
            exact hp
          · simp (disch := omega) only [jn, Nat.reduceAdd, Nat.reduceSub, Nat.reduceMul, z0, z1, z2, z3, z4, z5, z6, z7, z8, z9, z10, z12, z16, z18, z24, z31, z33, z48, z49, z51, z53, z55, z57, z59, z60, z61, z63, z66, z97, z99, z111, z114, z115, z116, z118, z122, z126, z255, z854, z1000, z1111, z7143, z9999, z10000, zM, zMn, nI_add, pk_mul, zsub, zlt_t, zlt_f, zle_t, zle_f, zeq_t, zeq_f, zeM1, zeM2, zeM3, zltM, zleM, nI_clamp, zin, false_or, or_false, true_and, and_true, false_and, and_false, not_true_eq_false, not_false_eq_true, true_imp_iff, false_imp_iff, implies_true, if_true, if_false]
            exact hk2 _ ⟨by rw [s'], by omega⟩
        · rw [if_neg (fun q => hw2 q.2.2)] at s'
          simp (disch := omega) only [jn, Nat.reduceAdd, Nat.reduceSub, Nat.reduceMul, z0, z1, z2, z3, z4, z5, z6, z7, z8, z9, z10, z12, z16, z18, z24, z31, z33, z48, z49, z51, z53, z55, z57, z59, z60, z61, z63, z66, z97, z99, z111, z114, z115, z116, z118, z122, z126, z255, z854, z1000, z1111, z7143, z9999, z10000, zM, zMn, nI_add, pk_mul, zsub, zlt_t, zlt_f, zle_t, zle_f, zeq_t, zeq_f, zeM1, zeM2, zeM3, zltM, zleM, nI_clamp, zin, false_or, or_false, true_and, and_true, false_and, and_false, not_true_eq_false, not_false_eq_true, true_imp_iff, false_imp_iff, implies_true, if_true, if_false]
          exact hk2 _ ⟨by rw [s']; rfl, by omega⟩
    · rintro K2 x ⟨rfl, hlt⟩
      simp (disch := omega) only [jn, Nat.reduceAdd, Nat.reduceSub, Nat.reduceMul, z0, z1, z2, z3, z4, z5, z6, z7, z8, z9, z10, z12, z16, z18, z24, z31, z33, z48, z49, z51, z53, z55, z57, z59, z60, z61, z63, z66, z97, z99, z111, z114, z115, z116, z118, z122, z126, z255, z854, z1000, z1111, z7143, z9999, z10000, zM, zMn, nI_add, pk_mul, zsub, zlt_t, zlt_f, zle_t, zle_f, zeq_t, zeq_f, zeM1, zeM2, zeM3, zltM, zleM, nI_clamp, zin, false_or, or_false, true_and, and_true, false_and, and_false, not_true_eq_false, not_false_eq_true, true_imp_iff, false_imp_iff, implies_true, if_true, if_false]
      exact hk _ ⟨rfl, hlt⟩
  · rintro K x ⟨rfl, hlt⟩
    simp (disch := omega) only [jn, Nat.reduceAdd, Nat.reduceSub, Nat.reduceMul, z0, z1, z2, z3, z4, z5, z6, z7, z8, z9, z10, z12, z16, z18, z24, z31, z33, z48, z49, z51, z53, z55, z57, z59, z60, z61, z63, z66, z97, z99, z111, z114, z115, z116, z118, z122, z126, z255, z854, z1000, z1111, z7143, z9999, z10000, zM, zMn, nI_add, pk_mul, zsub, zlt_t, zlt_f, zle_t, zle_f, zeq_t, zeq_f, zeM1, zeM2, zeM3, zltM, zleM, nI_clamp, zin, false_or, or_false, true_and, and_true, false_and, and_false, not_true_eq_false, not_false_eq_true, true_imp_iff, false_imp_iff, implies_true, if_true, if_false]
    rw [leN_none (fun i hi hgo => ?_)] at hp
    · exact hp
    · have s := cnN_step T (wkN T i T.1) i hi 8 (by omega)
      rw [if_pos ⟨hi, hgo.1, rfl⟩] at s
      have b2 := wkN_le T i T.1
      have m := cnN_mono T (show 8 * wkN T i T.1 + i + 1 ≤ 8 * 7 by omega) 8
      have p1 := hgo.2
      have s1 : cnN T (8 * wkN T i T.1 + i) 8 = cnN T (kyN T i) 8 := rfl
      omega
end

