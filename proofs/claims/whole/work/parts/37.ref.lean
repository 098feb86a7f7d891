/-! the reference's rows against the state -/
def RR (f : Nat → Int32) (T : AT) (g : Nat → Bool) : Prop := f 0 = nI T.1 ∧ f 1 = nI T.2.1 ∧ f 2 = T.2.2.2.2.2.2.2.2.2.2.1 ∧ (∀ k, k < 5 → f (3 + k) = T.2.2.2.2.2.2.2.2.2.2.2 k) ∧ (∀ i, i < 8 → f (8 + i) = bI (T.2.2.1 i)) ∧ (∀ i, i < 8 → f (16 + i) = nI (T.2.2.2.1 i)) ∧ (∀ r p, r < T.1 → 1 ≤ p → p ≤ 3 → f (24 + 7 * r + p - 1) = nI (T.2.2.2.2.1 r p)) ∧ (∀ r p, r < T.1 → 1 ≤ p → p ≤ 3 → f (24 + 7 * r + 2 + p) = nI (T.2.2.2.2.2.1 r p)) ∧ (∀ r, r < T.1 → f (24 + 7 * r + 6) = nI (T.2.2.2.2.2.2.1 r)) ∧ (∀ j, j < T.2.1 → if g j then f (66 + 4 * j) = nM else ∀ w, w < 4 → f (66 + 4 * j + w) = nI (T.2.2.2.2.2.2.2.1 j w)) ∧ (∀ h, h < 4 → f (114 + h) = T.2.2.2.2.2.2.2.2.1 h) ∧ (∀ h, h < 4 → f (118 + h) = T.2.2.2.2.2.2.2.2.2.1 h)
section
variable {f : Nat → Int32} {T : AT} {g : Nat → Bool}
theorem r_n (H : RR f T g) : f 0 = nI T.1 := H.1
theorem r_e (H : RR f T g) : f 1 = nI T.2.1 := H.2.1
theorem r_an (H : RR f T g) : f 2 = T.2.2.2.2.2.2.2.2.2.2.1 := H.2.2.1
theorem r_ct (H : RR f T g) {k : Nat} (h : k < 5) : f (3 + k) = T.2.2.2.2.2.2.2.2.2.2.2 k := H.2.2.2.1 k h
theorem r_op (H : RR f T g) {i : Nat} (h : i < 8) : f (8 + i) = bI (T.2.2.1 i) := H.2.2.2.2.1 i h
theorem r_key (H : RR f T g) {i : Nat} (h : i < 8) : f (16 + i) = nI (T.2.2.2.1 i) := H.2.2.2.2.2.1 i h
theorem r_ri (H : RR f T g) {r p : Nat} (h : r < T.1) (h1 : 1 ≤ p) (h2 : p ≤ 3) : f (24 + 7 * r + p - 1) = nI (T.2.2.2.2.1 r p) := H.2.2.2.2.2.2.1 r p h h1 h2
theorem r_rk (H : RR f T g) {r p : Nat} (h : r < T.1) (h1 : 1 ≤ p) (h2 : p ≤ 3) : f (24 + 7 * r + 2 + p) = nI (T.2.2.2.2.2.1 r p) := H.2.2.2.2.2.2.2.1 r p h h1 h2
theorem r_rh (H : RR f T g) {r : Nat} (h : r < T.1) : f (24 + 7 * r + 6) = nI (T.2.2.2.2.2.2.1 r) := H.2.2.2.2.2.2.2.2.1 r h
theorem r_ev (H : RR f T g) {j w : Nat} (h1 : j < T.2.1) (h2 : g j = false) (h3 : w < 4) : f (66 + 4 * j + w) = nI (T.2.2.2.2.2.2.2.1 j w) := by
  have h := H.2.2.2.2.2.2.2.2.2.1 j h1
  rw [h2] at h
  exact h w h3
theorem r_gone (H : RR f T g) {j : Nat} (h1 : j < T.2.1) (h2 : g j = true) : f (66 + 4 * j) = nM := by
  have h := H.2.2.2.2.2.2.2.2.2.1 j h1
  rw [h2] at h
  exact h
theorem r_lt (H : RR f T g) {h : Nat} (hh : h < 4) : f (114 + h) = T.2.2.2.2.2.2.2.2.1 h := H.2.2.2.2.2.2.2.2.2.2.1 h hh
theorem r_on (H : RR f T g) {h : Nat} (hh : h < 4) : f (118 + h) = T.2.2.2.2.2.2.2.2.2.1 h := H.2.2.2.2.2.2.2.2.2.2.2 h hh
end
theorem X4_in {x a b : Int32} {post : Int32 → Prop} : wp_X4_in x a b post = post (bI (decide (¬ x < a ∧ ¬ b < x))) := by
  unfold wp_X4_in
  by_cases h1 : x < a
  · simp [h1, bI_f, z0]
  · by_cases h2 : b < x
    · simp [h1, h2, bI_f, z0]
    · simp [h1, h2, bI_t, z1]
section
variable {u : Md} {T : AT} {g : Nat → Bool}
theorem X4_innOf (H : RR (M_s u) T g) (V : AV T g) {r p : Nat} (h : r < T.1) (h1 : 1 ≤ p) (h2 : p ≤ 3) {post : Int32 → Prop} : wp_X4_innOf u (nI r) (nI p) post = post (nI (T.2.2.2.2.1 r p)) := by
  have := v_n V
  unfold wp_X4_innOf
  simp (disch := omega) only [jn, Nat.reduceAdd, Nat.reduceSub, Nat.reduceMul, z0, z1, z2, z3, z4, z5, z6, z7, z8, z9, z10, z12, z16, z18, z24, z31, z33, z48, z49, z51, z53, z55, z57, z59, z60, z61, z63, z66, z97, z99, z111, z114, z115, z116, z118, z122, z126, z255, z854, z1000, z1111, z7143, z9999, z10000, zM, zMn, nI_add, pk_mul, zsub, zlt_t, zlt_f, zle_t, zle_f, zeq_t, zeq_f, zeM1, zeM2, zeM3, zltM, zleM, nI_clamp, zin, false_or, or_false, true_and, and_true, false_and, and_false, not_true_eq_false, not_false_eq_true, true_imp_iff, false_imp_iff, implies_true, if_true, if_false, r_ri H h h1 h2]
theorem X4_keyOf (H : RR (M_s u) T g) (V : AV T g) {r p : Nat} (h : r < T.1) (h1 : 1 ≤ p) (h2 : p ≤ 3) {post : Int32 → Prop} : wp_X4_keyOf u (nI r) (nI p) post = post (nI (T.2.2.2.2.2.1 r p)) := by
  have := v_n V
  unfold wp_X4_keyOf
  simp (disch := omega) only [jn, Nat.reduceAdd, Nat.reduceSub, Nat.reduceMul, z0, z1, z2, z3, z4, z5, z6, z7, z8, z9, z10, z12, z16, z18, z24, z31, z33, z48, z49, z51, z53, z55, z57, z59, z60, z61, z63, z66, z97, z99, z111, z114, z115, z116, z118, z122, z126, z255, z854, z1000, z1111, z7143, z9999, z10000, zM, zMn, nI_add, pk_mul, zsub, zlt_t, zlt_f, zle_t, zle_f, zeq_t, zeq_f, zeM1, zeM2, zeM3, zltM, zleM, nI_clamp, zin, false_or, or_false, true_and, and_true, false_and, and_false, not_true_eq_false, not_false_eq_true, true_imp_iff, false_imp_iff, implies_true, if_true, if_false, r_rk H h h1 h2]
theorem X4_hallOf (H : RR (M_s u) T g) (V : AV T g) {r : Nat} (h : r < T.1) {post : Int32 → Prop} : wp_X4_hallOf u (nI r) post = post (nI (T.2.2.2.2.2.2.1 r)) := by
  have := v_n V
  unfold wp_X4_hallOf
  simp (disch := omega) only [jn, Nat.reduceAdd, Nat.reduceSub, Nat.reduceMul, z0, z1, z2, z3, z4, z5, z6, z7, z8, z9, z10, z12, z16, z18, z24, z31, z33, z48, z49, z51, z53, z55, z57, z59, z60, z61, z63, z66, z97, z99, z111, z114, z115, z116, z118, z122, z126, z255, z854, z1000, z1111, z7143, z9999, z10000, zM, zMn, nI_add, pk_mul, zsub, zlt_t, zlt_f, zle_t, zle_f, zeq_t, zeq_f, zeM1, zeM2, zeM3, zltM, zleM, nI_clamp, zin, false_or, or_false, true_and, and_true, false_and, and_false, not_true_eq_false, not_false_eq_true, true_imp_iff, false_imp_iff, implies_true, if_true, if_false, r_rh H h]
theorem X4_of (H : RR (M_s u) T g) (V : AV T g) {j w : Nat} (h : j < T.2.1) (hg : g j = false) (h2 : w < 4) {post : Int32 → Prop} : wp_X4_of u (nI j) (nI w) post = post (nI (T.2.2.2.2.2.2.2.1 j w)) := by
  have := v_e V
  unfold wp_X4_of
  simp (disch := omega) only [jn, Nat.reduceAdd, Nat.reduceSub, Nat.reduceMul, z0, z1, z2, z3, z4, z5, z6, z7, z8, z9, z10, z12, z16, z18, z24, z31, z33, z48, z49, z51, z53, z55, z57, z59, z60, z61, z63, z66, z97, z99, z111, z114, z115, z116, z118, z122, z126, z255, z854, z1000, z1111, z7143, z9999, z10000, zM, zMn, nI_add, pk_mul, zsub, zlt_t, zlt_f, zle_t, zle_f, zeq_t, zeq_f, zeM1, zeM2, zeM3, zltM, zleM, nI_clamp, zin, false_or, or_false, true_and, and_true, false_and, and_false, not_true_eq_false, not_false_eq_true, true_imp_iff, false_imp_iff, implies_true, if_true, if_false, r_ev H h hg h2]
theorem X4_open (H : RR (M_s u) T g) {i : Nat} (h : i < 8) {post : Int32 → Prop} : wp_X4_isOpenNow u (nI i) post = post (bI (T.2.2.1 i)) := by
  unfold wp_X4_isOpenNow
  simp (disch := omega) only [jn, Nat.reduceAdd, Nat.reduceSub, Nat.reduceMul, z0, z1, z2, z3, z4, z5, z6, z7, z8, z9, z10, z12, z16, z18, z24, z31, z33, z48, z49, z51, z53, z55, z57, z59, z60, z61, z63, z66, z97, z99, z111, z114, z115, z116, z118, z122, z126, z255, z854, z1000, z1111, z7143, z9999, z10000, zM, zMn, nI_add, pk_mul, zsub, zlt_t, zlt_f, zle_t, zle_f, zeq_t, zeq_f, zeM1, zeM2, zeM3, zltM, zleM, nI_clamp, zin, false_or, or_false, true_and, and_true, false_and, and_false, not_true_eq_false, not_false_eq_true, true_imp_iff, false_imp_iff, implies_true, if_true, if_false, r_op H h, bI_1]
  cases T.2.2.1 i <;> simp [bI_t, bI_f]
theorem X4_placeOn (H : RR (M_s u) T g) (V : AV T g) {r i : Nat} (h : r < T.1) (hi : i < 8) {post : Int32 → Prop} (hp : post (nI (plN T r i))) : wp_X4_placeOn u (nI i) (nI r) post := by
  have := v_ri V h (p := 1) (by omega) (by omega)
  have := v_ri V h (p := 2) (by omega) (by omega)
  have := v_ri V h (p := 3) (by omega) (by omega)
  unfold wp_X4_placeOn
  refine ⟨5, ?_⟩
  unfold plN at hp
  by_cases h1 : T.2.2.2.2.1 r 1 = i
  · simp (disch := omega) only [lpc, jn, Nat.reduceAdd, Nat.reduceSub, Nat.reduceMul, z0, z1, z2, z3, z4, z5, z6, z7, z8, z9, z10, z12, z16, z18, z24, z31, z33, z48, z49, z51, z53, z55, z57, z59, z60, z61, z63, z66, z97, z99, z111, z114, z115, z116, z118, z122, z126, z255, z854, z1000, z1111, z7143, z9999, z10000, zM, zMn, nI_add, pk_mul, zsub, zlt_t, zlt_f, zle_t, zle_f, zeq_t, zeq_f, zeM1, zeM2, zeM3, zltM, zleM, nI_clamp, zin, false_or, or_false, true_and, and_true, false_and, and_false, not_true_eq_false, not_false_eq_true, true_imp_iff, false_imp_iff, implies_true, if_true, if_false, X4_innOf H V h]
    simpa [h1] using hp
  · by_cases h2 : T.2.2.2.2.1 r 2 = i
    · simp (disch := omega) only [lpc, jn, Nat.reduceAdd, Nat.reduceSub, Nat.reduceMul, z0, z1, z2, z3, z4, z5, z6, z7, z8, z9, z10, z12, z16, z18, z24, z31, z33, z48, z49, z51, z53, z55, z57, z59, z60, z61, z63, z66, z97, z99, z111, z114, z115, z116, z118, z122, z126, z255, z854, z1000, z1111, z7143, z9999, z10000, zM, zMn, nI_add, pk_mul, zsub, zlt_t, zlt_f, zle_t, zle_f, zeq_t, zeq_f, zeM1, zeM2, zeM3, zltM, zleM, nI_clamp, zin, false_or, or_false, true_and, and_true, false_and, and_false, not_true_eq_false, not_false_eq_true, true_imp_iff, false_imp_iff, implies_true, if_true, if_false, X4_innOf H V h]
      simpa [h1, h2] using hp
    · by_cases h3 : T.2.2.2.2.1 r 3 = i
      · simp (disch := omega) only [lpc, jn, Nat.reduceAdd, Nat.reduceSub, Nat.reduceMul, z0, z1, z2, z3, z4, z5, z6, z7, z8, z9, z10, z12, z16, z18, z24, z31, z33, z48, z49, z51, z53, z55, z57, z59, z60, z61, z63, z66, z97, z99, z111, z114, z115, z116, z118, z122, z126, z255, z854, z1000, z1111, z7143, z9999, z10000, zM, zMn, nI_add, pk_mul, zsub, zlt_t, zlt_f, zle_t, zle_f, zeq_t, zeq_f, zeM1, zeM2, zeM3, zltM, zleM, nI_clamp, zin, false_or, or_false, true_and, and_true, false_and, and_false, not_true_eq_false, not_false_eq_true, true_imp_iff, false_imp_iff, implies_true, if_true, if_false, X4_innOf H V h]
        simpa [h1, h2, h3] using hp
      · simp (disch := omega) only [lpc, jn, Nat.reduceAdd, Nat.reduceSub, Nat.reduceMul, z0, z1, z2, z3, z4, z5, z6, z7, z8, z9, z10, z12, z16, z18, z24, z31, z33, z48, z49, z51, z53, z55, z57, z59, z60, z61, z63, z66, z97, z99, z111, z114, z115, z116, z118, z122, z126, z255, z854, z1000, z1111, z7143, z9999, z10000, zM, zMn, nI_add, pk_mul, zsub, zlt_t, zlt_f, zle_t, zle_f, zeq_t, zeq_f, zeM1, zeM2, zeM3, zltM, zleM, nI_clamp, zin, false_or, or_false, true_and, and_true, false_and, and_false, not_true_eq_false, not_false_eq_true, true_imp_iff, false_imp_iff, implies_true, if_true, if_false, X4_innOf H V h]
        simpa [h1, h2, h3] using hp
theorem X4_stands (H : RR (M_s u) T g) (V : AV T g) {r : Nat} (h : r < T.1) {post : Int32 → Prop} (hp : post (bI (stN T r))) : wp_X4_standsNow u (nI r) post := by
  have := v_ri V h (p := 1) (by omega) (by omega)
  have := v_ri V h (p := 2) (by omega) (by omega)
  have := v_ri V h (p := 3) (by omega) (by omega)
  unfold wp_X4_standsNow
  simp (disch := omega) only [jn, Nat.reduceAdd, Nat.reduceSub, Nat.reduceMul, z0, z1, z2, z3, z4, z5, z6, z7, z8, z9, z10, z12, z16, z18, z24, z31, z33, z48, z49, z51, z53, z55, z57, z59, z60, z61, z63, z66, z97, z99, z111, z114, z115, z116, z118, z122, z126, z255, z854, z1000, z1111, z7143, z9999, z10000, zM, zMn, nI_add, pk_mul, zsub, zlt_t, zlt_f, zle_t, zle_f, zeq_t, zeq_f, zeM1, zeM2, zeM3, zltM, zleM, nI_clamp, zin, false_or, or_false, true_and, and_true, false_and, and_false, not_true_eq_false, not_false_eq_true, true_imp_iff, false_imp_iff, implies_true, if_true, if_false, X4_innOf H V h, X4_open H, bI_0]
  unfold stN at hp
  cases h1 : T.2.2.1 (T.2.2.2.2.1 r 1) <;> cases h2 : T.2.2.1 (T.2.2.2.2.1 r 2) <;> cases h3 : T.2.2.1 (T.2.2.2.2.1 r 3) <;> simp [h1, h2, h3, bI_t, bI_f] at hp ⊢ <;> exact hp
theorem X4_seen (H : RR (M_s u) T g) (V : AV T g) {r i s : Nat} (h : r < T.1) (hi : i < 8) (hs : s < 2) {post : Int32 → Prop} (hp : post (seN T i r s)) : wp_X4_seen u (nI i) (nI r) (nI s) post := by
  unfold wp_X4_seen
  refine X4_placeOn H V h hi ?_
  have h3 := plN_le (T := T) (r := r) (i := i)
  have hn := v_n V
  have hh := v_rh V h
  unfold seN at hp
  generalize plN T r i = q at *
  rcases (show q = 0 ∨ q = 1 ∨ q = 2 ∨ q = 3 by omega) with rfl | rfl | rfl | rfl <;> rcases (show s = 0 ∨ s = 1 by omega) with rfl | rfl <;> simp only [if_pos, if_neg, Nat.reduceEqDiff, Nat.reduceAdd, Nat.reduceSub, reduceIte] at hp ⊢ <;> simp (disch := omega) only [jn, Nat.reduceAdd, Nat.reduceSub, Nat.reduceMul, z0, z1, z2, z3, z4, z5, z6, z7, z8, z9, z10, z12, z16, z18, z24, z31, z33, z48, z49, z51, z53, z55, z57, z59, z60, z61, z63, z66, z97, z99, z111, z114, z115, z116, z118, z122, z126, z255, z854, z1000, z1111, z7143, z9999, z10000, zM, zMn, nI_add, pk_mul, zsub, zlt_t, zlt_f, zle_t, zle_f, zeq_t, zeq_f, zeM1, zeM2, zeM3, zltM, zleM, nI_clamp, zin, false_or, or_false, true_and, and_true, false_and, and_false, not_true_eq_false, not_false_eq_true, true_imp_iff, false_imp_iff, implies_true, if_true, if_false, X4_innOf H V h, X4_hallOf H V h] <;> exact hp
theorem X4_isInn {x : Int32} {post : Int32 → Prop} : wp_X4_isInn x post = post (bI (decide (¬ x < nI 0 ∧ ¬ nI 7 < x))) := by
  unfold wp_X4_isInn
  rw [X4_in, z0, z7]
theorem X4_isHall {x : Int32} {post : Int32 → Prop} : wp_X4_isHall x post = post (bI (decide (¬ x < nI 0 ∧ ¬ nI 3 < x))) := by
  unfold wp_X4_isHall
  rw [X4_in, z0, z3]
theorem X4_isBody {x : Int32} {post : Int32 → Prop} : wp_X4_isBody x post = post (bI (decide (¬ x < nI 0 ∧ ¬ nI 9999 < x))) := by
  unfold wp_X4_isBody
  rw [X4_in, z0, z9999]
theorem X4_isRoad (H : RR (M_s u) T g) {x : Int32} {post : Int32 → Prop} : wp_X4_isRoad u x post = post (bI (decide (¬ x < nI 0 ∧ ¬ (nI T.1 - nI 1) < x))) := by
  unfold wp_X4_isRoad
  rw [X4_in]
  simp (disch := omega) only [jn, Nat.reduceAdd, Nat.reduceSub, Nat.reduceMul, z0, z1, z2, z3, z4, z5, z6, z7, z8, z9, z10, z12, z16, z18, z24, z31, z33, z48, z49, z51, z53, z55, z57, z59, z60, z61, z63, z66, z97, z99, z111, z114, z115, z116, z118, z122, z126, z255, z854, z1000, z1111, z7143, z9999, z10000, zM, zMn, nI_add, pk_mul, zsub, zlt_t, zlt_f, zle_t, zle_f, zeq_t, zeq_f, zeM1, zeM2, zeM3, zltM, zleM, nI_clamp, zin, false_or, or_false, true_and, and_true, false_and, and_false, not_true_eq_false, not_false_eq_true, true_imp_iff, false_imp_iff, implies_true, if_true, if_false, r_n H]
theorem X4_isEnv (H : RR (M_s u) T g) {x : Int32} {post : Int32 → Prop} : wp_X4_isEnvelope u x post = post (bI (decide (¬ x < nI 0 ∧ ¬ (nI T.2.1 - nI 1) < x))) := by
  unfold wp_X4_isEnvelope
  rw [X4_in]
  simp (disch := omega) only [jn, Nat.reduceAdd, Nat.reduceSub, Nat.reduceMul, z0, z1, z2, z3, z4, z5, z6, z7, z8, z9, z10, z12, z16, z18, z24, z31, z33, z48, z49, z51, z53, z55, z57, z59, z60, z61, z63, z66, z97, z99, z111, z114, z115, z116, z118, z122, z126, z255, z854, z1000, z1111, z7143, z9999, z10000, zM, zMn, nI_add, pk_mul, zsub, zlt_t, zlt_f, zle_t, zle_f, zeq_t, zeq_f, zeM1, zeM2, zeM3, zltM, zleM, nI_clamp, zin, false_or, or_false, true_and, and_true, false_and, and_false, not_true_eq_false, not_false_eq_true, true_imp_iff, false_imp_iff, implies_true, if_true, if_false, r_e H]
theorem X4_known (H : RR (M_s u) T g) (V : AV T g) {i : Nat} (hi : i < 8) {post : Int32 → Prop} (hp : post (knN T i T.1)) : wp_X4_knownTo u (nI i) post := by
  have hn := v_n V
  unfold wp_X4_knownTo
  rw [z0]
  refine lpnA (2 * T.1) (fun j x => x = if j % 2 = 0 then knN T i (j / 2) else knN T i (j / 2) ||| biN (seN T i (j / 2) 0)) ?_ ?_ (Nat.zero_le _) rfl
  · rintro K j x hj rfl hk
    have ej : nI j - nI j / nI 2 * nI 2 = nI (j % 2) := pk_rem (by omega) (by decide) (by decide)
    have eq : nI j / nI 2 = nI (j / 2) := pk_div (by omega) (by decide) (by decide)
    simp (disch := omega) only [jn, Nat.reduceAdd, Nat.reduceSub, Nat.reduceMul, z0, z1, z2, z3, z4, z5, z6, z7, z8, z9, z10, z12, z16, z18, z24, z31, z33, z48, z49, z51, z53, z55, z57, z59, z60, z61, z63, z66, z97, z99, z111, z114, z115, z116, z118, z122, z126, z255, z854, z1000, z1111, z7143, z9999, z10000, zM, zMn, nI_add, pk_mul, zsub, zlt_t, zlt_f, zle_t, zle_f, zeq_t, zeq_f, zeM1, zeM2, zeM3, zltM, zleM, nI_clamp, zin, false_or, or_false, true_and, and_true, false_and, and_false, not_true_eq_false, not_false_eq_true, true_imp_iff, false_imp_iff, implies_true, if_true, if_false, r_n H, ej]
    rw [eq]
    refine X4_seen H V (by omega) hi (by omega) ?_
    rw [X4_isInn]
    have e9 : ∀ v : Int32, (bI (decide (¬ v < nI 0 ∧ ¬ nI 7 < v)) = nI 0 → K ((if j % 2 = 0 then knN T i (j / 2) else knN T i (j / 2) ||| biN (seN T i (j / 2) 0)) ||| nI 0) (nI (j + 1))) ∧ (¬ bI (decide (¬ v < nI 0 ∧ ¬ nI 7 < v)) = nI 0 → K ((if j % 2 = 0 then knN T i (j / 2) else knN T i (j / 2) ||| biN (seN T i (j / 2) 0)) ||| (nI 1 <<< (v &&& nI 31))) (nI (j + 1))) ↔ K ((if j % 2 = 0 then knN T i (j / 2) else knN T i (j / 2) ||| biN (seN T i (j / 2) 0)) ||| biN v) (nI (j + 1)) := by
      intro v
      unfold biN
      by_cases h : ¬ v < nI 0 ∧ ¬ nI 7 < v
      · rw [decide_eq_true h, if_pos h]
        simp (disch := omega) only [jn, Nat.reduceAdd, Nat.reduceSub, Nat.reduceMul, z0, z1, z2, z3, z4, z5, z6, z7, z8, z9, z10, z12, z16, z18, z24, z31, z33, z48, z49, z51, z53, z55, z57, z59, z60, z61, z63, z66, z97, z99, z111, z114, z115, z116, z118, z122, z126, z255, z854, z1000, z1111, z7143, z9999, z10000, zM, zMn, nI_add, pk_mul, zsub, zlt_t, zlt_f, zle_t, zle_f, zeq_t, zeq_f, zeM1, zeM2, zeM3, zltM, zleM, nI_clamp, zin, false_or, or_false, true_and, and_true, false_and, and_false, not_true_eq_false, not_false_eq_true, true_imp_iff, false_imp_iff, implies_true, if_true, if_false, bI_t]
      · rw [decide_eq_false h, if_neg h]
        simp (disch := omega) only [jn, Nat.reduceAdd, Nat.reduceSub, Nat.reduceMul, z0, z1, z2, z3, z4, z5, z6, z7, z8, z9, z10, z12, z16, z18, z24, z31, z33, z48, z49, z51, z53, z55, z57, z59, z60, z61, z63, z66, z97, z99, z111, z114, z115, z116, z118, z122, z126, z255, z854, z1000, z1111, z7143, z9999, z10000, zM, zMn, nI_add, pk_mul, zsub, zlt_t, zlt_f, zle_t, zle_f, zeq_t, zeq_f, zeM1, zeM2, zeM3, zltM, zleM, nI_clamp, zin, false_or, or_false, true_and, and_true, false_and, and_false, not_true_eq_false, not_false_eq_true, true_imp_iff, false_imp_iff, implies_true, if_true, if_false, bI_f]
    rw [e9]
    refine hk _ ?_
    rcases Nat.mod_two_eq_zero_or_one j with h2 | h2
    · rw [if_pos h2, h2, if_neg (by omega), show (j + 1) / 2 = j / 2 by omega]
    · rw [if_neg (by omega), h2, if_pos (by omega), show (j + 1) / 2 = j / 2 + 1 by omega]
      show _ = knN T i (j / 2) ||| (_ ||| _)
      rw [Int32.or_assoc]
  · rintro K x rfl
    simp (disch := omega) only [jn, Nat.reduceAdd, Nat.reduceSub, Nat.reduceMul, z0, z1, z2, z3, z4, z5, z6, z7, z8, z9, z10, z12, z16, z18, z24, z31, z33, z48, z49, z51, z53, z55, z57, z59, z60, z61, z63, z66, z97, z99, z111, z114, z115, z116, z118, z122, z126, z255, z854, z1000, z1111, z7143, z9999, z10000, zM, zMn, nI_add, pk_mul, zsub, zlt_t, zlt_f, zle_t, zle_f, zeq_t, zeq_f, zeM1, zeM2, zeM3, zltM, zleM, nI_clamp, zin, false_or, or_false, true_and, and_true, false_and, and_false, not_true_eq_false, not_false_eq_true, true_imp_iff, false_imp_iff, implies_true, if_true, if_false, r_n H]
    rw [if_pos (by omega), show 2 * T.1 / 2 = T.1 by omega]
    exact hp
theorem X4_arrives (H : RR (M_s u) T g) (V : AV T g) {j : Nat} (hj : j < T.2.1) (hg : g j = false) {cl : Int32} {op : Nat → Bool} (hop : ∀ k, k < 8 → op k = (T.2.2.1 k && !decide (nI k = cl))) {post : Int32 → Prop} (hp : post (arN T op j)) : wp_X4_arrivesIn u (nI j) cl post := by
  have he := v_e V
  have hn := v_n V
  obtain ⟨hr, -, hd⟩ := v_ev V hj hg
  have q1 := v_ri V hr (p := 1) (by omega) (by omega)
  have q2 := v_ri V hr (p := 2) (by omega) (by omega)
  have q3 := v_ri V hr (p := 3) (by omega) (by omega)
  have m1 := hop _ q1
  have m2 := hop _ q2
  have m3 := hop _ q3
  unfold wp_X4_arrivesIn
  simp (disch := omega) only [jn, Nat.reduceAdd, Nat.reduceSub, Nat.reduceMul, z0, z1, z2, z3, z4, z5, z6, z7, z8, z9, z10, z12, z16, z18, z24, z31, z33, z48, z49, z51, z53, z55, z57, z59, z60, z61, z63, z66, z97, z99, z111, z114, z115, z116, z118, z122, z126, z255, z854, z1000, z1111, z7143, z9999, z10000, zM, zMn, nI_add, pk_mul, zsub, zlt_t, zlt_f, zle_t, zle_f, zeq_t, zeq_f, zeM1, zeM2, zeM3, zltM, zleM, nI_clamp, zin, false_or, or_false, true_and, and_true, false_and, and_false, not_true_eq_false, not_false_eq_true, true_imp_iff, false_imp_iff, implies_true, if_true, if_false, X4_of H V hj hg]
  unfold arN blk at hp
  generalize T.2.2.2.2.2.2.2.1 j 1 = p at *
  generalize T.2.2.2.2.2.2.2.1 j 3 = d at *
  have hpp : p = 0 ∨ p = 1 ∨ p = 2 ∨ p = 3 ∨ p = 4 := by omega
  rw [m1, m2, m3] at hp
  rcases hd with ⟨rfl, hd⟩ | ⟨rfl, hd⟩
  · simp (disch := omega) only [jn, Nat.reduceAdd, Nat.reduceSub, Nat.reduceMul, z0, z1, z2, z3, z4, z5, z6, z7, z8, z9, z10, z12, z16, z18, z24, z31, z33, z48, z49, z51, z53, z55, z57, z59, z60, z61, z63, z66, z97, z99, z111, z114, z115, z116, z118, z122, z126, z255, z854, z1000, z1111, z7143, z9999, z10000, zM, zMn, nI_add, pk_mul, zsub, zlt_t, zlt_f, zle_t, zle_f, zeq_t, zeq_f, zeM1, zeM2, zeM3, zltM, zleM, nI_clamp, zin, false_or, or_false, true_and, and_true, false_and, and_false, not_true_eq_false, not_false_eq_true, true_imp_iff, false_imp_iff, implies_true, if_true, if_false]
    refine ⟨5, ?_⟩
    rcases (show p = 0 ∨ p = 1 ∨ p = 2 ∨ p = 3 by omega) with rfl | rfl | rfl | rfl <;> simp (disch := omega) only [lpc, jn, Nat.reduceAdd, Nat.reduceSub, Nat.reduceMul, z0, z1, z2, z3, z4, z5, z6, z7, z8, z9, z10, z12, z16, z18, z24, z31, z33, z48, z49, z51, z53, z55, z57, z59, z60, z61, z63, z66, z97, z99, z111, z114, z115, z116, z118, z122, z126, z255, z854, z1000, z1111, z7143, z9999, z10000, zM, zMn, nI_add, pk_mul, zsub, zlt_t, zlt_f, zle_t, zle_f, zeq_t, zeq_f, zeM1, zeM2, zeM3, zltM, zleM, nI_clamp, zin, false_or, or_false, true_and, and_true, false_and, and_false, not_true_eq_false, not_false_eq_true, true_imp_iff, false_imp_iff, implies_true, if_true, if_false, X4_innOf H V hr, X4_open H, bI_0] <;> cases o1 : T.2.2.1 (T.2.2.2.2.1 (T.2.2.2.2.2.2.2.1 j 0) 1) <;> cases o2 : T.2.2.1 (T.2.2.2.2.1 (T.2.2.2.2.2.2.2.1 j 0) 2) <;> cases o3 : T.2.2.1 (T.2.2.2.2.1 (T.2.2.2.2.2.2.2.1 j 0) 3) <;> by_cases w1 : nI (T.2.2.2.2.1 (T.2.2.2.2.2.2.2.1 j 0) 1) = cl <;> by_cases w2 : nI (T.2.2.2.2.1 (T.2.2.2.2.2.2.2.1 j 0) 2) = cl <;> by_cases w3 : nI (T.2.2.2.2.1 (T.2.2.2.2.2.2.2.1 j 0) 3) = cl <;> simp [o1, o2, o3, w1, w2, w3] at hp ⊢ <;> exact hp
  · simp (disch := omega) only [jn, Nat.reduceAdd, Nat.reduceSub, Nat.reduceMul, z0, z1, z2, z3, z4, z5, z6, z7, z8, z9, z10, z12, z16, z18, z24, z31, z33, z48, z49, z51, z53, z55, z57, z59, z60, z61, z63, z66, z97, z99, z111, z114, z115, z116, z118, z122, z126, z255, z854, z1000, z1111, z7143, z9999, z10000, zM, zMn, nI_add, pk_mul, zsub, zlt_t, zlt_f, zle_t, zle_f, zeq_t, zeq_f, zeM1, zeM2, zeM3, zltM, zleM, nI_clamp, zin, false_or, or_false, true_and, and_true, false_and, and_false, not_true_eq_false, not_false_eq_true, true_imp_iff, false_imp_iff, implies_true, if_true, if_false]
    refine ⟨5, ?_⟩
    rcases (show p = 1 ∨ p = 2 ∨ p = 3 ∨ p = 4 by omega) with rfl | rfl | rfl | rfl <;> simp (disch := omega) only [lpc, jn, Nat.reduceAdd, Nat.reduceSub, Nat.reduceMul, z0, z1, z2, z3, z4, z5, z6, z7, z8, z9, z10, z12, z16, z18, z24, z31, z33, z48, z49, z51, z53, z55, z57, z59, z60, z61, z63, z66, z97, z99, z111, z114, z115, z116, z118, z122, z126, z255, z854, z1000, z1111, z7143, z9999, z10000, zM, zMn, nI_add, pk_mul, zsub, zlt_t, zlt_f, zle_t, zle_f, zeq_t, zeq_f, zeM1, zeM2, zeM3, zltM, zleM, nI_clamp, zin, false_or, or_false, true_and, and_true, false_and, and_false, not_true_eq_false, not_false_eq_true, true_imp_iff, false_imp_iff, implies_true, if_true, if_false, X4_innOf H V hr, X4_open H, bI_0] <;> cases o1 : T.2.2.1 (T.2.2.2.2.1 (T.2.2.2.2.2.2.2.1 j 0) 1) <;> cases o2 : T.2.2.1 (T.2.2.2.2.1 (T.2.2.2.2.2.2.2.1 j 0) 2) <;> cases o3 : T.2.2.1 (T.2.2.2.2.1 (T.2.2.2.2.2.2.2.1 j 0) 3) <;> by_cases w1 : nI (T.2.2.2.2.1 (T.2.2.2.2.2.2.2.1 j 0) 1) = cl <;> by_cases w2 : nI (T.2.2.2.2.1 (T.2.2.2.2.2.2.2.1 j 0) 2) = cl <;> by_cases w3 : nI (T.2.2.2.2.1 (T.2.2.2.2.2.2.2.1 j 0) 3) = cl <;> simp [o1, o2, o3, w1, w2, w3] at hp ⊢ <;> exact hp
theorem opB_cl {i : Nat} (hi : i < 8) : ∀ k, k < 8 → opB T.2.2.1 i k = (T.2.2.1 k && !decide (nI k = nI i)) := by
  intro k hk
  unfold opB
  by_cases h : k = i
  · rw [if_pos h, h]; simp
  · rw [if_neg h, decide_eq_false (by rw [zeq_f h (by omega) (by omega)]; exact not_false)]; simp
theorem op_cl : ∀ k, k < 8 → T.2.2.1 k = (T.2.2.1 k && !decide (nI k = nM)) := by
  intro k hk
  rw [decide_eq_false (by rw [zeM1 (by omega)]; exact not_false)]; simp
theorem X4_lost (H : RR (M_s u) T g0) (V : AV T g0) {i : Nat} (hi : i < 8) {post : Int32 → Prop} (hp : post (nI (lsN T (opB T.2.2.1 i) T.2.1))) : wp_X4_lostBy u (nI i) post := by
  have he := v_e V
  unfold wp_X4_lostBy
  rw [z0]
  refine lpnA T.2.1 (fun j x => x = nI (lsN T (opB T.2.2.1 i) j)) ?_ ?_ (Nat.zero_le _) rfl
  · rintro K j x hj rfl hk
    simp (disch := omega) only [jn, Nat.reduceAdd, Nat.reduceSub, Nat.reduceMul, z0, z1, z2, z3, z4, z5, z6, z7, z8, z9, z10, z12, z16, z18, z24, z31, z33, z48, z49, z51, z53, z55, z57, z59, z60, z61, z63, z66, z97, z99, z111, z114, z115, z116, z118, z122, z126, z255, z854, z1000, z1111, z7143, z9999, z10000, zM, zMn, nI_add, pk_mul, zsub, zlt_t, zlt_f, zle_t, zle_f, zeq_t, zeq_f, zeM1, zeM2, zeM3, zltM, zleM, nI_clamp, zin, false_or, or_false, true_and, and_true, false_and, and_false, not_true_eq_false, not_false_eq_true, true_imp_iff, false_imp_iff, implies_true, if_true, if_false, r_e H]
    refine X4_arrives H V hj rfl (opB_cl hi) ?_
    have h4 : nI (lsN T (opB T.2.2.1 i) (j + 1)) = nI (lsN T (opB T.2.2.1 i) j + (if arN T (opB T.2.2.1 i) j = nM then 1 else 0)) := rfl
    have hv := v_ev V hj rfl
    unfold envOk at hv
    rcases arN_M (T := T) (op := opB T.2.2.1 i) (j := j) (by omega) with h0 | ⟨k, hk4, h0⟩
    · rw [if_pos h0] at h4
      rw [h0]
      simp (disch := omega) only [jn, Nat.reduceAdd, Nat.reduceSub, Nat.reduceMul, z0, z1, z2, z3, z4, z5, z6, z7, z8, z9, z10, z12, z16, z18, z24, z31, z33, z48, z49, z51, z53, z55, z57, z59, z60, z61, z63, z66, z97, z99, z111, z114, z115, z116, z118, z122, z126, z255, z854, z1000, z1111, z7143, z9999, z10000, zM, zMn, nI_add, pk_mul, zsub, zlt_t, zlt_f, zle_t, zle_f, zeq_t, zeq_f, zeM1, zeM2, zeM3, zltM, zleM, nI_clamp, zin, false_or, or_false, true_and, and_true, false_and, and_false, not_true_eq_false, not_false_eq_true, true_imp_iff, false_imp_iff, implies_true, if_true, if_false]
      exact hk _ h4.symm
    · rw [if_neg (by rw [h0, zeM1 (by omega)]; exact not_false)] at h4
      rw [h0]
      simp (disch := omega) only [jn, Nat.reduceAdd, Nat.reduceSub, Nat.reduceMul, z0, z1, z2, z3, z4, z5, z6, z7, z8, z9, z10, z12, z16, z18, z24, z31, z33, z48, z49, z51, z53, z55, z57, z59, z60, z61, z63, z66, z97, z99, z111, z114, z115, z116, z118, z122, z126, z255, z854, z1000, z1111, z7143, z9999, z10000, zM, zMn, nI_add, pk_mul, zsub, zlt_t, zlt_f, zle_t, zle_f, zeq_t, zeq_f, zeM1, zeM2, zeM3, zltM, zleM, nI_clamp, zin, false_or, or_false, true_and, and_true, false_and, and_false, not_true_eq_false, not_false_eq_true, true_imp_iff, false_imp_iff, implies_true, if_true, if_false]
      exact hk _ h4.symm
  · rintro K x rfl
    simp (disch := omega) only [jn, Nat.reduceAdd, Nat.reduceSub, Nat.reduceMul, z0, z1, z2, z3, z4, z5, z6, z7, z8, z9, z10, z12, z16, z18, z24, z31, z33, z48, z49, z51, z53, z55, z57, z59, z60, z61, z63, z66, z97, z99, z111, z114, z115, z116, z118, z122, z126, z255, z854, z1000, z1111, z7143, z9999, z10000, zM, zMn, nI_add, pk_mul, zsub, zlt_t, zlt_f, zle_t, zle_f, zeq_t, zeq_f, zeM1, zeM2, zeM3, zltM, zleM, nI_clamp, zin, false_or, or_false, true_and, and_true, false_and, and_false, not_true_eq_false, not_false_eq_true, true_imp_iff, false_imp_iff, implies_true, if_true, if_false, r_e H]
    exact hp
theorem X4_work (H : RR (M_s u) T g) (V : AV T g) {i : Nat} (hi : i < 8) {post : Int32 → Prop} (hp : post (nI (kyN T i))) : wp_X4_work u (nI i) post := by
  have hn := v_n V
  unfold wp_X4_work
  rw [z0]
  refine lpnA T.1 (fun j x => x = nI (wkN T i j)) ?_ ?_ (Nat.zero_le _) rfl
  · rintro K j x hj rfl hk
    simp (disch := omega) only [jn, Nat.reduceAdd, Nat.reduceSub, Nat.reduceMul, z0, z1, z2, z3, z4, z5, z6, z7, z8, z9, z10, z12, z16, z18, z24, z31, z33, z48, z49, z51, z53, z55, z57, z59, z60, z61, z63, z66, z97, z99, z111, z114, z115, z116, z118, z122, z126, z255, z854, z1000, z1111, z7143, z9999, z10000, zM, zMn, nI_add, pk_mul, zsub, zlt_t, zlt_f, zle_t, zle_f, zeq_t, zeq_f, zeM1, zeM2, zeM3, zltM, zleM, nI_clamp, zin, false_or, or_false, true_and, and_true, false_and, and_false, not_true_eq_false, not_false_eq_true, true_imp_iff, false_imp_iff, implies_true, if_true, if_false, r_n H]
    refine X4_placeOn H V hj hi ?_
    have h3 := plN_le (T := T) (r := j) (i := i)
    have h4 : nI (wkN T i (j + 1)) = nI (wkN T i j + (if plN T j i = 0 then 0 else 1)) := rfl
    by_cases h0 : plN T j i = 0
    · rw [if_pos h0] at h4
      simp (disch := omega) only [jn, Nat.reduceAdd, Nat.reduceSub, Nat.reduceMul, z0, z1, z2, z3, z4, z5, z6, z7, z8, z9, z10, z12, z16, z18, z24, z31, z33, z48, z49, z51, z53, z55, z57, z59, z60, z61, z63, z66, z97, z99, z111, z114, z115, z116, z118, z122, z126, z255, z854, z1000, z1111, z7143, z9999, z10000, zM, zMn, nI_add, pk_mul, zsub, zlt_t, zlt_f, zle_t, zle_f, zeq_t, zeq_f, zeM1, zeM2, zeM3, zltM, zleM, nI_clamp, zin, false_or, or_false, true_and, and_true, false_and, and_false, not_true_eq_false, not_false_eq_true, true_imp_iff, false_imp_iff, implies_true, if_true, if_false]
      exact hk _ h4.symm
    · rw [if_neg h0] at h4
      simp (disch := omega) only [jn, Nat.reduceAdd, Nat.reduceSub, Nat.reduceMul, z0, z1, z2, z3, z4, z5, z6, z7, z8, z9, z10, z12, z16, z18, z24, z31, z33, z48, z49, z51, z53, z55, z57, z59, z60, z61, z63, z66, z97, z99, z111, z114, z115, z116, z118, z122, z126, z255, z854, z1000, z1111, z7143, z9999, z10000, zM, zMn, nI_add, pk_mul, zsub, zlt_t, zlt_f, zle_t, zle_f, zeq_t, zeq_f, zeM1, zeM2, zeM3, zltM, zleM, nI_clamp, zin, false_or, or_false, true_and, and_true, false_and, and_false, not_true_eq_false, not_false_eq_true, true_imp_iff, false_imp_iff, implies_true, if_true, if_false]
      exact hk _ h4.symm
  · rintro K x rfl
    simp (disch := omega) only [jn, Nat.reduceAdd, Nat.reduceSub, Nat.reduceMul, z0, z1, z2, z3, z4, z5, z6, z7, z8, z9, z10, z12, z16, z18, z24, z31, z33, z48, z49, z51, z53, z55, z57, z59, z60, z61, z63, z66, z97, z99, z111, z114, z115, z116, z118, z122, z126, z255, z854, z1000, z1111, z7143, z9999, z10000, zM, zMn, nI_add, pk_mul, zsub, zlt_t, zlt_f, zle_t, zle_f, zeq_t, zeq_f, zeM1, zeM2, zeM3, zltM, zleM, nI_clamp, zin, false_or, or_false, true_and, and_true, false_and, and_false, not_true_eq_false, not_false_eq_true, true_imp_iff, false_imp_iff, implies_true, if_true, if_false, r_n H]
    exact hp
theorem X4_least (H : RR (M_s u) T g) (V : AV T g) {pl : Nat} (h1 : 1 ≤ pl) (h3 : pl ≤ 3) {post : Int32 → Prop} (hp : post (leN T pl)) : wp_X4_least u (nI pl) post := by
  have hn := v_n V
  have hky : ∀ i, i < 8 → kyN T i < 56 := by
    intro i hi
    have := wkN_le T i T.1
    unfold kyN
    omega
  have hcn : ∀ x k, cnN T x k ≤ k := by
    intro x k
    induction k with
    | zero => exact Nat.le_refl _
    | succ k ih => rw [cnN_s]; split <;> omega
  unfold wp_X4_least
  simp only [z0, z8]
  refine lpn1 8 (fun i => ∀ k, k < i → ¬ goN T pl k) ?_ ?_ (by omega) (fun k hk => absurd hk (Nat.not_lt_zero _))
  · intro K i hi hP hk
    simp (disch := omega) only [jn, Nat.reduceAdd, Nat.reduceSub, Nat.reduceMul, z0, z1, z2, z3, z4, z5, z6, z7, z8, z9, z10, z12, z16, z18, z24, z31, z33, z48, z49, z51, z53, z55, z57, z59, z60, z61, z63, z66, z97, z99, z111, z114, z115, z116, z118, z122, z126, z255, z854, z1000, z1111, z7143, z9999, z10000, zM, zMn, nI_add, pk_mul, zsub, zlt_t, zlt_f, zle_t, zle_f, zeq_t, zeq_f, zeM1, zeM2, zeM3, zltM, zleM, nI_clamp, zin, false_or, or_false, true_and, and_true, false_and, and_false, not_true_eq_false, not_false_eq_true, true_imp_iff, false_imp_iff, implies_true, if_true, if_false]
    refine lpnA 8 (fun j x => x = nI (cnN T (kyN T i) j)) ?_ ?_ (by omega) rfl
    · rintro K2 j x hj rfl hk2
      have s := cnN_s T (kyN T i) j
      have y1 := hky i hi
      have y2 := hky j hj
      simp (disch := omega) only [jn, Nat.reduceAdd, Nat.reduceSub, Nat.reduceMul, z0, z1, z2, z3, z4, z5, z6, z7, z8, z9, z10, z12, z16, z18, z24, z31, z33, z48, z49, z51, z53, z55, z57, z59, z60, z61, z63, z66, z97, z99, z111, z114, z115, z116, z118, z122, z126, z255, z854, z1000, z1111, z7143, z9999, z10000, zM, zMn, nI_add, pk_mul, zsub, zlt_t, zlt_f, zle_t, zle_f, zeq_t, zeq_f, zeM1, zeM2, zeM3, zltM, zleM, nI_clamp, zin, false_or, or_false, true_and, and_true, false_and, and_false, not_true_eq_false, not_false_eq_true, true_imp_iff, false_imp_iff, implies_true, if_true, if_false, X4_open H, bI_0]
      cases ho : T.2.2.1 j
      · rw [if_neg (by rw [ho]; simp)] at s
        simp only [jn, Nat.reduceAdd, Nat.reduceSub, Nat.reduceMul, z0, z1, z2, z3, z4, z5, z6, z7, z8, z9, z10, z12, z16, z18, z24, z31, z33, z48, z49, z51, z53, z55, z57, z59, z60, z61, z63, z66, z97, z99, z111, z114, z115, z116, z118, z122, z126, z255, z854, z1000, z1111, z7143, z9999, z10000, zM, zMn, nI_add, pk_mul, zsub, zlt_t, zlt_f, zle_t, zle_f, zeq_t, zeq_f, zeM1, zeM2, zeM3, zltM, zleM, nI_clamp, zin, false_or, or_false, true_and, and_true, false_and, and_false, not_true_eq_false, not_false_eq_true, true_imp_iff, false_imp_iff, implies_true, if_true, if_false, reduceCtorEq]
        exact hk2 _ (by rw [s])
      · simp only [jn, Nat.reduceAdd, Nat.reduceSub, Nat.reduceMul, z0, z1, z2, z3, z4, z5, z6, z7, z8, z9, z10, z12, z16, z18, z24, z31, z33, z48, z49, z51, z53, z55, z57, z59, z60, z61, z63, z66, z97, z99, z111, z114, z115, z116, z118, z122, z126, z255, z854, z1000, z1111, z7143, z9999, z10000, zM, zMn, nI_add, pk_mul, zsub, zlt_t, zlt_f, zle_t, zle_f, zeq_t, zeq_f, zeM1, zeM2, zeM3, zltM, zleM, nI_clamp, zin, false_or, or_false, true_and, and_true, false_and, and_false, not_true_eq_false, not_false_eq_true, true_imp_iff, false_imp_iff, implies_true, if_true, if_false, reduceCtorEq]
        refine X4_work H V hj ?_
        refine X4_work H V hi ?_
        by_cases hlt : kyN T j < kyN T i
        · rw [if_pos ⟨ho, hlt⟩] at s
          simp (disch := omega) only [jn, Nat.reduceAdd, Nat.reduceSub, Nat.reduceMul, z0, z1, z2, z3, z4, z5, z6, z7, z8, z9, z10, z12, z16, z18, z24, z31, z33, z48, z49, z51, z53, z55, z57, z59, z60, z61, z63, z66, z97, z99, z111, z114, z115, z116, z118, z122, z126, z255, z854, z1000, z1111, z7143, z9999, z10000, zM, zMn, nI_add, pk_mul, zsub, zlt_t, zlt_f, zle_t, zle_f, zeq_t, zeq_f, zeM1, zeM2, zeM3, zltM, zleM, nI_clamp, zin, false_or, or_false, true_and, and_true, false_and, and_false, not_true_eq_false, not_false_eq_true, true_imp_iff, false_imp_iff, implies_true, if_true, if_false]
          exact hk2 _ (by rw [s])
        · rw [if_neg (fun q => hlt q.2)] at s
          simp (disch := omega) only [jn, Nat.reduceAdd, Nat.reduceSub, Nat.reduceMul, z0, z1, z2, z3, z4, z5, z6, z7, z8, z9, z10, z12, z16, z18, z24, z31, z33, z48, z49, z51, z53, z55, z57, z59, z60, z61, z63, z66, z97, z99, z111, z114, z115, z116, z118, z122, z126, z255, z854, z1000, z1111, z7143, z9999, z10000, zM, zMn, nI_add, pk_mul, zsub, zlt_t, zlt_f, zle_t, zle_f, zeq_t, zeq_f, zeM1, zeM2, zeM3, zltM, zleM, nI_clamp, zin, false_or, or_false, true_and, and_true, false_and, and_false, not_true_eq_false, not_false_eq_true, true_imp_iff, false_imp_iff, implies_true, if_true, if_false]
          exact hk2 _ (by rw [s])
    · rintro K2 x rfl
      have b := hcn (kyN T i) 8
      simp (disch := omega) only [jn, Nat.reduceAdd, Nat.reduceSub, Nat.reduceMul, z0, z1, z2, z3, z4, z5, z6, z7, z8, z9, z10, z12, z16, z18, z24, z31, z33, z48, z49, z51, z53, z55, z57, z59, z60, z61, z63, z66, z97, z99, z111, z114, z115, z116, z118, z122, z126, z255, z854, z1000, z1111, z7143, z9999, z10000, zM, zMn, nI_add, pk_mul, zsub, zlt_t, zlt_f, zle_t, zle_f, zeq_t, zeq_f, zeM1, zeM2, zeM3, zltM, zleM, nI_clamp, zin, false_or, or_false, true_and, and_true, false_and, and_false, not_true_eq_false, not_false_eq_true, true_imp_iff, false_imp_iff, implies_true, if_true, if_false, X4_open H, bI_0]
      by_cases hg : goN T pl i
      · rw [leN_hit hi hg] at hp
        have e1 := hg.1
        have e2 := hg.2
        simp (disch := omega) only [jn, Nat.reduceAdd, Nat.reduceSub, Nat.reduceMul, z0, z1, z2, z3, z4, z5, z6, z7, z8, z9, z10, z12, z16, z18, z24, z31, z33, z48, z49, z51, z53, z55, z57, z59, z60, z61, z63, z66, z97, z99, z111, z114, z115, z116, z118, z122, z126, z255, z854, z1000, z1111, z7143, z9999, z10000, zM, zMn, nI_add, pk_mul, zsub, zlt_t, zlt_f, zle_t, zle_f, zeq_t, zeq_f, zeM1, zeM2, zeM3, zltM, zleM, nI_clamp, zin, false_or, or_false, true_and, and_true, false_and, and_false, not_true_eq_false, not_false_eq_true, true_imp_iff, false_imp_iff, implies_true, if_true, if_false, e1, reduceCtorEq]
        exact hp
      · have hk' := hk (fun k hk3 => by
          by_cases e : k = i
          · rw [e]; exact hg
          · exact hP k (by omega))
        cases ho : T.2.2.1 i
        · simp (disch := omega) only [jn, Nat.reduceAdd, Nat.reduceSub, Nat.reduceMul, z0, z1, z2, z3, z4, z5, z6, z7, z8, z9, z10, z12, z16, z18, z24, z31, z33, z48, z49, z51, z53, z55, z57, z59, z60, z61, z63, z66, z97, z99, z111, z114, z115, z116, z118, z122, z126, z255, z854, z1000, z1111, z7143, z9999, z10000, zM, zMn, nI_add, pk_mul, zsub, zlt_t, zlt_f, zle_t, zle_f, zeq_t, zeq_f, zeM1, zeM2, zeM3, zltM, zleM, nI_clamp, zin, false_or, or_false, true_and, and_true, false_and, and_false, not_true_eq_false, not_false_eq_true, true_imp_iff, false_imp_iff, implies_true, if_true, if_false, reduceCtorEq]
          exact hk'
        · have hne : cnN T (kyN T i) 8 ≠ pl - 1 := fun q => hg ⟨ho, by omega⟩
          simp (disch := omega) only [jn, Nat.reduceAdd, Nat.reduceSub, Nat.reduceMul, z0, z1, z2, z3, z4, z5, z6, z7, z8, z9, z10, z12, z16, z18, z24, z31, z33, z48, z49, z51, z53, z55, z57, z59, z60, z61, z63, z66, z97, z99, z111, z114, z115, z116, z118, z122, z126, z255, z854, z1000, z1111, z7143, z9999, z10000, zM, zMn, nI_add, pk_mul, zsub, zlt_t, zlt_f, zle_t, zle_f, zeq_t, zeq_f, zeM1, zeM2, zeM3, zltM, zleM, nI_clamp, zin, false_or, or_false, true_and, and_true, false_and, and_false, not_true_eq_false, not_false_eq_true, true_imp_iff, false_imp_iff, implies_true, if_true, if_false, reduceCtorEq]
          exact hk'
  · intro K hP
    simp (disch := omega) only [jn, Nat.reduceAdd, Nat.reduceSub, Nat.reduceMul, z0, z1, z2, z3, z4, z5, z6, z7, z8, z9, z10, z12, z16, z18, z24, z31, z33, z48, z49, z51, z53, z55, z57, z59, z60, z61, z63, z66, z97, z99, z111, z114, z115, z116, z118, z122, z126, z255, z854, z1000, z1111, z7143, z9999, z10000, zM, zMn, nI_add, pk_mul, zsub, zlt_t, zlt_f, zle_t, zle_f, zeq_t, zeq_f, zeM1, zeM2, zeM3, zltM, zleM, nI_clamp, zin, false_or, or_false, true_and, and_true, false_and, and_false, not_true_eq_false, not_false_eq_true, true_imp_iff, false_imp_iff, implies_true, if_true, if_false]
    rw [leN_none hP] at hp
    exact hp
theorem X4_canLay (H : RR (M_s u) T g) (V : AV T g) {a b c : Nat} (ha : a < 8) (hb : b < 8) (hc : c < 8) {post : Int32 → Prop} : wp_X4_canLay u (nI a) (nI b) (nI c) post = post (bI (decide (T.1 < 6) && T.2.2.1 a && T.2.2.1 b && T.2.2.1 c)) := by
  have hn := v_n V
  unfold wp_X4_canLay
  by_cases h6 : T.1 < 6
  · simp (disch := omega) only [jn, Nat.reduceAdd, Nat.reduceSub, Nat.reduceMul, z0, z1, z2, z3, z4, z5, z6, z7, z8, z9, z10, z12, z16, z18, z24, z31, z33, z48, z49, z51, z53, z55, z57, z59, z60, z61, z63, z66, z97, z99, z111, z114, z115, z116, z118, z122, z126, z255, z854, z1000, z1111, z7143, z9999, z10000, zM, zMn, nI_add, pk_mul, zsub, zlt_t, zlt_f, zle_t, zle_f, zeq_t, zeq_f, zeM1, zeM2, zeM3, zltM, zleM, nI_clamp, zin, false_or, or_false, true_and, and_true, false_and, and_false, not_true_eq_false, not_false_eq_true, true_imp_iff, false_imp_iff, implies_true, if_true, if_false, r_n H, X4_open H, bI_0]
    rw [decide_eq_true h6]
    cases h1 : T.2.2.1 a <;> cases h2 : T.2.2.1 b <;> cases h3 : T.2.2.1 c <;> simp [bI_t, bI_f]
  · simp (disch := omega) only [jn, Nat.reduceAdd, Nat.reduceSub, Nat.reduceMul, z0, z1, z2, z3, z4, z5, z6, z7, z8, z9, z10, z12, z16, z18, z24, z31, z33, z48, z49, z51, z53, z55, z57, z59, z60, z61, z63, z66, z97, z99, z111, z114, z115, z116, z118, z122, z126, z255, z854, z1000, z1111, z7143, z9999, z10000, zM, zMn, nI_add, pk_mul, zsub, zlt_t, zlt_f, zle_t, zle_f, zeq_t, zeq_f, zeM1, zeM2, zeM3, zltM, zleM, nI_clamp, zin, false_or, or_false, true_and, and_true, false_and, and_false, not_true_eq_false, not_false_eq_true, true_imp_iff, false_imp_iff, implies_true, if_true, if_false, r_n H, X4_open H, bI_0]
    rw [decide_eq_false h6]
    simp [bI_f]
theorem X4_isRoom (H : RR (M_s u) T g) (V : AV T g) {post : Int32 → Prop} : wp_X4_isRoom u post = post (bI (decide (T.2.1 < 12))) := by
  have he := v_e V
  unfold wp_X4_isRoom
  by_cases h6 : T.2.1 < 12
  · simp (disch := omega) only [jn, Nat.reduceAdd, Nat.reduceSub, Nat.reduceMul, z0, z1, z2, z3, z4, z5, z6, z7, z8, z9, z10, z12, z16, z18, z24, z31, z33, z48, z49, z51, z53, z55, z57, z59, z60, z61, z63, z66, z97, z99, z111, z114, z115, z116, z118, z122, z126, z255, z854, z1000, z1111, z7143, z9999, z10000, zM, zMn, nI_add, pk_mul, zsub, zlt_t, zlt_f, zle_t, zle_f, zeq_t, zeq_f, zeM1, zeM2, zeM3, zltM, zleM, nI_clamp, zin, false_or, or_false, true_and, and_true, false_and, and_false, not_true_eq_false, not_false_eq_true, true_imp_iff, false_imp_iff, implies_true, if_true, if_false, r_e H]
    rw [decide_eq_true h6, bI_t]
  · simp (disch := omega) only [jn, Nat.reduceAdd, Nat.reduceSub, Nat.reduceMul, z0, z1, z2, z3, z4, z5, z6, z7, z8, z9, z10, z12, z16, z18, z24, z31, z33, z48, z49, z51, z53, z55, z57, z59, z60, z61, z63, z66, z97, z99, z111, z114, z115, z116, z118, z122, z126, z255, z854, z1000, z1111, z7143, z9999, z10000, zM, zMn, nI_add, pk_mul, zsub, zlt_t, zlt_f, zle_t, zle_f, zeq_t, zeq_f, zeM1, zeM2, zeM3, zltM, zleM, nI_clamp, zin, false_or, or_false, true_and, and_true, false_and, and_false, not_true_eq_false, not_false_eq_true, true_imp_iff, false_imp_iff, implies_true, if_true, if_false, r_e H]
    rw [decide_eq_false h6, bI_f]
theorem X4_canAnswer (H : RR (M_s u) T g) (V : AV T g) {h : Nat} (hh : h < 4) {post : Int32 → Prop} : wp_X4_canAnswer u (nI h) post = post (bI (!decide (T.2.2.2.2.2.2.2.2.2.1 h = nM) && decide (T.2.1 < 12))) := by
  unfold wp_X4_canAnswer
  by_cases h1 : T.2.2.2.2.2.2.2.2.2.1 h = nM
  · simp (disch := omega) only [jn, Nat.reduceAdd, Nat.reduceSub, Nat.reduceMul, z0, z1, z2, z3, z4, z5, z6, z7, z8, z9, z10, z12, z16, z18, z24, z31, z33, z48, z49, z51, z53, z55, z57, z59, z60, z61, z63, z66, z97, z99, z111, z114, z115, z116, z118, z122, z126, z255, z854, z1000, z1111, z7143, z9999, z10000, zM, zMn, nI_add, pk_mul, zsub, zlt_t, zlt_f, zle_t, zle_f, zeq_t, zeq_f, zeM1, zeM2, zeM3, zltM, zleM, nI_clamp, zin, false_or, or_false, true_and, and_true, false_and, and_false, not_true_eq_false, not_false_eq_true, true_imp_iff, false_imp_iff, implies_true, if_true, if_false, r_on H hh, h1]
    simp [bI_f]
  · simp (disch := omega) only [jn, Nat.reduceAdd, Nat.reduceSub, Nat.reduceMul, z0, z1, z2, z3, z4, z5, z6, z7, z8, z9, z10, z12, z16, z18, z24, z31, z33, z48, z49, z51, z53, z55, z57, z59, z60, z61, z63, z66, z97, z99, z111, z114, z115, z116, z118, z122, z126, z255, z854, z1000, z1111, z7143, z9999, z10000, zM, zMn, nI_add, pk_mul, zsub, zlt_t, zlt_f, zle_t, zle_f, zeq_t, zeq_f, zeM1, zeM2, zeM3, zltM, zleM, nI_clamp, zin, false_or, or_false, true_and, and_true, false_and, and_false, not_true_eq_false, not_false_eq_true, true_imp_iff, false_imp_iff, implies_true, if_true, if_false, r_on H hh, h1, X4_isRoom H V, bI_0]
    cases h2 : decide (T.2.1 < 12) <;> simp [bI_t, bI_f]
theorem X4_canTakeUp (H : RR (M_s u) T g0) (V : AV T g0) {post : Int32 → Prop} (h1 : 0 < T.1 → (∀ j, j < T.2.1 → T.2.2.2.2.2.2.2.1 j 0 ≠ T.1 - 1) → post (nI 1)) (h0 : (T.1 = 0 ∨ ∃ j, j < T.2.1 ∧ T.2.2.2.2.2.2.2.1 j 0 = T.1 - 1) → post (nI 0)) : wp_X4_canTakeUp u post := by
  have hn := v_n V
  have he := v_e V
  have key : ∀ x : Int32, ((x = nI 1 ∧ 0 < T.1) ∨ (x = nI 0 ∧ T.1 = 0)) → LP2 (fun (K9 : Int32 → Int32 → Prop) (x6 : Int32) (x8 : Int32) => (vp_in (1 : Int32) 854) ∧ ((((M_s u) (Int32.toNatClampNeg (1 : Int32))) ≤ x8 → post x6) ∧ (¬ ((M_s u) (Int32.toNatClampNeg (1 : Int32))) ≤ x8 → jn (fun (x12 : Int32) => K9 x12 (x8 + 1)) (fun (J14 : Int32 → Prop) => jn (J14 (0 : Int32)) (fun (J17 : Prop) => (x6 = 0 → J17) ∧ (¬ x6 = 0 → wp_X4_of u x8 (0 : Int32) (fun r21 => (vp_in (0 : Int32) 854) ∧ ((r21 = (((M_s u) (Int32.toNatClampNeg (0 : Int32))) - (1 : Int32)) → J17) ∧ (¬ r21 = (((M_s u) (Int32.toNatClampNeg (0 : Int32))) - (1 : Int32)) → J14 (1 : Int32)))))))))) x (nI 0) := by
    intro x hx
    refine lpnA T.2.1 (fun j x => (x = nI 1 ∧ 0 < T.1 ∧ ∀ k, k < j → T.2.2.2.2.2.2.2.1 k 0 ≠ T.1 - 1) ∨ (x = nI 0 ∧ (T.1 = 0 ∨ ∃ k, k < j ∧ T.2.2.2.2.2.2.2.1 k 0 = T.1 - 1))) ?_ ?_ (Nat.zero_le _) ?_
    · rintro K j x hj hP hk
      have hv := (v_ev V hj rfl).1
      rcases hP with ⟨rfl, hp0, hP⟩ | ⟨rfl, hP⟩
      · by_cases hl : T.2.2.2.2.2.2.2.1 j 0 = T.1 - 1
        · simp (disch := omega) only [jn, Nat.reduceAdd, Nat.reduceSub, Nat.reduceMul, z0, z1, z2, z3, z4, z5, z6, z7, z8, z9, z10, z12, z16, z18, z24, z31, z33, z48, z49, z51, z53, z55, z57, z59, z60, z61, z63, z66, z97, z99, z111, z114, z115, z116, z118, z122, z126, z255, z854, z1000, z1111, z7143, z9999, z10000, zM, zMn, nI_add, pk_mul, zsub, zlt_t, zlt_f, zle_t, zle_f, zeq_t, zeq_f, zeM1, zeM2, zeM3, zltM, zleM, nI_clamp, zin, false_or, or_false, true_and, and_true, false_and, and_false, not_true_eq_false, not_false_eq_true, true_imp_iff, false_imp_iff, implies_true, if_true, if_false, r_n H, r_e H, X4_of H V hj rfl]
          exact hk _ (Or.inr ⟨rfl, Or.inr ⟨j, by omega, hl⟩⟩)
        · simp (disch := omega) only [jn, Nat.reduceAdd, Nat.reduceSub, Nat.reduceMul, z0, z1, z2, z3, z4, z5, z6, z7, z8, z9, z10, z12, z16, z18, z24, z31, z33, z48, z49, z51, z53, z55, z57, z59, z60, z61, z63, z66, z97, z99, z111, z114, z115, z116, z118, z122, z126, z255, z854, z1000, z1111, z7143, z9999, z10000, zM, zMn, nI_add, pk_mul, zsub, zlt_t, zlt_f, zle_t, zle_f, zeq_t, zeq_f, zeM1, zeM2, zeM3, zltM, zleM, nI_clamp, zin, false_or, or_false, true_and, and_true, false_and, and_false, not_true_eq_false, not_false_eq_true, true_imp_iff, false_imp_iff, implies_true, if_true, if_false, r_n H, r_e H, X4_of H V hj rfl]
          refine hk _ (Or.inl ⟨rfl, hp0, fun k hk3 => ?_⟩)
          by_cases e : k = j
          · rw [e]; exact hl
          · exact hP k (by omega)
      · simp (disch := omega) only [jn, Nat.reduceAdd, Nat.reduceSub, Nat.reduceMul, z0, z1, z2, z3, z4, z5, z6, z7, z8, z9, z10, z12, z16, z18, z24, z31, z33, z48, z49, z51, z53, z55, z57, z59, z60, z61, z63, z66, z97, z99, z111, z114, z115, z116, z118, z122, z126, z255, z854, z1000, z1111, z7143, z9999, z10000, zM, zMn, nI_add, pk_mul, zsub, zlt_t, zlt_f, zle_t, zle_f, zeq_t, zeq_f, zeM1, zeM2, zeM3, zltM, zleM, nI_clamp, zin, false_or, or_false, true_and, and_true, false_and, and_false, not_true_eq_false, not_false_eq_true, true_imp_iff, false_imp_iff, implies_true, if_true, if_false, r_n H, r_e H]
        refine hk _ (Or.inr ⟨rfl, ?_⟩)
        rcases hP with h | ⟨k, h, h2⟩
        · exact Or.inl h
        · exact Or.inr ⟨k, by omega, h2⟩
    · rintro K x hP
      simp (disch := omega) only [jn, Nat.reduceAdd, Nat.reduceSub, Nat.reduceMul, z0, z1, z2, z3, z4, z5, z6, z7, z8, z9, z10, z12, z16, z18, z24, z31, z33, z48, z49, z51, z53, z55, z57, z59, z60, z61, z63, z66, z97, z99, z111, z114, z115, z116, z118, z122, z126, z255, z854, z1000, z1111, z7143, z9999, z10000, zM, zMn, nI_add, pk_mul, zsub, zlt_t, zlt_f, zle_t, zle_f, zeq_t, zeq_f, zeM1, zeM2, zeM3, zltM, zleM, nI_clamp, zin, false_or, or_false, true_and, and_true, false_and, and_false, not_true_eq_false, not_false_eq_true, true_imp_iff, false_imp_iff, implies_true, if_true, if_false, r_n H, r_e H]
      rcases hP with ⟨rfl, hp0, hP⟩ | ⟨rfl, hP⟩
      · exact h1 hp0 hP
      · exact h0 hP
    · rcases hx with ⟨rfl, hx⟩ | ⟨rfl, hx⟩
      · exact Or.inl ⟨rfl, hx, fun k hk => absurd hk (Nat.not_lt_zero _)⟩
      · exact Or.inr ⟨rfl, Or.inl hx⟩
  unfold wp_X4_canTakeUp
  by_cases hn0 : T.1 = 0
  · refine ⟨by rw [z0, zin (by decide) (by decide)]; exact trivial, ?_, ?_⟩
    · intro _; exact key _ (Or.inr ⟨rfl, hn0⟩)
    · intro hc
      exact absurd (by simp (disch := omega) only [jn, Nat.reduceAdd, Nat.reduceSub, Nat.reduceMul, z0, z1, z2, z3, z4, z5, z6, z7, z8, z9, z10, z12, z16, z18, z24, z31, z33, z48, z49, z51, z53, z55, z57, z59, z60, z61, z63, z66, z97, z99, z111, z114, z115, z116, z118, z122, z126, z255, z854, z1000, z1111, z7143, z9999, z10000, zM, zMn, nI_add, pk_mul, zsub, zlt_t, zlt_f, zle_t, zle_f, zeq_t, zeq_f, zeM1, zeM2, zeM3, zltM, zleM, nI_clamp, zin, false_or, or_false, true_and, and_true, false_and, and_false, not_true_eq_false, not_false_eq_true, true_imp_iff, false_imp_iff, implies_true, if_true, if_false, r_n H]) hc
  · refine ⟨by rw [z0, zin (by decide) (by decide)]; exact trivial, ?_, ?_⟩
    · intro hc
      rw [z0] at hc
      simp (disch := omega) only [jn, Nat.reduceAdd, Nat.reduceSub, Nat.reduceMul, z0, z1, z2, z3, z4, z5, z6, z7, z8, z9, z10, z12, z16, z18, z24, z31, z33, z48, z49, z51, z53, z55, z57, z59, z60, z61, z63, z66, z97, z99, z111, z114, z115, z116, z118, z122, z126, z255, z854, z1000, z1111, z7143, z9999, z10000, zM, zMn, nI_add, pk_mul, zsub, zlt_t, zlt_f, zle_t, zle_f, zeq_t, zeq_f, zeM1, zeM2, zeM3, zltM, zleM, nI_clamp, zin, false_or, or_false, true_and, and_true, false_and, and_false, not_true_eq_false, not_false_eq_true, true_imp_iff, false_imp_iff, implies_true, if_true, if_false, r_n H] at hc
    · intro _; exact key _ (Or.inl ⟨rfl, by omega⟩)
end
