/-! the state by itself; the class's State against it -/
abbrev AT : Type := Nat × Nat × (Nat → Bool) × (Nat → Nat) × (Nat → Nat → Nat) × (Nat → Nat → Nat) × (Nat → Nat) × (Nat → Nat → Nat) × (Nat → Int32) × (Nat → Int32) × Int32 × (Nat → Int32)
/-- the envelopes' clause, the gone ones apart -/
def envOk (n : Nat) (ev : Nat → Nat → Nat) (j : Nat) : Prop := ev j 0 < n ∧ ev j 2 < 10000 ∧ ((ev j 3 = 0 ∧ ev j 1 ≤ 3) ∨ (ev j 3 = 1 ∧ 1 ≤ ev j 1 ∧ ev j 1 ≤ 4))
def AV (T : AT) (g : Nat → Bool) : Prop := T.1 ≤ 6 ∧ T.2.1 ≤ 12 ∧ (∀ i, i < 8 → T.2.2.2.1 i < 10000) ∧ (∀ r p, r < T.1 → 1 ≤ p → p ≤ 3 → T.2.2.2.2.1 r p < 8) ∧ (∀ r p, r < T.1 → 1 ≤ p → p ≤ 3 → T.2.2.2.2.2.1 r p < 10000) ∧ (∀ r, r < T.1 → T.2.2.2.2.2.2.1 r < 4) ∧ (∀ j, j < T.2.1 → g j = false → envOk T.1 T.2.2.2.2.2.2.2.1 j) ∧ (∀ h, h < 4 → T.2.2.2.2.2.2.2.2.2.1 h = nM ∨ ∃ r, r < T.1 ∧ T.2.2.2.2.2.2.2.2.2.1 h = nI r)
def CR (u : St) (T : AT) (g : Nat → Bool) : Prop := u.2.2.1 = nI T.1 ∧ u.2.2.2.2.2.2.1 = nI T.2.1 ∧ (∀ i, i < 8 → bt u.1 i = T.2.2.1 i) ∧ (∀ i, i < 8 → u.2.1 i = nI (T.2.2.2.1 i)) ∧ (∀ r p, r < T.1 → 1 ≤ p → p ≤ 3 → u.2.2.2.1 (3 * r + p - 1) = nI (T.2.2.2.2.1 r p)) ∧ (∀ r p, r < T.1 → 1 ≤ p → p ≤ 3 → u.2.2.2.2.1 (3 * r + p - 1) = nI (T.2.2.2.2.2.1 r p)) ∧ (∀ r, r < T.1 → u.2.2.2.2.2.1 r = nI (T.2.2.2.2.2.2.1 r)) ∧ (∀ j, j < T.2.1 → if g j then u.2.2.2.2.2.2.2.1 (4 * j + 1) = nM else ∀ w, w < 4 → u.2.2.2.2.2.2.2.1 (4 * j + w) = nI (T.2.2.2.2.2.2.2.1 j w)) ∧ (∀ h, h < 4 → u.2.2.2.2.2.2.2.2.1 h = T.2.2.2.2.2.2.2.2.1 h) ∧ (∀ h, h < 4 → u.2.2.2.2.2.2.2.2.2.1 h = T.2.2.2.2.2.2.2.2.2.1 h) ∧ u.2.2.2.2.2.2.2.2.2.2.1 = T.2.2.2.2.2.2.2.2.2.2.1 ∧ (∀ k, k < 5 → u.2.2.2.2.2.2.2.2.2.2.2 k = T.2.2.2.2.2.2.2.2.2.2.2 k)
def g0 : Nat → Bool := fun _ => false
section
variable {u : St} {T : AT} {g : Nat → Bool}
theorem c_n (H : CR u T g) : u.2.2.1 = nI T.1 := H.1
theorem c_e (H : CR u T g) : u.2.2.2.2.2.2.1 = nI T.2.1 := H.2.1
theorem c_op (H : CR u T g) : ∀ {i : Nat}, i < 8 → bt u.1 i = T.2.2.1 i := fun h0 => H.2.2.1 _ h0
theorem c_key (H : CR u T g) : ∀ {i : Nat}, i < 8 → u.2.1 i = nI (T.2.2.2.1 i) := fun h0 => H.2.2.2.1 _ h0
theorem c_ri (H : CR u T g) : ∀ {r p : Nat}, r < T.1 → 1 ≤ p → p ≤ 3 → u.2.2.2.1 (3 * r + p - 1) = nI (T.2.2.2.2.1 r p) := fun h0 h1 h2 => H.2.2.2.2.1 _ _ h0 h1 h2
theorem c_rk (H : CR u T g) : ∀ {r p : Nat}, r < T.1 → 1 ≤ p → p ≤ 3 → u.2.2.2.2.1 (3 * r + p - 1) = nI (T.2.2.2.2.2.1 r p) := fun h0 h1 h2 => H.2.2.2.2.2.1 _ _ h0 h1 h2
theorem c_rh (H : CR u T g) : ∀ {r : Nat}, r < T.1 → u.2.2.2.2.2.1 r = nI (T.2.2.2.2.2.2.1 r) := fun h0 => H.2.2.2.2.2.2.1 _ h0
theorem c_lt (H : CR u T g) : ∀ {h : Nat}, h < 4 → u.2.2.2.2.2.2.2.2.1 h = T.2.2.2.2.2.2.2.2.1 h := fun h0 => H.2.2.2.2.2.2.2.2.1 _ h0
theorem c_on (H : CR u T g) : ∀ {h : Nat}, h < 4 → u.2.2.2.2.2.2.2.2.2.1 h = T.2.2.2.2.2.2.2.2.2.1 h := fun h0 => H.2.2.2.2.2.2.2.2.2.1 _ h0
theorem c_an (H : CR u T g) : u.2.2.2.2.2.2.2.2.2.2.1 = T.2.2.2.2.2.2.2.2.2.2.1 := H.2.2.2.2.2.2.2.2.2.2.1
theorem c_ct (H : CR u T g) : ∀ {k : Nat}, k < 5 → u.2.2.2.2.2.2.2.2.2.2.2 k = T.2.2.2.2.2.2.2.2.2.2.2 k := fun h0 => H.2.2.2.2.2.2.2.2.2.2.2 _ h0
theorem c_ev (H : CR u T g) : ∀ {j w : Nat}, j < T.2.1 → g j = false → w < 4 → u.2.2.2.2.2.2.2.1 (4 * j + w) = nI (T.2.2.2.2.2.2.2.1 j w) := fun h1 h2 h3 => by
  have h := H.2.2.2.2.2.2.2.1 _ h1
  rw [h2] at h
  exact h _ h3
theorem c_gone (H : CR u T g) : ∀ {j : Nat}, j < T.2.1 → g j = true → u.2.2.2.2.2.2.2.1 (4 * j + 1) = nM := fun h1 h2 => by
  have h := H.2.2.2.2.2.2.2.1 _ h1
  rw [h2] at h
  exact h
theorem v_n (V : AV T g) : T.1 ≤ 6 := V.1
theorem v_e (V : AV T g) : T.2.1 ≤ 12 := V.2.1
theorem v_key (V : AV T g) {i : Nat} (h : i < 8) : T.2.2.2.1 i < 10000 := V.2.2.1 i h
theorem v_ri (V : AV T g) {r p : Nat} (h : r < T.1) (h1 : 1 ≤ p) (h2 : p ≤ 3) : T.2.2.2.2.1 r p < 8 := V.2.2.2.1 r p h h1 h2
theorem v_rk (V : AV T g) {r p : Nat} (h : r < T.1) (h1 : 1 ≤ p) (h2 : p ≤ 3) : T.2.2.2.2.2.1 r p < 10000 := V.2.2.2.2.1 r p h h1 h2
theorem v_rh (V : AV T g) {r : Nat} (h : r < T.1) : T.2.2.2.2.2.2.1 r < 4 := V.2.2.2.2.2.1 r h
theorem v_ev (V : AV T g) {j : Nat} (h : j < T.2.1) (h2 : g j = false) : envOk T.1 T.2.2.2.2.2.2.2.1 j := V.2.2.2.2.2.2.1 j h h2
theorem v_on (V : AV T g) {k : Nat} (h : k < 4) : T.2.2.2.2.2.2.2.2.2.1 k = nM ∨ ∃ r, r < T.1 ∧ T.2.2.2.2.2.2.2.2.2.1 k = nI r := V.2.2.2.2.2.2.2 k h
end
theorem X3_read {n k : Nat} {f : Nat → Int32} (h : k < n) (hn : n < 2147483648) {post : Int32 → Prop} : wp_X3_read n f (nI k) post = post (f k) := by
  unfold wp_X3_read
  simp (disch := omega) only [jn, Nat.reduceAdd, Nat.reduceSub, Nat.reduceMul, z0, z1, z2, z3, z4, z5, z6, z7, z8, z9, z10, z12, z16, z18, z24, z31, z33, z48, z49, z51, z53, z55, z57, z59, z60, z61, z63, z66, z97, z99, z111, z114, z115, z116, z118, z122, z126, z255, z854, z1000, z1111, z7143, z9999, z10000, zM, zMn, nI_add, pk_mul, zsub, zlt_t, zlt_f, zle_t, zle_f, zeq_t, zeq_f, zeM1, zeM2, zeM3, zltM, zleM, nI_clamp, zin, false_or, or_false, true_and, and_true, false_and, and_false, not_true_eq_false, not_false_eq_true, true_imp_iff, false_imp_iff, implies_true, if_true, if_false]
theorem X3_write {n k : Nat} {f : Nat → Int32} {x : Int32} (h : k < n) (hn : n < 2147483648) {post : (Nat → Int32) → Prop} : wp_X3_write n f (nI k) x post = post (upd f k x) := by
  unfold wp_X3_write
  simp (disch := omega) only [jn, Nat.reduceAdd, Nat.reduceSub, Nat.reduceMul, z0, z1, z2, z3, z4, z5, z6, z7, z8, z9, z10, z12, z16, z18, z24, z31, z33, z48, z49, z51, z53, z55, z57, z59, z60, z61, z63, z66, z97, z99, z111, z114, z115, z116, z118, z122, z126, z255, z854, z1000, z1111, z7143, z9999, z10000, zM, zMn, nI_add, pk_mul, zsub, zlt_t, zlt_f, zle_t, zle_f, zeq_t, zeq_f, zeM1, zeM2, zeM3, zltM, zleM, nI_clamp, zin, false_or, or_false, true_and, and_true, false_and, and_false, not_true_eq_false, not_false_eq_true, true_imp_iff, false_imp_iff, implies_true, if_true, if_false]
theorem X2_isInMask {m : Int32} {i : Nat} (h : i < 31) {post : Int32 → Prop} : wp_X2_isInMask m (nI i) post = post (bI (bt m i)) := by
  unfold wp_X2_isInMask
  simp (disch := omega) only [jn, Nat.reduceAdd, Nat.reduceSub, Nat.reduceMul, z0, z1, z2, z3, z4, z5, z6, z7, z8, z9, z10, z12, z16, z18, z24, z31, z33, z48, z49, z51, z53, z55, z57, z59, z60, z61, z63, z66, z97, z99, z111, z114, z115, z116, z118, z122, z126, z255, z854, z1000, z1111, z7143, z9999, z10000, zM, zMn, nI_add, pk_mul, zsub, zlt_t, zlt_f, zle_t, zle_f, zeq_t, zeq_f, zeM1, zeM2, zeM3, zltM, zleM, nI_clamp, zin, false_or, or_false, true_and, and_true, false_and, and_false, not_true_eq_false, not_false_eq_true, true_imp_iff, false_imp_iff, implies_true, if_true, if_false, zop]
  cases bt m i <;> simp [bI_t, bI_f]
theorem X3_between {x a b : Int32} {post : Int32 → Prop} : wp_X3_isBetween x a b post = post (bI (decide (¬ x < a ∧ ¬ b < x))) := by
  unfold wp_X3_isBetween
  by_cases h1 : x < a
  · simp [h1, bI_f, z0]
  · by_cases h2 : b < x
    · simp [h1, h2, bI_f, z0]
    · simp [h1, h2, bI_t, z1]
section
variable {u : St} {T : AT} {g : Nat → Bool}
theorem X2_hasOpen (H : CR u T g) {i : Nat} (h : i < 8) {post : Int32 → Prop} : wp_X2_hasOpen u (nI i) post = post (bI (T.2.2.1 i)) := by
  unfold wp_X2_hasOpen
  rw [X2_isInMask (by omega), ← c_op H h]
theorem X2_innAt (H : CR u T g) (V : AV T g) {r p : Nat} (h : r < T.1) (h1 : 1 ≤ p) (h2 : p ≤ 3) {post : Int32 → Prop} : wp_X2_innAt u (nI r) (nI p) post = post (nI (T.2.2.2.2.1 r p)) := by
  have := v_n V
  unfold wp_X2_innAt
  simp (disch := omega) only [jn, Nat.reduceAdd, Nat.reduceSub, Nat.reduceMul, z0, z1, z2, z3, z4, z5, z6, z7, z8, z9, z10, z12, z16, z18, z24, z31, z33, z48, z49, z51, z53, z55, z57, z59, z60, z61, z63, z66, z97, z99, z111, z114, z115, z116, z118, z122, z126, z255, z854, z1000, z1111, z7143, z9999, z10000, zM, zMn, nI_add, pk_mul, zsub, zlt_t, zlt_f, zle_t, zle_f, zeq_t, zeq_f, zeM1, zeM2, zeM3, zltM, zleM, nI_clamp, zin, false_or, or_false, true_and, and_true, false_and, and_false, not_true_eq_false, not_false_eq_true, true_imp_iff, false_imp_iff, implies_true, if_true, if_false, X3_read, c_ri H h h1 h2]
theorem X2_keyAt (H : CR u T g) (V : AV T g) {r p : Nat} (h : r < T.1) (h1 : 1 ≤ p) (h2 : p ≤ 3) {post : Int32 → Prop} : wp_X2_keyAt u (nI r) (nI p) post = post (nI (T.2.2.2.2.2.1 r p)) := by
  have := v_n V
  unfold wp_X2_keyAt
  simp (disch := omega) only [jn, Nat.reduceAdd, Nat.reduceSub, Nat.reduceMul, z0, z1, z2, z3, z4, z5, z6, z7, z8, z9, z10, z12, z16, z18, z24, z31, z33, z48, z49, z51, z53, z55, z57, z59, z60, z61, z63, z66, z97, z99, z111, z114, z115, z116, z118, z122, z126, z255, z854, z1000, z1111, z7143, z9999, z10000, zM, zMn, nI_add, pk_mul, zsub, zlt_t, zlt_f, zle_t, zle_f, zeq_t, zeq_f, zeM1, zeM2, zeM3, zltM, zleM, nI_clamp, zin, false_or, or_false, true_and, and_true, false_and, and_false, not_true_eq_false, not_false_eq_true, true_imp_iff, false_imp_iff, implies_true, if_true, if_false, X3_read, c_rk H h h1 h2]
theorem X2_of (H : CR u T g) (V : AV T g) {j w : Nat} (h : j < T.2.1) (hg : g j = false) (h2 : w < 4) {post : Int32 → Prop} : wp_X2_ofEnvelope u (nI j) (nI w) post = post (nI (T.2.2.2.2.2.2.2.1 j w)) := by
  have := v_e V
  unfold wp_X2_ofEnvelope
  simp (disch := omega) only [jn, Nat.reduceAdd, Nat.reduceSub, Nat.reduceMul, z0, z1, z2, z3, z4, z5, z6, z7, z8, z9, z10, z12, z16, z18, z24, z31, z33, z48, z49, z51, z53, z55, z57, z59, z60, z61, z63, z66, z97, z99, z111, z114, z115, z116, z118, z122, z126, z255, z854, z1000, z1111, z7143, z9999, z10000, zM, zMn, nI_add, pk_mul, zsub, zlt_t, zlt_f, zle_t, zle_f, zeq_t, zeq_f, zeM1, zeM2, zeM3, zltM, zleM, nI_clamp, zin, false_or, or_false, true_and, and_true, false_and, and_false, not_true_eq_false, not_false_eq_true, true_imp_iff, false_imp_iff, implies_true, if_true, if_false, X3_read, c_ev H h hg h2]
/-- the place of an inn on a road; 0 for none -/
def plN (T : AT) (r i : Nat) : Nat := if T.2.2.2.2.1 r 1 = i then 1 else if T.2.2.2.2.1 r 2 = i then 2 else if T.2.2.2.2.1 r 3 = i then 3 else 0
def nP (k : Nat) : Int32 := if k = 0 then nM else nI k
theorem X2_placeOn (H : CR u T g) (V : AV T g) {r i : Nat} (h : r < T.1) (hi : i < 8) {post : Int32 → Prop} (hp : post (nP (plN T r i))) : wp_X2_placeOn u (nI r) (nI i) post := by
  have := v_ri V h (p := 1) (by omega) (by omega)
  have := v_ri V h (p := 2) (by omega) (by omega)
  have := v_ri V h (p := 3) (by omega) (by omega)
  unfold wp_X2_placeOn
  refine ⟨5, ?_⟩
  unfold plN at hp
  by_cases h1 : T.2.2.2.2.1 r 1 = i
  · simp (disch := omega) only [lpc, jn, Nat.reduceAdd, Nat.reduceSub, Nat.reduceMul, z0, z1, z2, z3, z4, z5, z6, z7, z8, z9, z10, z12, z16, z18, z24, z31, z33, z48, z49, z51, z53, z55, z57, z59, z60, z61, z63, z66, z97, z99, z111, z114, z115, z116, z118, z122, z126, z255, z854, z1000, z1111, z7143, z9999, z10000, zM, zMn, nI_add, pk_mul, zsub, zlt_t, zlt_f, zle_t, zle_f, zeq_t, zeq_f, zeM1, zeM2, zeM3, zltM, zleM, nI_clamp, zin, false_or, or_false, true_and, and_true, false_and, and_false, not_true_eq_false, not_false_eq_true, true_imp_iff, false_imp_iff, implies_true, if_true, if_false, X2_innAt H V h]
    simpa [h1, nP] using hp
  · by_cases h2 : T.2.2.2.2.1 r 2 = i
    · simp (disch := omega) only [lpc, jn, Nat.reduceAdd, Nat.reduceSub, Nat.reduceMul, z0, z1, z2, z3, z4, z5, z6, z7, z8, z9, z10, z12, z16, z18, z24, z31, z33, z48, z49, z51, z53, z55, z57, z59, z60, z61, z63, z66, z97, z99, z111, z114, z115, z116, z118, z122, z126, z255, z854, z1000, z1111, z7143, z9999, z10000, zM, zMn, nI_add, pk_mul, zsub, zlt_t, zlt_f, zle_t, zle_f, zeq_t, zeq_f, zeM1, zeM2, zeM3, zltM, zleM, nI_clamp, zin, false_or, or_false, true_and, and_true, false_and, and_false, not_true_eq_false, not_false_eq_true, true_imp_iff, false_imp_iff, implies_true, if_true, if_false, X2_innAt H V h]
      simpa [h1, h2, nP] using hp
    · by_cases h3 : T.2.2.2.2.1 r 3 = i
      · simp (disch := omega) only [lpc, jn, Nat.reduceAdd, Nat.reduceSub, Nat.reduceMul, z0, z1, z2, z3, z4, z5, z6, z7, z8, z9, z10, z12, z16, z18, z24, z31, z33, z48, z49, z51, z53, z55, z57, z59, z60, z61, z63, z66, z97, z99, z111, z114, z115, z116, z118, z122, z126, z255, z854, z1000, z1111, z7143, z9999, z10000, zM, zMn, nI_add, pk_mul, zsub, zlt_t, zlt_f, zle_t, zle_f, zeq_t, zeq_f, zeM1, zeM2, zeM3, zltM, zleM, nI_clamp, zin, false_or, or_false, true_and, and_true, false_and, and_false, not_true_eq_false, not_false_eq_true, true_imp_iff, false_imp_iff, implies_true, if_true, if_false, X2_innAt H V h]
        simpa [h1, h2, h3, nP] using hp
      · simp (disch := omega) only [lpc, jn, Nat.reduceAdd, Nat.reduceSub, Nat.reduceMul, z0, z1, z2, z3, z4, z5, z6, z7, z8, z9, z10, z12, z16, z18, z24, z31, z33, z48, z49, z51, z53, z55, z57, z59, z60, z61, z63, z66, z97, z99, z111, z114, z115, z116, z118, z122, z126, z255, z854, z1000, z1111, z7143, z9999, z10000, zM, zMn, nI_add, pk_mul, zsub, zlt_t, zlt_f, zle_t, zle_f, zeq_t, zeq_f, zeM1, zeM2, zeM3, zltM, zleM, nI_clamp, zin, false_or, or_false, true_and, and_true, false_and, and_false, not_true_eq_false, not_false_eq_true, true_imp_iff, false_imp_iff, implies_true, if_true, if_false, X2_innAt H V h]
        simpa [h1, h2, h3, nP] using hp
theorem plN_le {r i : Nat} : plN T r i ≤ 3 := by
  unfold plN
  split
  · omega
  · split
    · omega
    · split <;> omega
def stN (T : AT) (r : Nat) : Bool := T.2.2.1 (T.2.2.2.2.1 r 1) && T.2.2.1 (T.2.2.2.2.1 r 2) && T.2.2.1 (T.2.2.2.2.1 r 3)
theorem X2_allOpen (H : CR u T g) (V : AV T g) {r : Nat} (h : r < T.1) {post : Int32 → Prop} (hp : post (bI (stN T r))) : wp_X2_allOpenOn u (nI r) post := by
  have := v_ri V h (p := 1) (by omega) (by omega)
  have := v_ri V h (p := 2) (by omega) (by omega)
  have := v_ri V h (p := 3) (by omega) (by omega)
  unfold wp_X2_allOpenOn
  refine ⟨5, ?_⟩
  simp (disch := omega) only [lpc, jn, Nat.reduceAdd, Nat.reduceSub, Nat.reduceMul, z0, z1, z2, z3, z4, z5, z6, z7, z8, z9, z10, z12, z16, z18, z24, z31, z33, z48, z49, z51, z53, z55, z57, z59, z60, z61, z63, z66, z97, z99, z111, z114, z115, z116, z118, z122, z126, z255, z854, z1000, z1111, z7143, z9999, z10000, zM, zMn, nI_add, pk_mul, zsub, zlt_t, zlt_f, zle_t, zle_f, zeq_t, zeq_f, zeM1, zeM2, zeM3, zltM, zleM, nI_clamp, zin, false_or, or_false, true_and, and_true, false_and, and_false, not_true_eq_false, not_false_eq_true, true_imp_iff, false_imp_iff, implies_true, if_true, if_false, X2_innAt H V h, X2_hasOpen H, bI_0]
  unfold stN at hp
  cases h1 : T.2.2.1 (T.2.2.2.2.1 r 1) <;> cases h2 : T.2.2.1 (T.2.2.2.2.1 r 2) <;> cases h3 : T.2.2.1 (T.2.2.2.2.1 r 3) <;> simp [h1, h2, h3, bI_t, bI_f] at hp ⊢ <;> exact hp
/-- what an inn sees beside it on a road -/
def seN (T : AT) (i r : Nat) (side : Nat) : Int32 := if plN T r i = 0 then nM else if side = 0 then (if plN T r i = 1 then nI 8 else nI (T.2.2.2.2.1 r (plN T r i - 1))) else (if plN T r i = 3 then nI (10 + T.2.2.2.2.2.2.1 r) else nI (T.2.2.2.2.1 r (plN T r i + 1)))
theorem X2_seen (H : CR u T g) (V : AV T g) {r i s : Nat} (h : r < T.1) (hi : i < 8) (hs : s < 2) {post : Int32 → Prop} (hp : post (seN T i r s)) : wp_X2_seenBeside u (nI i) (nI r) (nI s) post := by
  unfold wp_X2_seenBeside
  refine X2_placeOn H V h hi ?_
  have h3 := plN_le (T := T) (r := r) (i := i)
  have hn := v_n V
  have hh := v_rh V h
  unfold seN at hp
  unfold nP
  generalize plN T r i = q at *
  rcases (show q = 0 ∨ q = 1 ∨ q = 2 ∨ q = 3 by omega) with rfl | rfl | rfl | rfl <;> rcases (show s = 0 ∨ s = 1 by omega) with rfl | rfl <;> simp only [if_pos, if_neg, Nat.reduceEqDiff, Nat.reduceAdd, Nat.reduceSub, reduceIte] at hp ⊢ <;> simp (disch := omega) only [jn, Nat.reduceAdd, Nat.reduceSub, Nat.reduceMul, z0, z1, z2, z3, z4, z5, z6, z7, z8, z9, z10, z12, z16, z18, z24, z31, z33, z48, z49, z51, z53, z55, z57, z59, z60, z61, z63, z66, z97, z99, z111, z114, z115, z116, z118, z122, z126, z255, z854, z1000, z1111, z7143, z9999, z10000, zM, zMn, nI_add, pk_mul, zsub, zlt_t, zlt_f, zle_t, zle_f, zeq_t, zeq_f, zeM1, zeM2, zeM3, zltM, zleM, nI_clamp, zin, false_or, or_false, true_and, and_true, false_and, and_false, not_true_eq_false, not_false_eq_true, true_imp_iff, false_imp_iff, implies_true, if_true, if_false, X2_innAt H V h, X3_read, c_rh H h] <;> exact hp
end

