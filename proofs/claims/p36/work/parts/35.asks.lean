/-! counted loops -/
theorem lpn1 {body : (Int32 → Prop) → Int32 → Prop} (N : Nat) (P : Nat → Prop) (step : ∀ (K : Int32 → Prop) (j : Nat), j < N → P j → (P (j + 1) → K (nI (j + 1))) → body K (nI j)) (last : ∀ (K : Int32 → Prop), P N → body K (nI N)) {j : Nat} (hj : j ≤ N) (h : P j) : LP1 body (nI j) := by
  have key : ∀ (d j : Nat), j + d = N → P j → lpc (fun _ => False) body (d + 1) (nI j) := by
    intro d
    induction d with
    | zero => intro j hd hp; obtain rfl : j = N := by omega
              exact last _ hp
    | succ d ih => intro j hd hp; exact step _ j (by omega) hp (fun q => ih (j + 1) (by omega) q)
  exact ⟨_, key (N - j) j (by omega) h⟩
theorem lpnA {A : Type} {body : (A → Int32 → Prop) → A → Int32 → Prop} (N : Nat) (P : Nat → A → Prop) (step : ∀ (K : A → Int32 → Prop) (j : Nat) (x : A), j < N → P j x → (∀ y, P (j + 1) y → K y (nI (j + 1))) → body K x (nI j)) (last : ∀ (K : A → Int32 → Prop) (x : A), P N x → body K x (nI N)) {j : Nat} {x : A} (hj : j ≤ N) (h : P j x) : LP2 body x (nI j) := by
  have key : ∀ (d j : Nat) (x : A), j + d = N → P j x → lpc (fun _ _ => False) body (d + 1) x (nI j) := by
    intro d
    induction d with
    | zero => intro j x hd hp; obtain rfl : j = N := by omega
              exact last _ x hp
    | succ d ih => intro j x hd hp; exact step _ j x (by omega) hp (fun y q => ih (j + 1) y (by omega) q)
  exact ⟨_, key (N - j) j x (by omega) h⟩
theorem lpnB {A : Type} {body : (Int32 → A → Prop) → Int32 → A → Prop} (N : Nat) (P : Nat → A → Prop) (step : ∀ (K : Int32 → A → Prop) (j : Nat) (x : A), j < N → P j x → (∀ y, P (j + 1) y → K (nI (j + 1)) y) → body K (nI j) x) (last : ∀ (K : Int32 → A → Prop) (x : A), P N x → body K (nI N) x) {j : Nat} {x : A} (hj : j ≤ N) (h : P j x) : LP2 body (nI j) x := by
  have key : ∀ (d j : Nat) (x : A), j + d = N → P j x → lpc (fun _ _ => False) body (d + 1) (nI j) x := by
    intro d
    induction d with
    | zero => intro j x hd hp; obtain rfl : j = N := by omega
              exact last _ x hp
    | succ d ih => intro j x hd hp; exact step _ j x (by omega) hp (fun y q => ih (j + 1) y (by omega) q)
  exact ⟨_, key (N - j) j x (by omega) h⟩
/-! the class's questions -/
def biN (v : Int32) : Int32 := if (¬ v < nI 0 ∧ ¬ nI 7 < v) then nI 1 <<< (v &&& nI 31) else nI 0
theorem X2_innBit {v : Int32} {post : Int32 → Prop} : wp_X2_innBit v post = post (biN v) := by
  unfold wp_X2_innBit biN
  rw [X3_between]
  by_cases h : ¬ v < nI 0 ∧ ¬ nI 7 < v
  · rw [z0, z7, z1, z31, decide_eq_true h, if_pos h, bI_t]
    simp (disch := omega) only [jn, Nat.reduceAdd, Nat.reduceSub, Nat.reduceMul, z0, z1, z2, z3, z4, z5, z6, z7, z8, z9, z10, z12, z16, z18, z24, z31, z33, z48, z49, z51, z53, z55, z57, z59, z60, z61, z63, z66, z97, z99, z111, z114, z115, z116, z118, z122, z126, z255, z854, z1000, z1111, z7143, z9999, z10000, zM, zMn, nI_add, pk_mul, zsub, zlt_t, zlt_f, zle_t, zle_f, zeq_t, zeq_f, zeM1, zeM2, zeM3, zltM, zleM, nI_clamp, zin, false_or, or_false, true_and, and_true, false_and, and_false, not_true_eq_false, not_false_eq_true, true_imp_iff, false_imp_iff, implies_true, if_true, if_false]
  · rw [z0, z7, decide_eq_false h, if_neg h, bI_f]
    simp (disch := omega) only [jn, Nat.reduceAdd, Nat.reduceSub, Nat.reduceMul, z0, z1, z2, z3, z4, z5, z6, z7, z8, z9, z10, z12, z16, z18, z24, z31, z33, z48, z49, z51, z53, z55, z57, z59, z60, z61, z63, z66, z97, z99, z111, z114, z115, z116, z118, z122, z126, z255, z854, z1000, z1111, z7143, z9999, z10000, zM, zMn, nI_add, pk_mul, zsub, zlt_t, zlt_f, zle_t, zle_f, zeq_t, zeq_f, zeM1, zeM2, zeM3, zltM, zleM, nI_clamp, zin, false_or, or_false, true_and, and_true, false_and, and_false, not_true_eq_false, not_false_eq_true, true_imp_iff, false_imp_iff, implies_true, if_true, if_false]
def knN (T : AT) (i : Nat) : Nat → Int32
  | 0 => nI 0
  | r + 1 => knN T i r ||| (biN (seN T i r 0) ||| biN (seN T i r 1))
def wkN (T : AT) (i : Nat) : Nat → Nat
  | 0 => 0
  | r + 1 => wkN T i r + (if plN T r i = 0 then 0 else 1)
theorem wkN_le (T : AT) (i : Nat) : ∀ r, wkN T i r ≤ r
  | 0 => Nat.le_refl _
  | r + 1 => by
    have := wkN_le T i r
    show wkN T i r + _ ≤ _
    split <;> omega
/-- in how many ticks an envelope arrives, these inns open -/
def blk (T : AT) (op : Nat → Bool) (j k : Nat) : Bool := (if T.2.2.2.2.2.2.2.1 j 3 = 0 then decide (T.2.2.2.2.2.2.2.1 j 1 < k) else decide (k < T.2.2.2.2.2.2.2.1 j 1)) && !op (T.2.2.2.2.1 (T.2.2.2.2.2.2.2.1 j 0) k)
def arN (T : AT) (op : Nat → Bool) (j : Nat) : Int32 := if blk T op j 1 || blk T op j 2 || blk T op j 3 then nM else if T.2.2.2.2.2.2.2.1 j 3 = 0 then nI (4 - T.2.2.2.2.2.2.2.1 j 1) else nI (T.2.2.2.2.2.2.2.1 j 1)
def lsN (T : AT) (op : Nat → Bool) : Nat → Nat
  | 0 => 0
  | j + 1 => lsN T op j + (if arN T op j = nM then 1 else 0)
theorem lsN_le (T : AT) (op : Nat → Bool) : ∀ r, lsN T op r ≤ r
  | 0 => Nat.le_refl _
  | r + 1 => by
    have := lsN_le T op r
    show lsN T op r + _ ≤ _
    split <;> omega
def opB (op : Nat → Bool) (i : Nat) : Nat → Bool := fun k => if k = i then false else op k
section
variable {u : St} {T : AT} {g : Nat → Bool}
theorem X2_known (H : CR u T g) (V : AV T g) {i : Nat} (hi : i < 8) {post : Int32 → Prop} (hp : post (knN T i T.1)) : wp_X2_knownMask u (nI i) post := by
  have hn := v_n V
  unfold wp_X2_knownMask
  rw [z0]
  refine lpnA T.1 (fun j x => x = knN T i j) ?_ ?_ (Nat.zero_le _) rfl
  · rintro K j x hj rfl hk
    simp (disch := omega) only [jn, Nat.reduceAdd, Nat.reduceSub, Nat.reduceMul, z0, z1, z2, z3, z4, z5, z6, z7, z8, z9, z10, z12, z16, z18, z24, z31, z33, z48, z49, z51, z53, z55, z57, z59, z60, z61, z63, z66, z97, z99, z111, z114, z115, z116, z118, z122, z126, z255, z854, z1000, z1111, z7143, z9999, z10000, zM, zMn, nI_add, pk_mul, zsub, zlt_t, zlt_f, zle_t, zle_f, zeq_t, zeq_f, zeM1, zeM2, zeM3, zltM, zleM, nI_clamp, zin, false_or, or_false, true_and, and_true, false_and, and_false, not_true_eq_false, not_false_eq_true, true_imp_iff, false_imp_iff, implies_true, if_true, if_false, S_openMask, S_keys, S_roadCount, S_roadInns, S_roadKeys, S_roadHalls, S_envelopeCount, S_envelopeNumbers, S_letters, S_answerRoads, S_answerGot, S_counts, sS_openMask, sS_roadCount, sS_envelopeCount, sS_answerGot, aS_keys, aS_roadInns, aS_roadKeys, aS_roadHalls, aS_envelopeNumbers, aS_letters, aS_answerRoads, aS_counts, wS_keys, wS_roadInns, wS_roadKeys, wS_roadHalls, wS_envelopeNumbers, wS_letters, wS_answerRoads, wS_counts, c_n H]
    refine X2_seen H V hj hi (by decide) ?_
    rw [X2_innBit]
    refine X2_seen H V hj hi (by decide) ?_
    rw [X2_innBit]
    exact hk _ rfl
  · rintro K x rfl
    simp (disch := omega) only [jn, Nat.reduceAdd, Nat.reduceSub, Nat.reduceMul, z0, z1, z2, z3, z4, z5, z6, z7, z8, z9, z10, z12, z16, z18, z24, z31, z33, z48, z49, z51, z53, z55, z57, z59, z60, z61, z63, z66, z97, z99, z111, z114, z115, z116, z118, z122, z126, z255, z854, z1000, z1111, z7143, z9999, z10000, zM, zMn, nI_add, pk_mul, zsub, zlt_t, zlt_f, zle_t, zle_f, zeq_t, zeq_f, zeM1, zeM2, zeM3, zltM, zleM, nI_clamp, zin, false_or, or_false, true_and, and_true, false_and, and_false, not_true_eq_false, not_false_eq_true, true_imp_iff, false_imp_iff, implies_true, if_true, if_false, S_openMask, S_keys, S_roadCount, S_roadInns, S_roadKeys, S_roadHalls, S_envelopeCount, S_envelopeNumbers, S_letters, S_answerRoads, S_answerGot, S_counts, sS_openMask, sS_roadCount, sS_envelopeCount, sS_answerGot, aS_keys, aS_roadInns, aS_roadKeys, aS_roadHalls, aS_envelopeNumbers, aS_letters, aS_answerRoads, aS_counts, wS_keys, wS_roadInns, wS_roadKeys, wS_roadHalls, wS_envelopeNumbers, wS_letters, wS_answerRoads, wS_counts, c_n H]
    exact hp
theorem X2_through (H : CR u T g) (V : AV T g) {i : Nat} (hi : i < 8) {post : Int32 → Prop} (hp : post (nI (wkN T i T.1))) : wp_X2_roadsThrough u (nI i) post := by
  have hn := v_n V
  unfold wp_X2_roadsThrough
  rw [z0]
  refine lpnA T.1 (fun j x => x = nI (wkN T i j)) ?_ ?_ (Nat.zero_le _) rfl
  · rintro K j x hj rfl hk
    simp (disch := omega) only [jn, Nat.reduceAdd, Nat.reduceSub, Nat.reduceMul, z0, z1, z2, z3, z4, z5, z6, z7, z8, z9, z10, z12, z16, z18, z24, z31, z33, z48, z49, z51, z53, z55, z57, z59, z60, z61, z63, z66, z97, z99, z111, z114, z115, z116, z118, z122, z126, z255, z854, z1000, z1111, z7143, z9999, z10000, zM, zMn, nI_add, pk_mul, zsub, zlt_t, zlt_f, zle_t, zle_f, zeq_t, zeq_f, zeM1, zeM2, zeM3, zltM, zleM, nI_clamp, zin, false_or, or_false, true_and, and_true, false_and, and_false, not_true_eq_false, not_false_eq_true, true_imp_iff, false_imp_iff, implies_true, if_true, if_false, S_openMask, S_keys, S_roadCount, S_roadInns, S_roadKeys, S_roadHalls, S_envelopeCount, S_envelopeNumbers, S_letters, S_answerRoads, S_answerGot, S_counts, sS_openMask, sS_roadCount, sS_envelopeCount, sS_answerGot, aS_keys, aS_roadInns, aS_roadKeys, aS_roadHalls, aS_envelopeNumbers, aS_letters, aS_answerRoads, aS_counts, wS_keys, wS_roadInns, wS_roadKeys, wS_roadHalls, wS_envelopeNumbers, wS_letters, wS_answerRoads, wS_counts, c_n H]
    refine X2_placeOn H V hj hi ?_
    have h3 := plN_le (T := T) (r := j) (i := i)
    have h4 : nI (wkN T i (j + 1)) = nI (wkN T i j + (if plN T j i = 0 then 0 else 1)) := rfl
    unfold nP
    by_cases h0 : plN T j i = 0
    · rw [if_pos h0] at h4 ⊢
      simp (disch := omega) only [jn, Nat.reduceAdd, Nat.reduceSub, Nat.reduceMul, z0, z1, z2, z3, z4, z5, z6, z7, z8, z9, z10, z12, z16, z18, z24, z31, z33, z48, z49, z51, z53, z55, z57, z59, z60, z61, z63, z66, z97, z99, z111, z114, z115, z116, z118, z122, z126, z255, z854, z1000, z1111, z7143, z9999, z10000, zM, zMn, nI_add, pk_mul, zsub, zlt_t, zlt_f, zle_t, zle_f, zeq_t, zeq_f, zeM1, zeM2, zeM3, zltM, zleM, nI_clamp, zin, false_or, or_false, true_and, and_true, false_and, and_false, not_true_eq_false, not_false_eq_true, true_imp_iff, false_imp_iff, implies_true, if_true, if_false]
      exact hk _ h4.symm
    · rw [if_neg h0] at h4 ⊢
      simp (disch := omega) only [jn, Nat.reduceAdd, Nat.reduceSub, Nat.reduceMul, z0, z1, z2, z3, z4, z5, z6, z7, z8, z9, z10, z12, z16, z18, z24, z31, z33, z48, z49, z51, z53, z55, z57, z59, z60, z61, z63, z66, z97, z99, z111, z114, z115, z116, z118, z122, z126, z255, z854, z1000, z1111, z7143, z9999, z10000, zM, zMn, nI_add, pk_mul, zsub, zlt_t, zlt_f, zle_t, zle_f, zeq_t, zeq_f, zeM1, zeM2, zeM3, zltM, zleM, nI_clamp, zin, false_or, or_false, true_and, and_true, false_and, and_false, not_true_eq_false, not_false_eq_true, true_imp_iff, false_imp_iff, implies_true, if_true, if_false]
      exact hk _ h4.symm
  · rintro K x rfl
    simp (disch := omega) only [jn, Nat.reduceAdd, Nat.reduceSub, Nat.reduceMul, z0, z1, z2, z3, z4, z5, z6, z7, z8, z9, z10, z12, z16, z18, z24, z31, z33, z48, z49, z51, z53, z55, z57, z59, z60, z61, z63, z66, z97, z99, z111, z114, z115, z116, z118, z122, z126, z255, z854, z1000, z1111, z7143, z9999, z10000, zM, zMn, nI_add, pk_mul, zsub, zlt_t, zlt_f, zle_t, zle_f, zeq_t, zeq_f, zeM1, zeM2, zeM3, zltM, zleM, nI_clamp, zin, false_or, or_false, true_and, and_true, false_and, and_false, not_true_eq_false, not_false_eq_true, true_imp_iff, false_imp_iff, implies_true, if_true, if_false, S_openMask, S_keys, S_roadCount, S_roadInns, S_roadKeys, S_roadHalls, S_envelopeCount, S_envelopeNumbers, S_letters, S_answerRoads, S_answerGot, S_counts, sS_openMask, sS_roadCount, sS_envelopeCount, sS_answerGot, aS_keys, aS_roadInns, aS_roadKeys, aS_roadHalls, aS_envelopeNumbers, aS_letters, aS_answerRoads, aS_counts, wS_keys, wS_roadInns, wS_roadKeys, wS_roadHalls, wS_envelopeNumbers, wS_letters, wS_answerRoads, wS_counts, c_n H]
    exact hp
theorem X2_isUsed (H : CR u T g0) (V : AV T g0) {r : Nat} (hr : r < 7) {post : Int32 → Prop} (h1 : (∃ j, j < T.2.1 ∧ T.2.2.2.2.2.2.2.1 j 0 = r) → post (nI 1)) (h0 : (∀ j, j < T.2.1 → T.2.2.2.2.2.2.2.1 j 0 ≠ r) → post (nI 0)) : wp_X2_isUsed u (nI r) post := by
  have he := v_e V
  have hn := v_n V
  unfold wp_X2_isUsed
  rw [z0]
  refine lpn1 T.2.1 (fun j => ∀ k, k < j → T.2.2.2.2.2.2.2.1 k 0 ≠ r) ?_ ?_ (Nat.zero_le _) (fun k hk => absurd hk (Nat.not_lt_zero _))
  · intro K j hj hP hk
    have hv := (v_ev V hj rfl).1
    by_cases h : T.2.2.2.2.2.2.2.1 j 0 = r
    · simp (disch := omega) only [jn, Nat.reduceAdd, Nat.reduceSub, Nat.reduceMul, z0, z1, z2, z3, z4, z5, z6, z7, z8, z9, z10, z12, z16, z18, z24, z31, z33, z48, z49, z51, z53, z55, z57, z59, z60, z61, z63, z66, z97, z99, z111, z114, z115, z116, z118, z122, z126, z255, z854, z1000, z1111, z7143, z9999, z10000, zM, zMn, nI_add, pk_mul, zsub, zlt_t, zlt_f, zle_t, zle_f, zeq_t, zeq_f, zeM1, zeM2, zeM3, zltM, zleM, nI_clamp, zin, false_or, or_false, true_and, and_true, false_and, and_false, not_true_eq_false, not_false_eq_true, true_imp_iff, false_imp_iff, implies_true, if_true, if_false, S_openMask, S_keys, S_roadCount, S_roadInns, S_roadKeys, S_roadHalls, S_envelopeCount, S_envelopeNumbers, S_letters, S_answerRoads, S_answerGot, S_counts, sS_openMask, sS_roadCount, sS_envelopeCount, sS_answerGot, aS_keys, aS_roadInns, aS_roadKeys, aS_roadHalls, aS_envelopeNumbers, aS_letters, aS_answerRoads, aS_counts, wS_keys, wS_roadInns, wS_roadKeys, wS_roadHalls, wS_envelopeNumbers, wS_letters, wS_answerRoads, wS_counts, c_e H, X2_of H V hj rfl]
      exact h1 ⟨j, hj, h⟩
    · simp (disch := omega) only [jn, Nat.reduceAdd, Nat.reduceSub, Nat.reduceMul, z0, z1, z2, z3, z4, z5, z6, z7, z8, z9, z10, z12, z16, z18, z24, z31, z33, z48, z49, z51, z53, z55, z57, z59, z60, z61, z63, z66, z97, z99, z111, z114, z115, z116, z118, z122, z126, z255, z854, z1000, z1111, z7143, z9999, z10000, zM, zMn, nI_add, pk_mul, zsub, zlt_t, zlt_f, zle_t, zle_f, zeq_t, zeq_f, zeM1, zeM2, zeM3, zltM, zleM, nI_clamp, zin, false_or, or_false, true_and, and_true, false_and, and_false, not_true_eq_false, not_false_eq_true, true_imp_iff, false_imp_iff, implies_true, if_true, if_false, S_openMask, S_keys, S_roadCount, S_roadInns, S_roadKeys, S_roadHalls, S_envelopeCount, S_envelopeNumbers, S_letters, S_answerRoads, S_answerGot, S_counts, sS_openMask, sS_roadCount, sS_envelopeCount, sS_answerGot, aS_keys, aS_roadInns, aS_roadKeys, aS_roadHalls, aS_envelopeNumbers, aS_letters, aS_answerRoads, aS_counts, wS_keys, wS_roadInns, wS_roadKeys, wS_roadHalls, wS_envelopeNumbers, wS_letters, wS_answerRoads, wS_counts, c_e H, X2_of H V hj rfl]
      exact hk (fun k hk2 => by
        by_cases e : k = j
        · rw [e]; exact h
        · exact hP k (by omega))
  · intro K hP
    simp (disch := omega) only [jn, Nat.reduceAdd, Nat.reduceSub, Nat.reduceMul, z0, z1, z2, z3, z4, z5, z6, z7, z8, z9, z10, z12, z16, z18, z24, z31, z33, z48, z49, z51, z53, z55, z57, z59, z60, z61, z63, z66, z97, z99, z111, z114, z115, z116, z118, z122, z126, z255, z854, z1000, z1111, z7143, z9999, z10000, zM, zMn, nI_add, pk_mul, zsub, zlt_t, zlt_f, zle_t, zle_f, zeq_t, zeq_f, zeM1, zeM2, zeM3, zltM, zleM, nI_clamp, zin, false_or, or_false, true_and, and_true, false_and, and_false, not_true_eq_false, not_false_eq_true, true_imp_iff, false_imp_iff, implies_true, if_true, if_false, S_openMask, S_keys, S_roadCount, S_roadInns, S_roadKeys, S_roadHalls, S_envelopeCount, S_envelopeNumbers, S_letters, S_answerRoads, S_answerGot, S_counts, sS_openMask, sS_roadCount, sS_envelopeCount, sS_answerGot, aS_keys, aS_roadInns, aS_roadKeys, aS_roadHalls, aS_envelopeNumbers, aS_letters, aS_answerRoads, aS_counts, wS_keys, wS_roadInns, wS_roadKeys, wS_roadHalls, wS_envelopeNumbers, wS_letters, wS_answerRoads, wS_counts, c_e H]
    exact h0 hP
theorem X2_ticks (H : CR u T g) (V : AV T g) {j : Nat} (hj : j < T.2.1) (hg : g j = false) {m : Int32} {op : Nat → Bool} (hm : ∀ i, i < 8 → bt m i = op i) {post : Int32 → Prop} (hp : post (arN T op j)) : wp_X2_ticksLeft u (nI j) m post := by
  have he := v_e V
  have hn := v_n V
  obtain ⟨hr, -, hd⟩ := v_ev V hj hg
  have q1 := v_ri V hr (p := 1) (by omega) (by omega)
  have q2 := v_ri V hr (p := 2) (by omega) (by omega)
  have q3 := v_ri V hr (p := 3) (by omega) (by omega)
  have m1 := hm _ q1
  have m2 := hm _ q2
  have m3 := hm _ q3
  unfold wp_X2_ticksLeft
  simp (disch := omega) only [jn, Nat.reduceAdd, Nat.reduceSub, Nat.reduceMul, z0, z1, z2, z3, z4, z5, z6, z7, z8, z9, z10, z12, z16, z18, z24, z31, z33, z48, z49, z51, z53, z55, z57, z59, z60, z61, z63, z66, z97, z99, z111, z114, z115, z116, z118, z122, z126, z255, z854, z1000, z1111, z7143, z9999, z10000, zM, zMn, nI_add, pk_mul, zsub, zlt_t, zlt_f, zle_t, zle_f, zeq_t, zeq_f, zeM1, zeM2, zeM3, zltM, zleM, nI_clamp, zin, false_or, or_false, true_and, and_true, false_and, and_false, not_true_eq_false, not_false_eq_true, true_imp_iff, false_imp_iff, implies_true, if_true, if_false, X2_of H V hj hg]
  unfold arN blk at hp
  generalize T.2.2.2.2.2.2.2.1 j 1 = p at *
  generalize T.2.2.2.2.2.2.2.1 j 3 = d at *
  have hpp : p = 0 ∨ p = 1 ∨ p = 2 ∨ p = 3 ∨ p = 4 := by omega
  rcases hd with ⟨rfl, hd⟩ | ⟨rfl, hd⟩
  · simp (disch := omega) only [jn, Nat.reduceAdd, Nat.reduceSub, Nat.reduceMul, z0, z1, z2, z3, z4, z5, z6, z7, z8, z9, z10, z12, z16, z18, z24, z31, z33, z48, z49, z51, z53, z55, z57, z59, z60, z61, z63, z66, z97, z99, z111, z114, z115, z116, z118, z122, z126, z255, z854, z1000, z1111, z7143, z9999, z10000, zM, zMn, nI_add, pk_mul, zsub, zlt_t, zlt_f, zle_t, zle_f, zeq_t, zeq_f, zeM1, zeM2, zeM3, zltM, zleM, nI_clamp, zin, false_or, or_false, true_and, and_true, false_and, and_false, not_true_eq_false, not_false_eq_true, true_imp_iff, false_imp_iff, implies_true, if_true, if_false]
    refine ⟨5, ?_⟩
    rcases (show p = 0 ∨ p = 1 ∨ p = 2 ∨ p = 3 by omega) with rfl | rfl | rfl | rfl <;> simp (disch := omega) only [lpc, jn, Nat.reduceAdd, Nat.reduceSub, Nat.reduceMul, z0, z1, z2, z3, z4, z5, z6, z7, z8, z9, z10, z12, z16, z18, z24, z31, z33, z48, z49, z51, z53, z55, z57, z59, z60, z61, z63, z66, z97, z99, z111, z114, z115, z116, z118, z122, z126, z255, z854, z1000, z1111, z7143, z9999, z10000, zM, zMn, nI_add, pk_mul, zsub, zlt_t, zlt_f, zle_t, zle_f, zeq_t, zeq_f, zeM1, zeM2, zeM3, zltM, zleM, nI_clamp, zin, false_or, or_false, true_and, and_true, false_and, and_false, not_true_eq_false, not_false_eq_true, true_imp_iff, false_imp_iff, implies_true, if_true, if_false, X2_innAt H V hr, X2_isInMask, bI_0, m1, m2, m3] <;> cases o1 : op (T.2.2.2.2.1 (T.2.2.2.2.2.2.2.1 j 0) 1) <;> cases o2 : op (T.2.2.2.2.1 (T.2.2.2.2.2.2.2.1 j 0) 2) <;> cases o3 : op (T.2.2.2.2.1 (T.2.2.2.2.2.2.2.1 j 0) 3) <;> simp [o1, o2, o3] at hp ⊢ <;> exact hp
  · simp (disch := omega) only [jn, Nat.reduceAdd, Nat.reduceSub, Nat.reduceMul, z0, z1, z2, z3, z4, z5, z6, z7, z8, z9, z10, z12, z16, z18, z24, z31, z33, z48, z49, z51, z53, z55, z57, z59, z60, z61, z63, z66, z97, z99, z111, z114, z115, z116, z118, z122, z126, z255, z854, z1000, z1111, z7143, z9999, z10000, zM, zMn, nI_add, pk_mul, zsub, zlt_t, zlt_f, zle_t, zle_f, zeq_t, zeq_f, zeM1, zeM2, zeM3, zltM, zleM, nI_clamp, zin, false_or, or_false, true_and, and_true, false_and, and_false, not_true_eq_false, not_false_eq_true, true_imp_iff, false_imp_iff, implies_true, if_true, if_false]
    refine ⟨5, ?_⟩
    rcases (show p = 1 ∨ p = 2 ∨ p = 3 ∨ p = 4 by omega) with rfl | rfl | rfl | rfl <;> simp (disch := omega) only [lpc, jn, Nat.reduceAdd, Nat.reduceSub, Nat.reduceMul, z0, z1, z2, z3, z4, z5, z6, z7, z8, z9, z10, z12, z16, z18, z24, z31, z33, z48, z49, z51, z53, z55, z57, z59, z60, z61, z63, z66, z97, z99, z111, z114, z115, z116, z118, z122, z126, z255, z854, z1000, z1111, z7143, z9999, z10000, zM, zMn, nI_add, pk_mul, zsub, zlt_t, zlt_f, zle_t, zle_f, zeq_t, zeq_f, zeM1, zeM2, zeM3, zltM, zleM, nI_clamp, zin, false_or, or_false, true_and, and_true, false_and, and_false, not_true_eq_false, not_false_eq_true, true_imp_iff, false_imp_iff, implies_true, if_true, if_false, X2_innAt H V hr, X2_isInMask, bI_0, m1, m2, m3] <;> cases o1 : op (T.2.2.2.2.1 (T.2.2.2.2.2.2.2.1 j 0) 1) <;> cases o2 : op (T.2.2.2.2.1 (T.2.2.2.2.2.2.2.1 j 0) 2) <;> cases o3 : op (T.2.2.2.2.1 (T.2.2.2.2.2.2.2.1 j 0) 3) <;> simp [o1, o2, o3] at hp ⊢ <;> exact hp
theorem arN_M {op : Nat → Bool} {j : Nat} (h : T.2.2.2.2.2.2.2.1 j 1 ≤ 4) : arN T op j = nM ∨ ∃ k, k ≤ 4 ∧ arN T op j = nI k := by
  unfold arN
  split
  · exact Or.inl rfl
  · split
    · exact Or.inr ⟨_, Nat.sub_le _ _, rfl⟩
    · exact Or.inr ⟨_, h, rfl⟩
theorem X2_lost (H : CR u T g0) (V : AV T g0) {i : Nat} (hi : i < 8) {post : Int32 → Prop} (hp : post (nI (lsN T (opB T.2.2.1 i) T.2.1))) : wp_X2_lostWithout u (nI i) post := by
  have he := v_e V
  unfold wp_X2_lostWithout
  rw [z0]
  have hm : ∀ k, k < 8 → bt (u.1 &&& ((nI 1 <<< (nI i &&& nI 31)) ^^^ nM)) k = opB T.2.2.1 i k := by
    intro k hk
    rw [zoff (by omega) (by omega), c_op H hk]
    rfl
  refine lpnA T.2.1 (fun j x => x = nI (lsN T (opB T.2.2.1 i) j)) ?_ ?_ (Nat.zero_le _) rfl
  · rintro K j x hj rfl hk
    simp (disch := omega) only [jn, Nat.reduceAdd, Nat.reduceSub, Nat.reduceMul, z0, z1, z2, z3, z4, z5, z6, z7, z8, z9, z10, z12, z16, z18, z24, z31, z33, z48, z49, z51, z53, z55, z57, z59, z60, z61, z63, z66, z97, z99, z111, z114, z115, z116, z118, z122, z126, z255, z854, z1000, z1111, z7143, z9999, z10000, zM, zMn, nI_add, pk_mul, zsub, zlt_t, zlt_f, zle_t, zle_f, zeq_t, zeq_f, zeM1, zeM2, zeM3, zltM, zleM, nI_clamp, zin, false_or, or_false, true_and, and_true, false_and, and_false, not_true_eq_false, not_false_eq_true, true_imp_iff, false_imp_iff, implies_true, if_true, if_false, S_openMask, S_keys, S_roadCount, S_roadInns, S_roadKeys, S_roadHalls, S_envelopeCount, S_envelopeNumbers, S_letters, S_answerRoads, S_answerGot, S_counts, sS_openMask, sS_roadCount, sS_envelopeCount, sS_answerGot, aS_keys, aS_roadInns, aS_roadKeys, aS_roadHalls, aS_envelopeNumbers, aS_letters, aS_answerRoads, aS_counts, wS_keys, wS_roadInns, wS_roadKeys, wS_roadHalls, wS_envelopeNumbers, wS_letters, wS_answerRoads, wS_counts, c_e H]
    refine X2_ticks H V hj rfl hm ?_
    have h4 : nI (lsN T (opB T.2.2.1 i) (j + 1)) = nI (lsN T (opB T.2.2.1 i) j + (if arN T (opB T.2.2.1 i) j = nM then 1 else 0)) := rfl
    have hv := v_ev V hj rfl
    unfold envOk at hv
    rcases arN_M (T := T) (op := opB T.2.2.1 i) (j := j) (by omega) with h0 | ⟨k, hk4, h0⟩
    · rw [if_pos h0] at h4
      rw [h0]
      simp (disch := omega) only [jn, Nat.reduceAdd, Nat.reduceSub, Nat.reduceMul, z0, z1, z2, z3, z4, z5, z6, z7, z8, z9, z10, z12, z16, z18, z24, z31, z33, z48, z49, z51, z53, z55, z57, z59, z60, z61, z63, z66, z97, z99, z111, z114, z115, z116, z118, z122, z126, z255, z854, z1000, z1111, z7143, z9999, z10000, zM, zMn, nI_add, pk_mul, zsub, zlt_t, zlt_f, zle_t, zle_f, zeq_t, zeq_f, zeM1, zeM2, zeM3, zltM, zleM, nI_clamp, zin, false_or, or_false, true_and, and_true, false_and, and_false, not_true_eq_false, not_false_eq_true, true_imp_iff, false_imp_iff, implies_true, if_true, if_false]
      exact hk _ h4.symm
    · rw [if_neg (by rw [h0, zeM1 (by omega)]; exact not_false)] at h4
      rw [h0]
      simp (disch := omega) only [jn, Nat.reduceAdd, Nat.reduceSub, Nat.reduceMul, z0, z1, z2, z3, z4, z5, z6, z7, z8, z9, z10, z12, z16, z18, z24, z31, z33, z48, z49, z51, z53, z55, z57, z59, z60, z61, z63, z66, z97, z99, z111, z114, z115, z116, z118, z122, z126, z255, z854, z1000, z1111, z7143, z9999, z10000, zM, zMn, nI_add, pk_mul, zsub, zlt_t, zlt_f, zle_t, zle_f, zeq_t, zeq_f, zeM1, zeM2, zeM3, zltM, zleM, nI_clamp, zin, false_or, or_false, true_and, and_true, false_and, and_false, not_true_eq_false, not_false_eq_true, true_imp_iff, false_imp_iff, implies_true, if_true, if_false]
      exact hk _ h4.symm
  · rintro K x rfl
    simp (disch := omega) only [jn, Nat.reduceAdd, Nat.reduceSub, Nat.reduceMul, z0, z1, z2, z3, z4, z5, z6, z7, z8, z9, z10, z12, z16, z18, z24, z31, z33, z48, z49, z51, z53, z55, z57, z59, z60, z61, z63, z66, z97, z99, z111, z114, z115, z116, z118, z122, z126, z255, z854, z1000, z1111, z7143, z9999, z10000, zM, zMn, nI_add, pk_mul, zsub, zlt_t, zlt_f, zle_t, zle_f, zeq_t, zeq_f, zeM1, zeM2, zeM3, zltM, zleM, nI_clamp, zin, false_or, or_false, true_and, and_true, false_and, and_false, not_true_eq_false, not_false_eq_true, true_imp_iff, false_imp_iff, implies_true, if_true, if_false, S_openMask, S_keys, S_roadCount, S_roadInns, S_roadKeys, S_roadHalls, S_envelopeCount, S_envelopeNumbers, S_letters, S_answerRoads, S_answerGot, S_counts, sS_openMask, sS_roadCount, sS_envelopeCount, sS_answerGot, aS_keys, aS_roadInns, aS_roadKeys, aS_roadHalls, aS_envelopeNumbers, aS_letters, aS_answerRoads, aS_counts, wS_keys, wS_roadInns, wS_roadKeys, wS_roadHalls, wS_envelopeNumbers, wS_letters, wS_answerRoads, wS_counts, c_e H]
    exact hp
end

