/-! the digest -/
def mx (h : Int64) (v : Int32) : Int64 := ((31 : Int64) * h) + (Int32.toInt64 v)
def rowH (f : Nat → Int32) (h : Int64) : Nat → Int64
  | 0 => h
  | k + 1 => mx (rowH f h k) (f k)
def innH (T : AT) (h : Int64) : Nat → Int64
  | 0 => h
  | k + 1 => mx (mx (mx (mx (innH T h k) (bI (T.2.2.1 k))) (nI (T.2.2.2.1 k))) (knN T k T.1)) (nI (lsN T (opB T.2.2.1 k) T.2.1))
def roaH (T : AT) (h : Int64) : Nat → Int64
  | 0 => h
  | k + 1 => mx (mx (mx (mx (mx (roaH T h k) (nI (T.2.2.2.2.1 k 1))) (nI (T.2.2.2.2.1 k 2))) (nI (T.2.2.2.2.1 k 3))) (nI (T.2.2.2.2.2.2.1 k))) (bI (stN T k))
def envH (T : AT) (h : Int64) : Nat → Int64
  | 0 => h
  | k + 1 => mx (mx (mx (mx (mx (envH T h k) (nI (T.2.2.2.2.2.2.2.1 k 0))) (nI (T.2.2.2.2.2.2.2.1 k 1))) (nI (T.2.2.2.2.2.2.2.1 k 2))) (nI (T.2.2.2.2.2.2.2.1 k 3))) (arN T T.2.2.1 k)
def lesH (T : AT) (h : Int64) : Nat → Int64
  | 0 => h
  | k + 1 => mx (lesH T h k) (leN T (k + 1))
def dgN (T : AT) : Int64 := lesH T (rowH T.2.2.2.2.2.2.2.2.1 (envH T (roaH T (innH T (rowH T.2.2.2.2.2.2.2.2.2.2.2 (mx (mx (mx 4726 (nI T.1)) (nI T.2.1)) T.2.2.2.2.2.2.2.2.2.2.1) 5) 8) T.1) T.2.1) 4) 3
theorem X3_mixed {h : Int64} {v : Int32} {post : Int64 → Prop} : wp_X3_mixed h v post = post (mx h v) := rfl
theorem rowH_c {f k : Nat → Int32} {h : Int64} : ∀ n, (∀ j, j < n → f j = k j) → rowH f h n = rowH k h n
  | 0, _ => rfl
  | n + 1, q => by
    show mx (rowH f h n) (f n) = mx (rowH k h n) (k n)
    rw [rowH_c n (fun j hj => q j (by omega)), q n (by omega)]
theorem X3_mixedRow {n : Nat} (hn : n < 2147483648) {f : Nat → Int32} {h : Int64} {post : Int64 → Prop} (hp : post (rowH f h n)) : wp_X3_mixedRow n f h post := by
  unfold wp_X3_mixedRow
  rw [z0]
  refine lpnA n (fun j x => x = rowH f h j) ?_ ?_ (Nat.zero_le _) rfl
  · rintro K j x hj rfl hk
    simp (disch := omega) only [jn, Nat.reduceAdd, Nat.reduceSub, Nat.reduceMul, z0, z1, z2, z3, z4, z5, z6, z7, z8, z9, z10, z12, z16, z18, z24, z31, z33, z48, z49, z51, z53, z55, z57, z59, z60, z61, z63, z66, z97, z99, z111, z114, z115, z116, z118, z122, z126, z255, z854, z1000, z1111, z7143, z9999, z10000, zM, zMn, nI_add, pk_mul, zsub, zlt_t, zlt_f, zle_t, zle_f, zeq_t, zeq_f, zeM1, zeM2, zeM3, zltM, zleM, nI_clamp, zin, false_or, or_false, true_and, and_true, false_and, and_false, not_true_eq_false, not_false_eq_true, true_imp_iff, false_imp_iff, implies_true, if_true, if_false, X3_mixed]
    exact hk _ rfl
  · rintro K x rfl
    simp (disch := omega) only [jn, Nat.reduceAdd, Nat.reduceSub, Nat.reduceMul, z0, z1, z2, z3, z4, z5, z6, z7, z8, z9, z10, z12, z16, z18, z24, z31, z33, z48, z49, z51, z53, z55, z57, z59, z60, z61, z63, z66, z97, z99, z111, z114, z115, z116, z118, z122, z126, z255, z854, z1000, z1111, z7143, z9999, z10000, zM, zMn, nI_add, pk_mul, zsub, zlt_t, zlt_f, zle_t, zle_f, zeq_t, zeq_f, zeM1, zeM2, zeM3, zltM, zleM, nI_clamp, zin, false_or, or_false, true_and, and_true, false_and, and_false, not_true_eq_false, not_false_eq_true, true_imp_iff, false_imp_iff, implies_true, if_true, if_false]
    exact hp
section
variable {N : Ne} {T : AT}
theorem bI_jn {b : Bool} {K : Int32 → Prop} (h : K (bI b)) : jn K (fun (J : Int32 → Prop) => (bI b = nI 0 → J (nI 0)) ∧ (¬ bI b = nI 0 → J (nI 1))) := by
  cases b
  · exact ⟨fun _ => h, fun q => absurd rfl q⟩
  · exact ⟨fun q => absurd q (by decide), fun _ => h⟩
theorem X3_mixedInns (H : CR N.1 T g0) (V : AV T g0) {h : Int64} {post : Int64 → Prop} (hp : post (innH T h 8)) : wp_X3_mixedInns N h post := by
  have hn := v_n V
  unfold wp_X3_mixedInns
  simp only [z0, z1, z8]
  refine lpnA 8 (fun j x => x = innH T h j) ?_ ?_ (by omega) rfl
  · rintro K j x hj rfl hk
    refine ⟨fun q => absurd q (nI_ge hj (by omega)), fun _ => ?_⟩
    rw [X2_hasOpen H hj]
    refine bI_jn ?_
    simp (disch := omega) only [S_openMask, S_keys, S_roadCount, S_roadInns, S_roadKeys, S_roadHalls, S_envelopeCount, S_envelopeNumbers, S_letters, S_answerRoads, S_answerGot, S_counts, sS_openMask, sS_roadCount, sS_envelopeCount, sS_answerGot, aS_keys, aS_roadInns, aS_roadKeys, aS_roadHalls, aS_envelopeNumbers, aS_letters, aS_answerRoads, aS_counts, wS_keys, wS_roadInns, wS_roadKeys, wS_roadHalls, wS_envelopeNumbers, wS_letters, wS_answerRoads, wS_counts, V_slots, V_next, V_size, sV_slots, sV_next, sV_size, N_now, N_text, N_saved, sN_now, sN_text, sN_saved, X3_mixed, X3_read, c_key H hj]
    refine X2_known H V hj ?_
    refine X2_lost H V hj ?_
    simp (disch := omega) only [jn, Nat.reduceAdd, Nat.reduceSub, Nat.reduceMul, z0, z1, z2, z3, z4, z5, z6, z7, z8, z9, z10, z12, z16, z18, z24, z31, z33, z48, z49, z51, z53, z55, z57, z59, z60, z61, z63, z66, z97, z99, z111, z114, z115, z116, z118, z122, z126, z255, z854, z1000, z1111, z7143, z9999, z10000, zM, zMn, nI_add, pk_mul, zsub, zlt_t, zlt_f, zle_t, zle_f, zeq_t, zeq_f, zeM1, zeM2, zeM3, zltM, zleM, nI_clamp, zin, false_or, or_false, true_and, and_true, false_and, and_false, not_true_eq_false, not_false_eq_true, true_imp_iff, false_imp_iff, implies_true, if_true, if_false, X3_mixed]
    exact hk _ rfl
  · rintro K x rfl
    simp (disch := omega) only [jn, Nat.reduceAdd, Nat.reduceSub, Nat.reduceMul, z0, z1, z2, z3, z4, z5, z6, z7, z8, z9, z10, z12, z16, z18, z24, z31, z33, z48, z49, z51, z53, z55, z57, z59, z60, z61, z63, z66, z97, z99, z111, z114, z115, z116, z118, z122, z126, z255, z854, z1000, z1111, z7143, z9999, z10000, zM, zMn, nI_add, pk_mul, zsub, zlt_t, zlt_f, zle_t, zle_f, zeq_t, zeq_f, zeM1, zeM2, zeM3, zltM, zleM, nI_clamp, zin, false_or, or_false, true_and, and_true, false_and, and_false, not_true_eq_false, not_false_eq_true, true_imp_iff, false_imp_iff, implies_true, if_true, if_false]
    exact hp
theorem X3_mixedRoads (H : CR N.1 T g0) (V : AV T g0) {h : Int64} {post : Int64 → Prop} (hp : post (roaH T h T.1)) : wp_X3_mixedRoads N h post := by
  have hn := v_n V
  unfold wp_X3_mixedRoads
  simp only [z0, z1, z3]
  refine lpnA T.1 (fun j x => x = roaH T h j) ?_ ?_ (Nat.zero_le _) rfl
  · rintro K j x hj rfl hk
    refine ⟨fun q => absurd q (by rw [show S_roadCount (N_now N) = nI T.1 from c_n H]; exact nI_ge hj (by omega)), fun _ => ?_⟩
    refine ⟨5, ?_⟩
    simp (disch := omega) only [lpc, Nat.reduceAdd, z1, nI_add, zlt_t, zlt_f, true_imp_iff, false_imp_iff, not_true_eq_false, not_false_eq_true, true_and, and_true, S_openMask, S_keys, S_roadCount, S_roadInns, S_roadKeys, S_roadHalls, S_envelopeCount, S_envelopeNumbers, S_letters, S_answerRoads, S_answerGot, S_counts, sS_openMask, sS_roadCount, sS_envelopeCount, sS_answerGot, aS_keys, aS_roadInns, aS_roadKeys, aS_roadHalls, aS_envelopeNumbers, aS_letters, aS_answerRoads, aS_counts, wS_keys, wS_roadInns, wS_roadKeys, wS_roadHalls, wS_envelopeNumbers, wS_letters, wS_answerRoads, wS_counts, V_slots, V_next, V_size, sV_slots, sV_next, sV_size, N_now, N_text, N_saved, sN_now, sN_text, sN_saved, X2_innAt H V hj, X3_mixed, X3_read, c_rh H hj]
    refine X2_allOpen H V hj ?_
    refine bI_jn ?_
    exact hk _ rfl
  · rintro K x rfl
    simp (disch := omega) only [jn, Nat.reduceAdd, Nat.reduceSub, Nat.reduceMul, z0, z1, z2, z3, z4, z5, z6, z7, z8, z9, z10, z12, z16, z18, z24, z31, z33, z48, z49, z51, z53, z55, z57, z59, z60, z61, z63, z66, z97, z99, z111, z114, z115, z116, z118, z122, z126, z255, z854, z1000, z1111, z7143, z9999, z10000, zM, zMn, nI_add, pk_mul, zsub, zlt_t, zlt_f, zle_t, zle_f, zeq_t, zeq_f, zeM1, zeM2, zeM3, zltM, zleM, nI_clamp, zin, false_or, or_false, true_and, and_true, false_and, and_false, not_true_eq_false, not_false_eq_true, true_imp_iff, false_imp_iff, implies_true, if_true, if_false, S_openMask, S_keys, S_roadCount, S_roadInns, S_roadKeys, S_roadHalls, S_envelopeCount, S_envelopeNumbers, S_letters, S_answerRoads, S_answerGot, S_counts, sS_openMask, sS_roadCount, sS_envelopeCount, sS_answerGot, aS_keys, aS_roadInns, aS_roadKeys, aS_roadHalls, aS_envelopeNumbers, aS_letters, aS_answerRoads, aS_counts, wS_keys, wS_roadInns, wS_roadKeys, wS_roadHalls, wS_envelopeNumbers, wS_letters, wS_answerRoads, wS_counts, V_slots, V_next, V_size, sV_slots, sV_next, sV_size, N_now, N_text, N_saved, sN_now, sN_text, sN_saved, c_n H]
    exact hp
theorem X3_mixedEnvs (H : CR N.1 T g0) (V : AV T g0) {h : Int64} {post : Int64 → Prop} (hp : post (envH T h T.2.1)) : wp_X3_mixedEnvelopes N h post := by
  have he := v_e V
  unfold wp_X3_mixedEnvelopes
  simp only [z0, z1, z4]
  refine lpnA T.2.1 (fun j x => x = envH T h j) ?_ ?_ (Nat.zero_le _) rfl
  · rintro K j x hj rfl hk
    refine ⟨fun q => absurd q (by rw [show S_envelopeCount (N_now N) = nI T.2.1 from c_e H]; exact nI_ge hj (by omega)), fun _ => ?_⟩
    refine ⟨6, ?_⟩
    simp (disch := omega) only [lpc, Nat.reduceAdd, z1, nI_add, zle_t, zle_f, true_imp_iff, false_imp_iff, not_true_eq_false, not_false_eq_true, true_and, and_true, S_openMask, S_keys, S_roadCount, S_roadInns, S_roadKeys, S_roadHalls, S_envelopeCount, S_envelopeNumbers, S_letters, S_answerRoads, S_answerGot, S_counts, sS_openMask, sS_roadCount, sS_envelopeCount, sS_answerGot, aS_keys, aS_roadInns, aS_roadKeys, aS_roadHalls, aS_envelopeNumbers, aS_letters, aS_answerRoads, aS_counts, wS_keys, wS_roadInns, wS_roadKeys, wS_roadHalls, wS_envelopeNumbers, wS_letters, wS_answerRoads, wS_counts, V_slots, V_next, V_size, sV_slots, sV_next, sV_size, N_now, N_text, N_saved, sN_now, sN_text, sN_saved, X2_of H V hj rfl, X3_mixed]
    refine X2_ticks H V hj rfl (fun i hi => c_op H hi) ?_
    exact hk _ rfl
  · rintro K x rfl
    simp (disch := omega) only [jn, Nat.reduceAdd, Nat.reduceSub, Nat.reduceMul, z0, z1, z2, z3, z4, z5, z6, z7, z8, z9, z10, z12, z16, z18, z24, z31, z33, z48, z49, z51, z53, z55, z57, z59, z60, z61, z63, z66, z97, z99, z111, z114, z115, z116, z118, z122, z126, z255, z854, z1000, z1111, z7143, z9999, z10000, zM, zMn, nI_add, pk_mul, zsub, zlt_t, zlt_f, zle_t, zle_f, zeq_t, zeq_f, zeM1, zeM2, zeM3, zltM, zleM, nI_clamp, zin, false_or, or_false, true_and, and_true, false_and, and_false, not_true_eq_false, not_false_eq_true, true_imp_iff, false_imp_iff, implies_true, if_true, if_false, S_openMask, S_keys, S_roadCount, S_roadInns, S_roadKeys, S_roadHalls, S_envelopeCount, S_envelopeNumbers, S_letters, S_answerRoads, S_answerGot, S_counts, sS_openMask, sS_roadCount, sS_envelopeCount, sS_answerGot, aS_keys, aS_roadInns, aS_roadKeys, aS_roadHalls, aS_envelopeNumbers, aS_letters, aS_answerRoads, aS_counts, wS_keys, wS_roadInns, wS_roadKeys, wS_roadHalls, wS_envelopeNumbers, wS_letters, wS_answerRoads, wS_counts, V_slots, V_next, V_size, sV_slots, sV_next, sV_size, N_now, N_text, N_saved, sN_now, sN_text, sN_saved, c_e H]
    exact hp
theorem X3_digest (H : CR N.1 T g0) (V : AV T g0) {post : Int64 → Prop} (hp : post (dgN T)) : wp_X3_digest N post := by
  unfold wp_X3_digest
  simp only [X3_mixed, S_openMask, S_keys, S_roadCount, S_roadInns, S_roadKeys, S_roadHalls, S_envelopeCount, S_envelopeNumbers, S_letters, S_answerRoads, S_answerGot, S_counts, sS_openMask, sS_roadCount, sS_envelopeCount, sS_answerGot, aS_keys, aS_roadInns, aS_roadKeys, aS_roadHalls, aS_envelopeNumbers, aS_letters, aS_answerRoads, aS_counts, wS_keys, wS_roadInns, wS_roadKeys, wS_roadHalls, wS_envelopeNumbers, wS_letters, wS_answerRoads, wS_counts, V_slots, V_next, V_size, sV_slots, sV_next, sV_size, N_now, N_text, N_saved, sN_now, sN_text, sN_saved, c_n H, c_e H, c_an H]
  refine X3_mixedRow (by decide) ?_
  rw [rowH_c 5 (fun j hj => c_ct H hj)]
  refine X3_mixedInns H V ?_
  refine X3_mixedRoads H V ?_
  refine X3_mixedEnvs H V ?_
  refine X3_mixedRow (by decide) ?_
  rw [rowH_c 4 (fun j hj => c_lt H hj)]
  simp only [z1, z3]
  refine lpnA 4 (fun j x => 1 ≤ j ∧ x = lesH T (rowH T.2.2.2.2.2.2.2.2.1 (envH T (roaH T (innH T (rowH T.2.2.2.2.2.2.2.2.2.2.2 (mx (mx (mx 4726 (nI T.1)) (nI T.2.1)) T.2.2.2.2.2.2.2.2.2.2.1) 5) 8) T.1) T.2.1) 4) (j - 1)) ?_ ?_ (by omega) ⟨by omega, rfl⟩
  · rintro K j x hj ⟨h1, rfl⟩ hk
    refine ⟨fun q => absurd q (nI_nlt (by omega) (by omega)), fun _ => ?_⟩
    refine X2_least H V h1 (by omega) ?_
    simp (disch := omega) only [z1, nI_add, X3_mixed]
    refine hk _ ⟨by omega, ?_⟩
    obtain ⟨k, rfl⟩ : ∃ k, j = k + 1 := ⟨j - 1, by omega⟩
    rfl
  · rintro K x ⟨-, rfl⟩
    simp (disch := omega) only [jn, Nat.reduceAdd, Nat.reduceSub, Nat.reduceMul, z0, z1, z2, z3, z4, z5, z6, z7, z8, z9, z10, z12, z16, z18, z24, z31, z33, z48, z49, z51, z53, z55, z57, z59, z60, z61, z63, z66, z97, z99, z111, z114, z115, z116, z118, z122, z126, z255, z854, z1000, z1111, z7143, z9999, z10000, zM, zMn, nI_add, pk_mul, zsub, zlt_t, zlt_f, zle_t, zle_f, zeq_t, zeq_f, zeM1, zeM2, zeM3, zltM, zleM, nI_clamp, zin, false_or, or_false, true_and, and_true, false_and, and_false, not_true_eq_false, not_false_eq_true, true_imp_iff, false_imp_iff, implies_true, if_true, if_false]
    exact hp
theorem bI_jnL {b : Bool} {K : Int64 → Prop} (h : K (Int32.toInt64 (bI b))) : jn K (fun (J : Int64 → Prop) => (bI b = nI 0 → J (0 : Int64)) ∧ (¬ bI b = nI 0 → J (1 : Int64))) := by
  cases b
  · exact ⟨fun _ => h, fun q => absurd rfl q⟩
  · exact ⟨fun q => absurd q (by decide), fun _ => h⟩
end
section
variable {xs : Nat → Int32} {i : Int32} {N : Ne} {O : Nat → Int64}
end

