/-! the calls that change nothing -/
theorem zcmp {a : Int64} : (lg_cmp a a = nI 0) = True := by
  unfold lg_cmp
  rw [if_neg (by simp), if_pos rfl]
  exact eq_true rfl
theorem zupdL {f : Nat → Int64} {k : Nat} {x : Int64} : vp_updL f k x k = x := if_pos rfl
theorem rng {x : Int32} {b : Nat} (hb : b < 2147483648) (h : ¬ x < nI 0 ∧ ¬ nI b < x) : ∃ i, i ≤ b ∧ x = nI i := by
  obtain ⟨j, h1, h2⟩ := nI_of (x := x) h.1
  refine ⟨j, ?_, h2⟩
  have h3 := h.2
  rw [h2] at h3
  rcases Nat.lt_or_ge b j with q | q
  · exact absurd (nI_lt q (by omega)) h3
  · exact q
theorem rngS {x : Int32} {n : Nat} (hn : n < 2147483648) (h : ¬ x < nI 0 ∧ ¬ (nI n - nI 1) < x) : ∃ i, i < n ∧ x = nI i := by
  cases n with
  | zero =>
    obtain ⟨j, h1, h2⟩ := nI_of (x := x) h.1
    have h3 := h.2
    rw [h2] at h3
    exact absurd (show (nI 0 - nI 1) < nI j from by rw [show nI 0 - nI 1 = nM from rfl, zltM (by omega)]; exact trivial) h3
  | succ n =>
    rw [zsub (by omega)] at h
    obtain ⟨i, h1, h2⟩ := rng (by omega) h
    exact ⟨i, by omega, h2⟩
theorem rngS' {n i : Nat} (hn : n < 2147483648) (h : i < n) : decide (¬ nI i < nI 0 ∧ ¬ (nI n - nI 1) < nI i) = true := by
  rw [zsub (by omega)]
  simp (disch := omega) only [zlt_f, not_false_eq_true, and_self, decide_true]
section
variable {xs : Nat → Int32} {i : Int32} {N : Ne} {O : Nat → Int64} {M : Md}
theorem law_8 (H : Inv N M) : wp_law_8 xs i N O M (fun N _ M => Inv N M) := by
  obtain ⟨⟨T, z, nx, Ts, V, HC, HR, hz, hnx, hs1, hs2, hs3, hS⟩, L, hT⟩ := id H
  unfold wp_law_8 wp_X3_roads wp_X4_roads
  simp (disch := omega) only [jn, Nat.reduceAdd, Nat.reduceSub, Nat.reduceMul, z0, z1, z2, z3, z4, z5, z6, z7, z8, z9, z10, z12, z16, z18, z24, z31, z33, z48, z49, z51, z53, z55, z57, z59, z60, z61, z63, z66, z97, z99, z111, z114, z115, z116, z118, z122, z126, z255, z854, z1000, z1111, z7143, z9999, z10000, zM, zMn, nI_add, pk_mul, zsub, zlt_t, zlt_f, zle_t, zle_f, zeq_t, zeq_f, zeM1, zeM2, zeM3, zltM, zleM, nI_clamp, zin, false_or, or_false, true_and, and_true, false_and, and_false, not_true_eq_false, not_false_eq_true, true_imp_iff, false_imp_iff, implies_true, if_true, if_false, M_thrown, M_s, M_saved, M_text, M_length, M_at, M_letter, M_first, M_second, M_third, M_fourth, M_hash, sM_thrown, sM_saved, sM_length, sM_at, sM_letter, sM_first, sM_second, sM_third, sM_fourth, sM_hash, aM_s, wM_s, aM_text, wM_text, S_openMask, S_keys, S_roadCount, S_roadInns, S_roadKeys, S_roadHalls, S_envelopeCount, S_envelopeNumbers, S_letters, S_answerRoads, S_answerGot, S_counts, sS_openMask, sS_roadCount, sS_envelopeCount, sS_answerGot, aS_keys, aS_roadInns, aS_roadKeys, aS_roadHalls, aS_envelopeNumbers, aS_letters, aS_answerRoads, aS_counts, wS_keys, wS_roadInns, wS_roadKeys, wS_roadHalls, wS_envelopeNumbers, wS_letters, wS_answerRoads, wS_counts, V_slots, V_next, V_size, sV_slots, sV_next, sV_size, N_now, N_text, N_saved, sN_now, sN_text, sN_saved, decide_true, decide_false, bI_t, bI_f, X3_between, X4_isInn, X4_isHall, X4_isBody, zcmp, zupdL, X3_read, wp_X3_refuse, wp_X4_holds, wp_X4_told, wp_X4_thrown, wp_X3_innFault, wp_X3_hallFault, wp_X3_roadFault, wp_X3_envelopeFault, wp_X3_isBody, wp_X3_innAndBodyFault, c_n HC, r_n HR]
  exact H
theorem law_3 (H : Inv N M) : wp_law_3 xs i N O M (fun N _ M => Inv N M) := by
  obtain ⟨⟨T, z, nx, Ts, V, HC, HR, hz, hnx, hs1, hs2, hs3, hS⟩, L, hT⟩ := id H
  unfold wp_law_3
  generalize xs (i + 1).toNatClampNeg = x
  unfold wp_L_key wp_X3_key wp_X4_key
  by_cases hx : ¬ x < nI 0 ∧ ¬ nI 7 < x
  · obtain ⟨a, ha, rfl⟩ := rng (by decide) hx
    simp (disch := omega) only [jn, Nat.reduceAdd, Nat.reduceSub, Nat.reduceMul, z0, z1, z2, z3, z4, z5, z6, z7, z8, z9, z10, z12, z16, z18, z24, z31, z33, z48, z49, z51, z53, z55, z57, z59, z60, z61, z63, z66, z97, z99, z111, z114, z115, z116, z118, z122, z126, z255, z854, z1000, z1111, z7143, z9999, z10000, zM, zMn, nI_add, pk_mul, zsub, zlt_t, zlt_f, zle_t, zle_f, zeq_t, zeq_f, zeM1, zeM2, zeM3, zltM, zleM, nI_clamp, zin, false_or, or_false, true_and, and_true, false_and, and_false, not_true_eq_false, not_false_eq_true, true_imp_iff, false_imp_iff, implies_true, if_true, if_false, M_thrown, M_s, M_saved, M_text, M_length, M_at, M_letter, M_first, M_second, M_third, M_fourth, M_hash, sM_thrown, sM_saved, sM_length, sM_at, sM_letter, sM_first, sM_second, sM_third, sM_fourth, sM_hash, aM_s, wM_s, aM_text, wM_text, S_openMask, S_keys, S_roadCount, S_roadInns, S_roadKeys, S_roadHalls, S_envelopeCount, S_envelopeNumbers, S_letters, S_answerRoads, S_answerGot, S_counts, sS_openMask, sS_roadCount, sS_envelopeCount, sS_answerGot, aS_keys, aS_roadInns, aS_roadKeys, aS_roadHalls, aS_envelopeNumbers, aS_letters, aS_answerRoads, aS_counts, wS_keys, wS_roadInns, wS_roadKeys, wS_roadHalls, wS_envelopeNumbers, wS_letters, wS_answerRoads, wS_counts, V_slots, V_next, V_size, sV_slots, sV_next, sV_size, N_now, N_text, N_saved, sN_now, sN_text, sN_saved, decide_true, decide_false, bI_t, bI_f, X3_between, X4_isInn, X4_isHall, X4_isBody, zcmp, zupdL, X3_read, wp_X3_refuse, wp_X4_holds, wp_X4_told, wp_X4_thrown, wp_X3_innFault, wp_X3_hallFault, wp_X3_roadFault, wp_X3_envelopeFault, wp_X3_isBody, wp_X3_innAndBodyFault, c_key HC, r_key HR]
    exact H
  · simp (disch := omega) only [jn, Nat.reduceAdd, Nat.reduceSub, Nat.reduceMul, z0, z1, z2, z3, z4, z5, z6, z7, z8, z9, z10, z12, z16, z18, z24, z31, z33, z48, z49, z51, z53, z55, z57, z59, z60, z61, z63, z66, z97, z99, z111, z114, z115, z116, z118, z122, z126, z255, z854, z1000, z1111, z7143, z9999, z10000, zM, zMn, nI_add, pk_mul, zsub, zlt_t, zlt_f, zle_t, zle_f, zeq_t, zeq_f, zeM1, zeM2, zeM3, zltM, zleM, nI_clamp, zin, false_or, or_false, true_and, and_true, false_and, and_false, not_true_eq_false, not_false_eq_true, true_imp_iff, false_imp_iff, implies_true, if_true, if_false, M_thrown, M_s, M_saved, M_text, M_length, M_at, M_letter, M_first, M_second, M_third, M_fourth, M_hash, sM_thrown, sM_saved, sM_length, sM_at, sM_letter, sM_first, sM_second, sM_third, sM_fourth, sM_hash, aM_s, wM_s, aM_text, wM_text, S_openMask, S_keys, S_roadCount, S_roadInns, S_roadKeys, S_roadHalls, S_envelopeCount, S_envelopeNumbers, S_letters, S_answerRoads, S_answerGot, S_counts, sS_openMask, sS_roadCount, sS_envelopeCount, sS_answerGot, aS_keys, aS_roadInns, aS_roadKeys, aS_roadHalls, aS_envelopeNumbers, aS_letters, aS_answerRoads, aS_counts, wS_keys, wS_roadInns, wS_roadKeys, wS_roadHalls, wS_envelopeNumbers, wS_letters, wS_answerRoads, wS_counts, V_slots, V_next, V_size, sV_slots, sV_next, sV_size, N_now, N_text, N_saved, sN_now, sN_text, sN_saved, decide_true, decide_false, bI_t, bI_f, X3_between, X4_isInn, X4_isHall, X4_isBody, zcmp, zupdL, X3_read, wp_X3_refuse, wp_X4_holds, wp_X4_told, wp_X4_thrown, wp_X3_innFault, wp_X3_hallFault, wp_X3_roadFault, wp_X3_envelopeFault, wp_X3_isBody, wp_X3_innAndBodyFault, decide_eq_false hx]
    exact H
end
