section
variable {u : St} {T : AT} {g : Nat → Bool}
theorem X2_out (H : CR u T g) (V : AV T g) {post : St → Prop} (hp : ∀ u', CR u' (tOut T g) g0 → post u') : wp_X2_takeOutGone u post := by
  have he := v_e V
  unfold wp_X2_takeOutGone
  rw [z0]
  refine lpnM T.2.1 (fun j x z => x = nI (rmK g j) ∧ ∃ f, z = (u.1, u.2.1, u.2.2.1, u.2.2.2.1, u.2.2.2.2.1, u.2.2.2.2.2.1, nI T.2.1, f, u.2.2.2.2.2.2.2.2.1, u.2.2.2.2.2.2.2.2.2.1, u.2.2.2.2.2.2.2.2.2.2.1, u.2.2.2.2.2.2.2.2.2.2.2) ∧ (∀ a, a < rmK g j → ∀ w, w < 4 → f (4 * a + w) = nI (rmE T.2.2.2.2.2.2.2.1 g j a w)) ∧ (∀ a, j ≤ a → a < T.2.1 → if g a then f (4 * a + 1) = nM else ∀ w, w < 4 → f (4 * a + w) = nI (T.2.2.2.2.2.2.2.1 a w))) ?_ ?_ (Nat.zero_le _) ⟨rfl, u.2.2.2.2.2.2.2.1, by rw [← c_e H], fun a ha => absurd ha (Nat.not_lt_zero _), fun a _ ha => H.2.2.2.2.2.2.2.1 a ha⟩
  · rintro K j x z hj ⟨rfl, f, rfl, hf1, hf2⟩ hk
    have hkj := rmK_le g j
    have hfj := hf2 j (Nat.le_refl _) hj
    cases hg : g j
    · rw [hg] at hfj
      have hv := v_ev V hj hg
      unfold envOk at hv
      have w1 : f (4 * j + 1) = nI (T.2.2.2.2.2.2.2.1 j 1) := hfj 1 (by omega)
      have hb : T.2.2.2.2.2.2.2.1 j 1 < 5 := by omega
      have e1 : rmK g (j + 1) = rmK g j + 1 := by show rmK g j + (if g j = true then 0 else 1) = _; rw [hg]; rfl
      simp (disch := omega) only [jn, Nat.reduceAdd, Nat.reduceSub, Nat.reduceMul, z0, z1, z2, z3, z4, z5, z6, z7, z8, z9, z10, z12, z16, z18, z24, z31, z33, z48, z49, z51, z53, z55, z57, z59, z60, z61, z63, z66, z97, z99, z111, z114, z115, z116, z118, z122, z126, z255, z854, z1000, z1111, z7143, z9999, z10000, zM, zMn, nI_add, pk_mul, zsub, zlt_t, zlt_f, zle_t, zle_f, zeq_t, zeq_f, zeM1, zeM2, zeM3, zltM, zleM, nI_clamp, zin, false_or, or_false, true_and, and_true, false_and, and_false, not_true_eq_false, not_false_eq_true, true_imp_iff, false_imp_iff, implies_true, if_true, if_false, S_openMask, S_keys, S_roadCount, S_roadInns, S_roadKeys, S_roadHalls, S_envelopeCount, S_envelopeNumbers, S_letters, S_answerRoads, S_answerGot, S_counts, sS_openMask, sS_roadCount, sS_envelopeCount, sS_answerGot, aS_keys, aS_roadInns, aS_roadKeys, aS_roadHalls, aS_envelopeNumbers, aS_letters, aS_answerRoads, aS_counts, wS_keys, wS_roadInns, wS_roadKeys, wS_roadHalls, wS_envelopeNumbers, wS_letters, wS_answerRoads, wS_counts, X3_read, X3_write, upd_t, upd_f, wp_X2_ofEnvelope, wp_X2_putNumber, wp_X2_countUp, wp_X2_innAt, wp_X2_keyAt, c_e H, w1]
      rw [← e1]
      refine lpnB 4 (fun w z => ∃ f', z = (u.1, u.2.1, u.2.2.1, u.2.2.2.1, u.2.2.2.2.1, u.2.2.2.2.2.1, nI T.2.1, f', u.2.2.2.2.2.2.2.2.1, u.2.2.2.2.2.2.2.2.2.1, u.2.2.2.2.2.2.2.2.2.2.1, u.2.2.2.2.2.2.2.2.2.2.2) ∧ (∀ w', w' < w → f' (4 * rmK g j + w') = nI (T.2.2.2.2.2.2.2.1 j w')) ∧ (∀ a w', w' < 4 → (a ≠ rmK g j ∨ w ≤ w') → f' (4 * a + w') = f (4 * a + w'))) ?_ ?_ (by omega) ⟨f, rfl, fun w' h => absurd h (Nat.not_lt_zero _), fun a w' _ _ => rfl⟩
      · rintro K2 w z hw ⟨f', rfl, q1, q2⟩ hk2
        have r1 := q2 j w hw (by by_cases e : j = rmK g j; exact Or.inr (Nat.le_refl _); exact Or.inl e)
        have r2 := hfj w hw
        simp (disch := omega) only [jn, Nat.reduceAdd, Nat.reduceSub, Nat.reduceMul, z0, z1, z2, z3, z4, z5, z6, z7, z8, z9, z10, z12, z16, z18, z24, z31, z33, z48, z49, z51, z53, z55, z57, z59, z60, z61, z63, z66, z97, z99, z111, z114, z115, z116, z118, z122, z126, z255, z854, z1000, z1111, z7143, z9999, z10000, zM, zMn, nI_add, pk_mul, zsub, zlt_t, zlt_f, zle_t, zle_f, zeq_t, zeq_f, zeM1, zeM2, zeM3, zltM, zleM, nI_clamp, zin, false_or, or_false, true_and, and_true, false_and, and_false, not_true_eq_false, not_false_eq_true, true_imp_iff, false_imp_iff, implies_true, if_true, if_false, S_openMask, S_keys, S_roadCount, S_roadInns, S_roadKeys, S_roadHalls, S_envelopeCount, S_envelopeNumbers, S_letters, S_answerRoads, S_answerGot, S_counts, sS_openMask, sS_roadCount, sS_envelopeCount, sS_answerGot, aS_keys, aS_roadInns, aS_roadKeys, aS_roadHalls, aS_envelopeNumbers, aS_letters, aS_answerRoads, aS_counts, wS_keys, wS_roadInns, wS_roadKeys, wS_roadHalls, wS_envelopeNumbers, wS_letters, wS_answerRoads, wS_counts, X3_read, X3_write, upd_t, upd_f, wp_X2_ofEnvelope, wp_X2_putNumber, wp_X2_countUp, wp_X2_innAt, wp_X2_keyAt, r1, r2]
        refine hk2 _ ⟨_, rfl, ?_, ?_⟩
        · intro w' hw'
          by_cases e : w' = w
          · rw [e, upd_t rfl]
          · rw [upd_f (by omega)]; exact q1 w' (by omega)
        · intro a w' h4 ha
          rw [upd_f (by omega)]
          exact q2 a w' h4 (by omega)
      · rintro K2 z ⟨f', rfl, q1, q2⟩
        simp (disch := omega) only [jn, Nat.reduceAdd, Nat.reduceSub, Nat.reduceMul, z0, z1, z2, z3, z4, z5, z6, z7, z8, z9, z10, z12, z16, z18, z24, z31, z33, z48, z49, z51, z53, z55, z57, z59, z60, z61, z63, z66, z97, z99, z111, z114, z115, z116, z118, z122, z126, z255, z854, z1000, z1111, z7143, z9999, z10000, zM, zMn, nI_add, pk_mul, zsub, zlt_t, zlt_f, zle_t, zle_f, zeq_t, zeq_f, zeM1, zeM2, zeM3, zltM, zleM, nI_clamp, zin, false_or, or_false, true_and, and_true, false_and, and_false, not_true_eq_false, not_false_eq_true, true_imp_iff, false_imp_iff, implies_true, if_true, if_false, S_openMask, S_keys, S_roadCount, S_roadInns, S_roadKeys, S_roadHalls, S_envelopeCount, S_envelopeNumbers, S_letters, S_answerRoads, S_answerGot, S_counts, sS_openMask, sS_roadCount, sS_envelopeCount, sS_answerGot, aS_keys, aS_roadInns, aS_roadKeys, aS_roadHalls, aS_envelopeNumbers, aS_letters, aS_answerRoads, aS_counts, wS_keys, wS_roadInns, wS_roadKeys, wS_roadHalls, wS_envelopeNumbers, wS_letters, wS_answerRoads, wS_counts]
        refine hk _ _ ⟨rfl, _, rfl, rm_step (T := T) hg hf1 q1 (fun a ha w hw => q2 a w hw (Or.inl ha)), ?_⟩
        intro a h1 h2
        have h3 := hf2 a (by omega) h2
        cases hga : g a
        · rw [hga] at h3
          intro w hw
          rw [q2 a w hw (Or.inl (by omega))]
          exact h3 w hw
        · rw [hga] at h3
          show f' (4 * a + 1) = nM
          rw [q2 a 1 (by omega) (Or.inl (by omega))]
          exact h3
    · rw [hg] at hfj
      have hfj : f (4 * j + 1) = nM := hfj
      have e1 : rmK g (j + 1) = rmK g j := by show rmK g j + (if g j = true then 0 else 1) = _; rw [hg]; rfl
      have e2 : rmE T.2.2.2.2.2.2.2.1 g (j + 1) = rmE T.2.2.2.2.2.2.2.1 g j := by show (if g j = true then rmE T.2.2.2.2.2.2.2.1 g j else _) = _; rw [hg]; rfl
      simp (disch := omega) only [jn, Nat.reduceAdd, Nat.reduceSub, Nat.reduceMul, z0, z1, z2, z3, z4, z5, z6, z7, z8, z9, z10, z12, z16, z18, z24, z31, z33, z48, z49, z51, z53, z55, z57, z59, z60, z61, z63, z66, z97, z99, z111, z114, z115, z116, z118, z122, z126, z255, z854, z1000, z1111, z7143, z9999, z10000, zM, zMn, nI_add, pk_mul, zsub, zlt_t, zlt_f, zle_t, zle_f, zeq_t, zeq_f, zeM1, zeM2, zeM3, zltM, zleM, nI_clamp, zin, false_or, or_false, true_and, and_true, false_and, and_false, not_true_eq_false, not_false_eq_true, true_imp_iff, false_imp_iff, implies_true, if_true, if_false, S_openMask, S_keys, S_roadCount, S_roadInns, S_roadKeys, S_roadHalls, S_envelopeCount, S_envelopeNumbers, S_letters, S_answerRoads, S_answerGot, S_counts, sS_openMask, sS_roadCount, sS_envelopeCount, sS_answerGot, aS_keys, aS_roadInns, aS_roadKeys, aS_roadHalls, aS_envelopeNumbers, aS_letters, aS_answerRoads, aS_counts, wS_keys, wS_roadInns, wS_roadKeys, wS_roadHalls, wS_envelopeNumbers, wS_letters, wS_answerRoads, wS_counts, X3_read, X3_write, upd_t, upd_f, wp_X2_ofEnvelope, wp_X2_putNumber, wp_X2_countUp, wp_X2_innAt, wp_X2_keyAt, c_e H, hfj]
      rw [← e1]
      exact hk _ _ ⟨rfl, f, rfl, by rw [e1, e2]; exact hf1, fun a h1 h2 => hf2 a (by omega) h2⟩
  · rintro K x z ⟨rfl, f, rfl, hf1, hf2⟩
    simp (disch := omega) only [jn, Nat.reduceAdd, Nat.reduceSub, Nat.reduceMul, z0, z1, z2, z3, z4, z5, z6, z7, z8, z9, z10, z12, z16, z18, z24, z31, z33, z48, z49, z51, z53, z55, z57, z59, z60, z61, z63, z66, z97, z99, z111, z114, z115, z116, z118, z122, z126, z255, z854, z1000, z1111, z7143, z9999, z10000, zM, zMn, nI_add, pk_mul, zsub, zlt_t, zlt_f, zle_t, zle_f, zeq_t, zeq_f, zeM1, zeM2, zeM3, zltM, zleM, nI_clamp, zin, false_or, or_false, true_and, and_true, false_and, and_false, not_true_eq_false, not_false_eq_true, true_imp_iff, false_imp_iff, implies_true, if_true, if_false, S_openMask, S_keys, S_roadCount, S_roadInns, S_roadKeys, S_roadHalls, S_envelopeCount, S_envelopeNumbers, S_letters, S_answerRoads, S_answerGot, S_counts, sS_openMask, sS_roadCount, sS_envelopeCount, sS_answerGot, aS_keys, aS_roadInns, aS_roadKeys, aS_roadHalls, aS_envelopeNumbers, aS_letters, aS_answerRoads, aS_counts, wS_keys, wS_roadInns, wS_roadKeys, wS_roadHalls, wS_envelopeNumbers, wS_letters, wS_answerRoads, wS_counts, c_e H]
    exact hp _ ⟨H.1, rfl, H.2.2.1, H.2.2.2.1, H.2.2.2.2.1, H.2.2.2.2.2.1, H.2.2.2.2.2.2.1, fun j hj => hf1 j hj, H.2.2.2.2.2.2.2.2.1, H.2.2.2.2.2.2.2.2.2.1, H.2.2.2.2.2.2.2.2.2.2.1, H.2.2.2.2.2.2.2.2.2.2.2⟩
end

