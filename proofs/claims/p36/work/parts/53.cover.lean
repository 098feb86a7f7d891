/-! isCovered, holds -/
section
variable {N : Ne} {T : AT} {S : List AT}
theorem N_open_e (H : NR N T S) {i : Nat} (hi : i < 8) {post : Int32 → Prop} : wp_X3_isOpen N (nI i) post = post (bI (T.2.2.1 i)) := by
  have HC := H.2.1
  unfold wp_X3_isOpen
  simp (disch := omega) only [jn, Nat.reduceAdd, Nat.reduceSub, Nat.reduceMul, z0, z1, z2, z3, z4, z5, z6, z7, z8, z9, z10, z12, z16, z18, z24, z31, z33, z48, z49, z51, z53, z55, z57, z59, z60, z61, z63, z66, z97, z99, z111, z114, z115, z116, z118, z122, z126, z255, z854, z1000, z1111, z7143, z9999, z10000, zM, zMn, nI_add, pk_mul, zsub, zlt_t, zlt_f, zle_t, zle_f, zeq_t, zeq_f, zeM1, zeM2, zeM3, zltM, zleM, nI_clamp, zin, false_or, or_false, true_and, and_true, false_and, and_false, not_true_eq_false, not_false_eq_true, true_imp_iff, false_imp_iff, implies_true, if_true, if_false, S_openMask, S_keys, S_roadCount, S_roadInns, S_roadKeys, S_roadHalls, S_envelopeCount, S_envelopeNumbers, S_letters, S_answerRoads, S_answerGot, S_counts, sS_openMask, sS_roadCount, sS_envelopeCount, sS_answerGot, aS_keys, aS_roadInns, aS_roadKeys, aS_roadHalls, aS_envelopeNumbers, aS_letters, aS_answerRoads, aS_counts, wS_keys, wS_roadInns, wS_roadKeys, wS_roadHalls, wS_envelopeNumbers, wS_letters, wS_answerRoads, wS_counts, V_slots, V_next, V_size, sV_slots, sV_next, sV_size, N_now, N_text, N_saved, sN_now, sN_text, sN_saved, decide_true, decide_false, and_self, bI_t, bI_f, X3_between, X3_read, wp_X3_refuse, wp_X3_innFault, wp_X3_hallFault, wp_X3_roadFault, wp_X3_envelopeFault, wp_X3_isBody, wp_X3_innAndBodyFault]
  rw [X2_hasOpen HC hi]
theorem L_isCovered (H : NR N T S) {i b : Nat} (hi : i < 8) (hb : b < 10000) {post : Int32 → Prop} (hp : post (nI 1)) : wp_L_isCovered N (nI i) (nI b) post := by
  have hk := v_key H.1 hi
  have l1 := covN_lt b (T.2.2.2.1 i)
  have l2 := uncN_lt b (T.2.2.2.1 i)
  unfold wp_L_isCovered
  refine N_cover H hi hb ?_
  refine N_uncover H hi hb ?_
  simp (disch := omega) only [jn, Nat.reduceAdd, Nat.reduceSub, Nat.reduceMul, z0, z1, z2, z3, z4, z5, z6, z7, z8, z9, z10, z12, z16, z18, z24, z31, z33, z48, z49, z51, z53, z55, z57, z59, z60, z61, z63, z66, z97, z99, z111, z114, z115, z116, z118, z122, z126, z255, z854, z1000, z1111, z7143, z9999, z10000, zM, zMn, nI_add, pk_mul, zsub, zlt_t, zlt_f, zle_t, zle_f, zeq_t, zeq_f, zeM1, zeM2, zeM3, zltM, zleM, nI_clamp, zin, false_or, or_false, true_and, and_true, false_and, and_false, not_true_eq_false, not_false_eq_true, true_imp_iff, false_imp_iff, implies_true, if_true, if_false]
  refine N_uncover H hi l1 ?_
  rw [unc_cov hb hk]
  simp (disch := omega) only [jn, Nat.reduceAdd, Nat.reduceSub, Nat.reduceMul, z0, z1, z2, z3, z4, z5, z6, z7, z8, z9, z10, z12, z16, z18, z24, z31, z33, z48, z49, z51, z53, z55, z57, z59, z60, z61, z63, z66, z97, z99, z111, z114, z115, z116, z118, z122, z126, z255, z854, z1000, z1111, z7143, z9999, z10000, zM, zMn, nI_add, pk_mul, zsub, zlt_t, zlt_f, zle_t, zle_f, zeq_t, zeq_f, zeM1, zeM2, zeM3, zltM, zleM, nI_clamp, zin, false_or, or_false, true_and, and_true, false_and, and_false, not_true_eq_false, not_false_eq_true, true_imp_iff, false_imp_iff, implies_true, if_true, if_false]
  refine N_cover H hi l2 ?_
  rw [cov_unc hb hk]
  simp (disch := omega) only [jn, Nat.reduceAdd, Nat.reduceSub, Nat.reduceMul, z0, z1, z2, z3, z4, z5, z6, z7, z8, z9, z10, z12, z16, z18, z24, z31, z33, z48, z49, z51, z53, z55, z57, z59, z60, z61, z63, z66, z97, z99, z111, z114, z115, z116, z118, z122, z126, z255, z854, z1000, z1111, z7143, z9999, z10000, zM, zMn, nI_add, pk_mul, zsub, zlt_t, zlt_f, zle_t, zle_f, zeq_t, zeq_f, zeM1, zeM2, zeM3, zltM, zleM, nI_clamp, zin, false_or, or_false, true_and, and_true, false_and, and_false, not_true_eq_false, not_false_eq_true, true_imp_iff, false_imp_iff, implies_true, if_true, if_false]
  exact hp
theorem i_7 {v : Int32} : (nI 8 ≤ v) = (nI 7 < v) := by
  apply propext
  rw [Int32.le_iff_toInt_le, Int32.lt_iff_toInt_lt, nI_toInt (by omega), nI_toInt (by omega)]
  omega
theorem bi_jn {v : Int32} {J : Int32 → Prop} (h : J (biN v)) : jn (J (nI 0)) (fun J2 => (v < nI 0 → J2) ∧ (¬ v < nI 0 → (nI 8 ≤ v → J2) ∧ (¬ nI 8 ≤ v → J (nI 1 <<< (v &&& nI 31))))) := by
  show (v < nI 0 → J (nI 0)) ∧ (¬ v < nI 0 → (nI 8 ≤ v → J (nI 0)) ∧ (¬ nI 8 ≤ v → J (nI 1 <<< (v &&& nI 31))))
  rw [i_7]
  unfold biN at h
  refine ⟨fun q => ?_, fun q => ⟨fun q2 => ?_, fun q2 => ?_⟩⟩
  · rw [if_neg (fun z => z.1 q)] at h; exact h
  · rw [if_neg (fun z => z.2 q2)] at h; exact h
  · rw [if_pos ⟨q, q2⟩] at h; exact h
/-- the law's first loop: an envelope -/
theorem hl_env (H : NR N T S) {j : Nat} (hj : j < T.2.1) {J J2 : Prop} (hJ : J) : (wp_X3_envelope N (nI j) (nI 2) (fun r218 => (r218 < nI 0 → J2) ∧ (¬ r218 < nI 0 → wp_X3_envelope N (nI j) (nI 2) (fun r220 => (nI 9999 < r220 → J2) ∧ (¬ nI 9999 < r220 → wp_X3_envelope N (nI j) (nI 0) (fun r222 => (r222 < nI 0 → J2) ∧ (¬ r222 < nI 0 → wp_X3_envelope N (nI j) (nI 0) (fun r224 => wp_X3_roads N (fun r225 => (r225 ≤ r224 → J2) ∧ (¬ r225 ≤ r224 → jn J (fun (J227 : Prop) => (arN T T.2.2.1 j = nM → J227) ∧ (¬ arN T T.2.2.1 j = nM → jn (fun (x231 : Int32) => (¬ arN T T.2.2.1 j = x231 → J2) ∧ (arN T T.2.2.1 j = x231 → J227)) (fun (J232 : Int32 → Prop) => (nI (T.2.2.2.2.2.2.2.1 j 3) = nI 0 → J232 (nI 4 - nI (T.2.2.2.2.2.2.2.1 j 1))) ∧ (¬ nI (T.2.2.2.2.2.2.2.1 j 3) = nI 0 → J232 (nI (T.2.2.2.2.2.2.2.1 j 1)))))))))))))))) := by
  have V := H.1
  have hn := v_n V
  have he := v_e V
  have hv := v_ev V hj rfl
  unfold envOk at hv
  obtain ⟨v0, v2, vd⟩ := hv
  refine N_envelope H hj (by omega) ?_
  simp (disch := omega) only [Nat.reduceAdd, Nat.reduceSub, Nat.reduceMul, z0, z1, z2, z3, z4, z5, z6, z7, z8, z9, z10, z12, z16, z18, z24, z31, z33, z48, z49, z51, z53, z55, z57, z59, z60, z61, z63, z66, z97, z99, z111, z114, z115, z116, z118, z122, z126, z255, z854, z1000, z1111, z7143, z9999, z10000, zM, zMn, nI_add, pk_mul, zsub, zlt_t, zlt_f, zle_t, zle_f, zeq_t, zeq_f, zeM1, zeM2, zeM3, zltM, zleM, nI_clamp, zin, false_or, or_false, true_and, and_true, false_and, and_false, not_true_eq_false, not_false_eq_true, true_imp_iff, false_imp_iff, implies_true, if_true, if_false]
  refine N_envelope H hj (by omega) ?_
  simp (disch := omega) only [Nat.reduceAdd, Nat.reduceSub, Nat.reduceMul, z0, z1, z2, z3, z4, z5, z6, z7, z8, z9, z10, z12, z16, z18, z24, z31, z33, z48, z49, z51, z53, z55, z57, z59, z60, z61, z63, z66, z97, z99, z111, z114, z115, z116, z118, z122, z126, z255, z854, z1000, z1111, z7143, z9999, z10000, zM, zMn, nI_add, pk_mul, zsub, zlt_t, zlt_f, zle_t, zle_f, zeq_t, zeq_f, zeM1, zeM2, zeM3, zltM, zleM, nI_clamp, zin, false_or, or_false, true_and, and_true, false_and, and_false, not_true_eq_false, not_false_eq_true, true_imp_iff, false_imp_iff, implies_true, if_true, if_false]
  refine N_envelope H hj (by omega) ?_
  simp (disch := omega) only [Nat.reduceAdd, Nat.reduceSub, Nat.reduceMul, z0, z1, z2, z3, z4, z5, z6, z7, z8, z9, z10, z12, z16, z18, z24, z31, z33, z48, z49, z51, z53, z55, z57, z59, z60, z61, z63, z66, z97, z99, z111, z114, z115, z116, z118, z122, z126, z255, z854, z1000, z1111, z7143, z9999, z10000, zM, zMn, nI_add, pk_mul, zsub, zlt_t, zlt_f, zle_t, zle_f, zeq_t, zeq_f, zeM1, zeM2, zeM3, zltM, zleM, nI_clamp, zin, false_or, or_false, true_and, and_true, false_and, and_false, not_true_eq_false, not_false_eq_true, true_imp_iff, false_imp_iff, implies_true, if_true, if_false]
  refine N_envelope H hj (by omega) ?_
  refine N_roads H ?_
  simp (disch := omega) only [Nat.reduceAdd, Nat.reduceSub, Nat.reduceMul, z0, z1, z2, z3, z4, z5, z6, z7, z8, z9, z10, z12, z16, z18, z24, z31, z33, z48, z49, z51, z53, z55, z57, z59, z60, z61, z63, z66, z97, z99, z111, z114, z115, z116, z118, z122, z126, z255, z854, z1000, z1111, z7143, z9999, z10000, zM, zMn, nI_add, pk_mul, zsub, zlt_t, zlt_f, zle_t, zle_f, zeq_t, zeq_f, zeM1, zeM2, zeM3, zltM, zleM, nI_clamp, zin, false_or, or_false, true_and, and_true, false_and, and_false, not_true_eq_false, not_false_eq_true, true_imp_iff, false_imp_iff, implies_true, if_true, if_false]
  refine jn_p hJ (fun J3 hJ3 => ⟨fun _ => hJ3, fun q => ?_⟩)
  refine jn_v (arN T T.2.2.1 j) ⟨fun q => absurd rfl q, fun _ => hJ3⟩ (fun J4 hJ4 => ?_)
  have ha : arN T T.2.2.1 j = if T.2.2.2.2.2.2.2.1 j 3 = 0 then nI (4 - T.2.2.2.2.2.2.2.1 j 1) else nI (T.2.2.2.2.2.2.2.1 j 1) := by
    by_cases hb : (blk T T.2.2.1 j 1 || blk T T.2.2.1 j 2 || blk T T.2.2.1 j 3) = true
    · unfold arN at q
      rw [if_pos hb] at q
      exact absurd rfl q
    · unfold arN
      rw [if_neg hb]
  rw [ha] at hJ4
  rcases vd with ⟨d, d1⟩ | ⟨d, d1, d2⟩
  · rw [if_pos d] at hJ4
    rw [d]
    simp (disch := omega) only [Nat.reduceAdd, Nat.reduceSub, Nat.reduceMul, z0, z1, z2, z3, z4, z5, z6, z7, z8, z9, z10, z12, z16, z18, z24, z31, z33, z48, z49, z51, z53, z55, z57, z59, z60, z61, z63, z66, z97, z99, z111, z114, z115, z116, z118, z122, z126, z255, z854, z1000, z1111, z7143, z9999, z10000, zM, zMn, nI_add, pk_mul, zsub, zlt_t, zlt_f, zle_t, zle_f, zeq_t, zeq_f, zeM1, zeM2, zeM3, zltM, zleM, nI_clamp, zin, false_or, or_false, true_and, and_true, false_and, and_false, not_true_eq_false, not_false_eq_true, true_imp_iff, false_imp_iff, implies_true, if_true, if_false]
    exact hJ4
  · rw [if_neg (by omega)] at hJ4
    rw [d]
    simp (disch := omega) only [Nat.reduceAdd, Nat.reduceSub, Nat.reduceMul, z0, z1, z2, z3, z4, z5, z6, z7, z8, z9, z10, z12, z16, z18, z24, z31, z33, z48, z49, z51, z53, z55, z57, z59, z60, z61, z63, z66, z97, z99, z111, z114, z115, z116, z118, z122, z126, z255, z854, z1000, z1111, z7143, z9999, z10000, zM, zMn, nI_add, pk_mul, zsub, zlt_t, zlt_f, zle_t, zle_f, zeq_t, zeq_f, zeM1, zeM2, zeM3, zltM, zleM, nI_clamp, zin, false_or, or_false, true_and, and_true, false_and, and_false, not_true_eq_false, not_false_eq_true, true_imp_iff, false_imp_iff, implies_true, if_true, if_false]
    exact hJ4
/-- what is seen on a road, as the law writes it -/
theorem hl_see0 (H : NR N T S) {i r : Nat} (hi : i < 8) (hr : r < T.1) {J : Int32 → Prop} (hJ : J (seN T i r 0)) : (¬ nI (plN T r i) = nI 0 → (¬ nI (plN T r i) = nI 1 → wp_X3_inn N (nI r) (nI (plN T r i) - nI 1) (fun r180 => J r180)) ∧ (nI (plN T r i) = nI 1 → J (nI 8))) ∧ (nI (plN T r i) = nI 0 → J nM) := by
  have h3 := plN_le (T := T) (r := r) (i := i)
  unfold seN at hJ
  rcases (show plN T r i = 0 ∨ plN T r i = 1 ∨ plN T r i = 2 ∨ plN T r i = 3 by omega) with q | q | q | q <;> rw [q] at hJ ⊢ <;> simp (disch := omega) only [Nat.reduceAdd, Nat.reduceSub, Nat.reduceMul, z0, z1, z2, z3, z4, z5, z6, z7, z8, z9, z10, z12, z16, z18, z24, z31, z33, z48, z49, z51, z53, z55, z57, z59, z60, z61, z63, z66, z97, z99, z111, z114, z115, z116, z118, z122, z126, z255, z854, z1000, z1111, z7143, z9999, z10000, zM, zMn, nI_add, pk_mul, zsub, zlt_t, zlt_f, zle_t, zle_f, zeq_t, zeq_f, zeM1, zeM2, zeM3, zltM, zleM, nI_clamp, zin, false_or, or_false, true_and, and_true, false_and, and_false, not_true_eq_false, not_false_eq_true, true_imp_iff, false_imp_iff, implies_true, if_true, if_false]
  · exact hJ
  · exact hJ
  · exact N_inn H hr (by omega) (by omega) hJ
  · exact N_inn H hr (by omega) (by omega) hJ
theorem hl_see1 (H : NR N T S) {i r : Nat} (hi : i < 8) (hr : r < T.1) {J : Int32 → Prop} (hJ : J (seN T i r 1)) : (¬ nI (plN T r i) = nI 0 → (¬ nI (plN T r i) = nI 3 → wp_X3_inn N (nI r) (nI (plN T r i) + nI 1) (fun r176 => J r176)) ∧ (nI (plN T r i) = nI 3 → wp_X3_hall N (nI r) (fun r177 => J (nI 10 + r177)))) ∧ (nI (plN T r i) = nI 0 → J nM) := by
  have h3 := plN_le (T := T) (r := r) (i := i)
  unfold seN at hJ
  rcases (show plN T r i = 0 ∨ plN T r i = 1 ∨ plN T r i = 2 ∨ plN T r i = 3 by omega) with q | q | q | q <;> rw [q] at hJ ⊢ <;> simp (disch := omega) only [Nat.reduceAdd, Nat.reduceSub, Nat.reduceMul, z0, z1, z2, z3, z4, z5, z6, z7, z8, z9, z10, z12, z16, z18, z24, z31, z33, z48, z49, z51, z53, z55, z57, z59, z60, z61, z63, z66, z97, z99, z111, z114, z115, z116, z118, z122, z126, z255, z854, z1000, z1111, z7143, z9999, z10000, zM, zMn, nI_add, pk_mul, zsub, zlt_t, zlt_f, zle_t, zle_f, zeq_t, zeq_f, zeM1, zeM2, zeM3, zltM, zleM, nI_clamp, zin, false_or, or_false, true_and, and_true, false_and, and_false, not_true_eq_false, not_false_eq_true, true_imp_iff, false_imp_iff, implies_true, if_true, if_false]
  · exact hJ
  · exact N_inn H hr (by omega) (by omega) hJ
  · exact N_inn H hr (by omega) (by omega) hJ
  · exact N_hall H hr (by rw [nI_add]; exact hJ)
theorem hl_place (H : NR N T S) {i r : Nat} (hi : i < 8) (hr : r < T.1) {J : Int32 → Prop} (hJ : J (nI (plN T r i))) : (¬ nI (T.2.2.2.2.1 r 1) = nI i → wp_X3_inn N (nI r) (nI 2) (fun r192 => (¬ r192 = nI i → wp_X3_inn N (nI r) (nI 3) (fun r194 => (¬ r194 = nI i → J (nI 0)) ∧ (r194 = nI i → J (nI 3)))) ∧ (r192 = nI i → J (nI 2)))) ∧ (nI (T.2.2.2.2.1 r 1) = nI i → J (nI 1)) := by
  have V := H.1
  have b1 := v_ri V hr (p := 1) (by omega) (by omega)
  have b2 := v_ri V hr (p := 2) (by omega) (by omega)
  have b3 := v_ri V hr (p := 3) (by omega) (by omega)
  rw [zeq_i (by omega) (by omega)]
  by_cases h1 : T.2.2.2.2.1 r 1 = i
  · rw [plN_1 h1] at hJ
    exact ⟨fun q => absurd h1 q, fun _ => hJ⟩
  · refine ⟨fun _ => N_inn H hr (by omega) (by omega) ?_, fun q => absurd q h1⟩
    rw [zeq_i (by omega) (by omega)]
    by_cases h2 : T.2.2.2.2.1 r 2 = i
    · rw [plN_2 h1 h2] at hJ
      exact ⟨fun q => absurd h2 q, fun _ => hJ⟩
    · refine ⟨fun _ => N_inn H hr (by omega) (by omega) ?_, fun q => absurd q h2⟩
      rw [zeq_i (by omega) (by omega)]
      by_cases h3 : T.2.2.2.2.1 r 3 = i
      · rw [plN_3 h1 h2 h3] at hJ
        exact ⟨fun q => absurd h3 q, fun _ => hJ⟩
      · rw [plN_0 h1 h2 h3] at hJ
        exact ⟨fun _ => hJ, fun q => absurd q h3⟩
theorem hl_stand (H : NR N T S) {r : Nat} (hr : r < T.1) {J : Int32 → Prop} (hJ : J (bI (stN T r))) : jn (J (nI 0)) (fun (J80 : Prop) => (bI (T.2.2.1 (T.2.2.2.2.1 r 1)) = nI 0 → J80) ∧ (¬ bI (T.2.2.1 (T.2.2.2.2.1 r 1)) = nI 0 → wp_X3_inn N (nI r) (nI 2) (fun r84 => wp_X3_isOpen N r84 (fun r85 => (r85 = nI 0 → J80) ∧ (¬ r85 = nI 0 → wp_X3_inn N (nI r) (nI 3) (fun r88 => wp_X3_isOpen N r88 (fun r89 => (r89 = nI 0 → J80) ∧ (¬ r89 = nI 0 → J (nI 1))))))))) := by
  have V := H.1
  have b1 := v_ri V hr (p := 1) (by omega) (by omega)
  have b2 := v_ri V hr (p := 2) (by omega) (by omega)
  have b3 := v_ri V hr (p := 3) (by omega) (by omega)
  unfold stN at hJ
  show (bI (T.2.2.1 (T.2.2.2.2.1 r 1)) = nI 0 → J (nI 0)) ∧ _
  cases h1 : T.2.2.1 (T.2.2.2.2.1 r 1)
  · rw [h1] at hJ
    exact ⟨fun _ => hJ, fun q => absurd rfl q⟩
  · rw [h1] at hJ
    refine ⟨fun q => absurd q (by decide), fun _ => ?_⟩
    refine N_inn H hr (by omega) (by omega) ?_
    refine N_isOpen H b2 ?_
    cases h2 : T.2.2.1 (T.2.2.2.2.1 r 2)
    · rw [h2] at hJ
      exact ⟨fun _ => hJ, fun q => absurd rfl q⟩
    · rw [h2] at hJ
      refine ⟨fun q => absurd q (by decide), fun _ => ?_⟩
      refine N_inn H hr (by omega) (by omega) ?_
      refine N_isOpen H b3 ?_
      cases h3 : T.2.2.1 (T.2.2.2.2.1 r 3)
      · rw [h3] at hJ
        exact ⟨fun _ => hJ, fun q => absurd rfl q⟩
      · rw [h3] at hJ
        exact ⟨fun q => absurd q (by decide), fun _ => hJ⟩
end
