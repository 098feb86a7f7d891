/-! the reference's move, ticks -/
section
variable {v : Md} {T : AT} {g : Nat → Bool}
theorem X4_inq {q : Nat} (h : q ≤ 4) {post : Int32 → Prop} : wp_X4_in (nI q) (nI 1) (nI 3) post = post (bI (!(decide (q = 4) || decide (q = 0)))) := by
  rw [X4_in]
  rcases (show q = 0 ∨ q = 1 ∨ q = 2 ∨ q = 3 ∨ q = 4 by omega) with rfl | rfl | rfl | rfl | rfl <;> rfl
set_option maxHeartbeats 4000000 in
theorem X4_arrive (H : RR v.2.1 T g) (V : AV T g) {i q : Nat} (hi : i < T.2.1) (hg : g i = false) (hq : q = mvP T i) (hq4 : q = 4 ∨ q = 0) (hd3 : q = 4 ↔ T.2.2.2.2.2.2.2.1 i 3 = 0) {post : Md → Prop} (hp : ∀ f, RR f (tMv T i) (gU g i (mvG T i)) → (∀ k, 122 ≤ k → f k = v.2.1 k) → post (v.1, f, v.2.2.1, v.2.2.2.1, v.2.2.2.2.1, v.2.2.2.2.2.1, v.2.2.2.2.2.2.1, v.2.2.2.2.2.2.2.1, v.2.2.2.2.2.2.2.2.1, v.2.2.2.2.2.2.2.2.2.1, v.2.2.2.2.2.2.2.2.2.2.1, v.2.2.2.2.2.2.2.2.2.2.2)) : wp_X4_arrives (v.1, (upd v.2.1 (66 + 4 * i + 1) (nI q)), v.2.2.1, v.2.2.2.1, v.2.2.2.2.1, v.2.2.2.2.2.1, v.2.2.2.2.2.2.1, v.2.2.2.2.2.2.2.1, v.2.2.2.2.2.2.2.2.1, v.2.2.2.2.2.2.2.2.2.1, v.2.2.2.2.2.2.2.2.2.2.1, v.2.2.2.2.2.2.2.2.2.2.2) (nI i) post := by
  obtain ⟨hr, hb, hd⟩ := v_ev V hi hg
  have he := v_e V
  have hn := v_n V
  have hh := v_rh V hr
  have k1 := v_rk V hr (p := 1) (by omega) (by omega)
  have k2 := v_rk V hr (p := 2) (by omega) (by omega)
  have k3 := v_rk V hr (p := 3) (by omega) (by omega)
  have c4 : v.2.1 4 = T.2.2.2.2.2.2.2.2.2.2.2 1 := r_ct H (k := 1) (by omega)
  have c6 : v.2.1 6 = T.2.2.2.2.2.2.2.2.2.2.2 3 := r_ct H (k := 3) (by omega)
  unfold wp_X4_arrives wp_X4_leaves
  rcases hq4 with h4 | h0
  · have e1 : tMv T i = tHall T i := if_pos (by omega)
    have e2 : mvG T i = true := by unfold mvG; rw [decide_eq_true (show mvP T i = 4 by omega)]; rfl
    have d0 : T.2.2.2.2.2.2.2.1 i 3 = 0 := hd3.mp h4
    rw [e1, e2] at hp
    simp (disch := omega) only [jn, Nat.reduceAdd, Nat.reduceSub, Nat.reduceMul, z0, z1, z2, z3, z4, z5, z6, z7, z8, z9, z10, z12, z16, z18, z24, z31, z33, z48, z49, z51, z53, z55, z57, z59, z60, z61, z63, z66, z97, z99, z111, z114, z115, z116, z118, z122, z126, z255, z854, z1000, z1111, z7143, z9999, z10000, zM, zMn, nI_add, pk_mul, zsub, zlt_t, zlt_f, zle_t, zle_f, zeq_t, zeq_f, zeM1, zeM2, zeM3, zltM, zleM, nI_clamp, zin, false_or, or_false, true_and, and_true, false_and, and_false, not_true_eq_false, not_false_eq_true, true_imp_iff, false_imp_iff, implies_true, if_true, if_false, M_thrown, M_s, M_saved, M_text, M_length, M_at, M_letter, M_first, M_second, M_third, M_fourth, M_hash, sM_thrown, sM_saved, sM_length, sM_at, sM_letter, sM_first, sM_second, sM_third, sM_fourth, sM_hash, aM_s, wM_s, aM_text, wM_text, upd_t, upd_f, wp_X4_of, wp_X4_lay4, wp_X4_innOf, wp_X4_keyOf, wp_X4_hallOf, r_ev H hi hg, d0, r_rh H hr, c4]
    exact hp _ (RR_hall H V hi hg) (fun k hk => by simp (disch := omega) only [upd_t, upd_f])
  · have e1 : tMv T i = tTrav T i := (if_neg (by omega)).trans (if_pos (by omega))
    have e2 : mvG T i = true := by unfold mvG; rw [decide_eq_true (show mvP T i = 0 by omega)]; simp
    have d0 : T.2.2.2.2.2.2.2.1 i 3 = 1 := by omega
    rw [e1, e2] at hp
    simp (disch := omega) only [jn, Nat.reduceAdd, Nat.reduceSub, Nat.reduceMul, z0, z1, z2, z3, z4, z5, z6, z7, z8, z9, z10, z12, z16, z18, z24, z31, z33, z48, z49, z51, z53, z55, z57, z59, z60, z61, z63, z66, z97, z99, z111, z114, z115, z116, z118, z122, z126, z255, z854, z1000, z1111, z7143, z9999, z10000, zM, zMn, nI_add, pk_mul, zsub, zlt_t, zlt_f, zle_t, zle_f, zeq_t, zeq_f, zeM1, zeM2, zeM3, zltM, zleM, nI_clamp, zin, false_or, or_false, true_and, and_true, false_and, and_false, not_true_eq_false, not_false_eq_true, true_imp_iff, false_imp_iff, implies_true, if_true, if_false, M_thrown, M_s, M_saved, M_text, M_length, M_at, M_letter, M_first, M_second, M_third, M_fourth, M_hash, sM_thrown, sM_saved, sM_length, sM_at, sM_letter, sM_first, sM_second, sM_third, sM_fourth, sM_hash, aM_s, wM_s, aM_text, wM_text, upd_t, upd_f, wp_X4_of, wp_X4_lay4, wp_X4_innOf, wp_X4_keyOf, wp_X4_hallOf, r_ev H hi hg, d0]
    refine ⟨5, ?_⟩
    simp (disch := omega) only [lpc, jn, Nat.reduceAdd, Nat.reduceSub, Nat.reduceMul, z0, z1, z2, z3, z4, z5, z6, z7, z8, z9, z10, z12, z16, z18, z24, z31, z33, z48, z49, z51, z53, z55, z57, z59, z60, z61, z63, z66, z97, z99, z111, z114, z115, z116, z118, z122, z126, z255, z854, z1000, z1111, z7143, z9999, z10000, zM, zMn, nI_add, pk_mul, zsub, zlt_t, zlt_f, zle_t, zle_f, zeq_t, zeq_f, zeM1, zeM2, zeM3, zltM, zleM, nI_clamp, zin, false_or, or_false, true_and, and_true, false_and, and_false, not_true_eq_false, not_false_eq_true, true_imp_iff, false_imp_iff, implies_true, if_true, if_false, M_thrown, M_s, M_saved, M_text, M_length, M_at, M_letter, M_first, M_second, M_third, M_fourth, M_hash, sM_thrown, sM_saved, sM_length, sM_at, sM_letter, sM_first, sM_second, sM_third, sM_fourth, sM_hash, aM_s, wM_s, aM_text, wM_text, upd_t, upd_f, wp_X4_of, wp_X4_lay4, wp_X4_innOf, wp_X4_keyOf, wp_X4_hallOf, r_rk H hr, c6]
    refine X4_uncovered hb k1 ?_
    refine X4_uncovered (uncN_lt _ _) k2 ?_
    refine X4_uncovered (uncN_lt _ _) k3 ?_
    exact hp _ (RR_trav H V hi) (fun k hk => by simp (disch := omega) only [upd_t, upd_f])
set_option maxHeartbeats 4000000 in
theorem X4_moves (H : RR v.2.1 T g) (V : AV T g) {i : Nat} (hi : i < T.2.1) (hg : g i = false) {post : Md → Prop} (hp : ∀ f, RR f (tMv T i) (gU g i (mvG T i)) → (∀ k, 122 ≤ k → f k = v.2.1 k) → post (v.1, f, v.2.2.1, v.2.2.2.1, v.2.2.2.2.1, v.2.2.2.2.2.1, v.2.2.2.2.2.2.1, v.2.2.2.2.2.2.2.1, v.2.2.2.2.2.2.2.2.1, v.2.2.2.2.2.2.2.2.2.1, v.2.2.2.2.2.2.2.2.2.2.1, v.2.2.2.2.2.2.2.2.2.2.2)) : wp_X4_moves v (nI i) post := by
  obtain ⟨hr, hb, hd⟩ := v_ev V hi hg
  have he := v_e V
  have hn := v_n V
  have c7 : v.2.1 7 = T.2.2.2.2.2.2.2.2.2.2.2 4 := r_ct H (k := 4) (by omega)
  unfold wp_X4_moves
  have main : ∀ (q : Nat) (b : Bool), q = mvP T i → q ≤ 4 → (q = 4 ∨ q = 0 → (q = 4 ↔ T.2.2.2.2.2.2.2.1 i 3 = 0)) → (b = decide (T.2.2.2.2.2.2.2.1 i 3 = 1)) → wp_X4_in (nI q) (nI 1) (nI 3) (fun r15 => (¬ r15 = nI 0 → wp_X4_innOf (v.1, (upd v.2.1 (66 + 4 * i + 1) (nI q)), v.2.2.1, v.2.2.2.1, v.2.2.2.2.1, v.2.2.2.2.2.1, v.2.2.2.2.2.2.1, v.2.2.2.2.2.2.2.1, v.2.2.2.2.2.2.2.2.1, v.2.2.2.2.2.2.2.2.2.1, v.2.2.2.2.2.2.2.2.2.2.1, v.2.2.2.2.2.2.2.2.2.2.2) (nI (T.2.2.2.2.2.2.2.1 i 0)) (nI q) (fun r18 => wp_X4_isOpenNow (v.1, (upd v.2.1 (66 + 4 * i + 1) (nI q)), v.2.2.1, v.2.2.2.1, v.2.2.2.2.1, v.2.2.2.2.2.1, v.2.2.2.2.2.2.1, v.2.2.2.2.2.2.2.1, v.2.2.2.2.2.2.2.2.1, v.2.2.2.2.2.2.2.2.2.1, v.2.2.2.2.2.2.2.2.2.2.1, v.2.2.2.2.2.2.2.2.2.2.2) r18 (fun r19 => (¬ r19 = nI 0 → wp_X4_keyOf (v.1, (upd v.2.1 (66 + 4 * i + 1) (nI q)), v.2.2.1, v.2.2.2.1, v.2.2.2.2.1, v.2.2.2.2.2.1, v.2.2.2.2.2.2.1, v.2.2.2.2.2.2.2.1, v.2.2.2.2.2.2.2.2.1, v.2.2.2.2.2.2.2.2.2.1, v.2.2.2.2.2.2.2.2.2.2.1, v.2.2.2.2.2.2.2.2.2.2.2) (nI (T.2.2.2.2.2.2.2.1 i 0)) (nI q) (fun r22 => wp_X4_of (v.1, (upd v.2.1 (66 + 4 * i + 1) (nI q)), v.2.2.1, v.2.2.2.1, v.2.2.2.2.1, v.2.2.2.2.2.1, v.2.2.2.2.2.2.1, v.2.2.2.2.2.2.2.1, v.2.2.2.2.2.2.2.2.1, v.2.2.2.2.2.2.2.2.2.1, v.2.2.2.2.2.2.2.2.2.2.1, v.2.2.2.2.2.2.2.2.2.2.2) (nI i) (nI 2) (fun r23 => (bI b = nI 0 → wp_X4_uncovered r23 r22 (fun r31 => wp_X4_lay4 (v.1, (upd v.2.1 (66 + 4 * i + 1) (nI q)), v.2.2.1, v.2.2.2.1, v.2.2.2.2.1, v.2.2.2.2.2.1, v.2.2.2.2.2.2.1, v.2.2.2.2.2.2.2.1, v.2.2.2.2.2.2.2.2.1, v.2.2.2.2.2.2.2.2.2.1, v.2.2.2.2.2.2.2.2.2.2.1, v.2.2.2.2.2.2.2.2.2.2.2) (nI i) (nI 2) r31 (fun u29 => post u29))) ∧ (¬ bI b = nI 0 → wp_X4_covered r23 r22 (fun r32 => wp_X4_lay4 (v.1, (upd v.2.1 (66 + 4 * i + 1) (nI q)), v.2.2.1, v.2.2.2.1, v.2.2.2.2.1, v.2.2.2.2.2.1, v.2.2.2.2.2.2.1, v.2.2.2.2.2.2.2.1, v.2.2.2.2.2.2.2.2.1, v.2.2.2.2.2.2.2.2.2.1, v.2.2.2.2.2.2.2.2.2.2.1, v.2.2.2.2.2.2.2.2.2.2.2) (nI i) (nI 2) r32 (fun u29 => post u29)))))) ∧ (r19 = nI 0 → (vp_in (nI 7) 854) ∧ ((vp_in (nI 7) 854) ∧ (wp_X4_leaves (wM_s (v.1, (upd v.2.1 (66 + 4 * i + 1) (nI q)), v.2.2.1, v.2.2.2.1, v.2.2.2.2.1, v.2.2.2.2.2.1, v.2.2.2.2.2.2.1, v.2.2.2.2.2.2.2.1, v.2.2.2.2.2.2.2.2.1, v.2.2.2.2.2.2.2.2.2.1, v.2.2.2.2.2.2.2.2.2.2.1, v.2.2.2.2.2.2.2.2.2.2.2) (Int32.toNatClampNeg (nI 7)) (((M_s (v.1, (upd v.2.1 (66 + 4 * i + 1) (nI q)), v.2.2.1, v.2.2.2.1, v.2.2.2.2.1, v.2.2.2.2.2.1, v.2.2.2.2.2.2.1, v.2.2.2.2.2.2.2.1, v.2.2.2.2.2.2.2.2.1, v.2.2.2.2.2.2.2.2.2.1, v.2.2.2.2.2.2.2.2.2.2.1, v.2.2.2.2.2.2.2.2.2.2.2)) (Int32.toNatClampNeg (nI 7))) + (nI 1))) (nI i) (fun u34 => post u34))))))) ∧ (r15 = nI 0 → wp_X4_arrives (v.1, (upd v.2.1 (66 + 4 * i + 1) (nI q)), v.2.2.1, v.2.2.2.1, v.2.2.2.2.1, v.2.2.2.2.2.1, v.2.2.2.2.2.2.1, v.2.2.2.2.2.2.2.1, v.2.2.2.2.2.2.2.2.1, v.2.2.2.2.2.2.2.2.2.1, v.2.2.2.2.2.2.2.2.2.2.1, v.2.2.2.2.2.2.2.2.2.2.2) (nI i) (fun u36 => post u36))) := by
    intro q b hq hq4 hqd hbd
    rw [X4_inq hq4]
    by_cases ha : q = 4 ∨ q = 0
    · have e : (!(decide (q = 4) || decide (q = 0))) = false := by
        rcases ha with h | h <;> simp [h]
      rw [e]
      simp (disch := omega) only [jn, Nat.reduceAdd, Nat.reduceSub, Nat.reduceMul, z0, z1, z2, z3, z4, z5, z6, z7, z8, z9, z10, z12, z16, z18, z24, z31, z33, z48, z49, z51, z53, z55, z57, z59, z60, z61, z63, z66, z97, z99, z111, z114, z115, z116, z118, z122, z126, z255, z854, z1000, z1111, z7143, z9999, z10000, zM, zMn, nI_add, pk_mul, zsub, zlt_t, zlt_f, zle_t, zle_f, zeq_t, zeq_f, zeM1, zeM2, zeM3, zltM, zleM, nI_clamp, zin, false_or, or_false, true_and, and_true, false_and, and_false, not_true_eq_false, not_false_eq_true, true_imp_iff, false_imp_iff, implies_true, if_true, if_false, bI_f]
      exact X4_arrive H V hi hg hq ha (hqd ha) hp
    · have f4 : ¬ mvP T i = 4 := by omega
      have f0 : ¬ mvP T i = 0 := by omega
      have e : (!(decide (q = 4) || decide (q = 0))) = true := by
        rw [decide_eq_false (show ¬ q = 4 by omega), decide_eq_false (show ¬ q = 0 by omega)]; rfl
      have q1 := v_ri V hr (p := q) (by omega) (by omega)
      have kq := v_rk V hr (p := q) (by omega) (by omega)
      have e2 : mvG T i = !T.2.2.1 (T.2.2.2.2.1 (T.2.2.2.2.2.2.2.1 i 0) q) := by unfold mvG mvI; rw [decide_eq_false f4, decide_eq_false f0, hq]; rfl
      have e1 : tMv T i = if T.2.2.1 (T.2.2.2.2.1 (T.2.2.2.2.2.2.2.1 i 0) q) then tStep T i else tLost T := by unfold tMv mvI; rw [if_neg f4, if_neg f0, hq]
      rw [e1, e2] at hp
      have hs := RR_step H V hi hg
      rw [← hq] at hs
      have w1 : v.2.1 (24 + 7 * T.2.2.2.2.2.2.2.1 i 0 + q - 1) = nI (T.2.2.2.2.1 (T.2.2.2.2.2.2.2.1 i 0) q) := r_ri H hr (by omega) (by omega)
      have w2 : v.2.1 (24 + 7 * T.2.2.2.2.2.2.2.1 i 0 + 2 + q) = nI (T.2.2.2.2.2.1 (T.2.2.2.2.2.2.2.1 i 0) q) := r_rk H hr (by omega) (by omega)
      rw [e]
      unfold wp_X4_leaves wp_X4_isOpenNow
      simp (disch := omega) only [jn, Nat.reduceAdd, Nat.reduceSub, Nat.reduceMul, z0, z1, z2, z3, z4, z5, z6, z7, z8, z9, z10, z12, z16, z18, z24, z31, z33, z48, z49, z51, z53, z55, z57, z59, z60, z61, z63, z66, z97, z99, z111, z114, z115, z116, z118, z122, z126, z255, z854, z1000, z1111, z7143, z9999, z10000, zM, zMn, nI_add, pk_mul, zsub, zlt_t, zlt_f, zle_t, zle_f, zeq_t, zeq_f, zeM1, zeM2, zeM3, zltM, zleM, nI_clamp, zin, false_or, or_false, true_and, and_true, false_and, and_false, not_true_eq_false, not_false_eq_true, true_imp_iff, false_imp_iff, implies_true, if_true, if_false, bI_t, M_thrown, M_s, M_saved, M_text, M_length, M_at, M_letter, M_first, M_second, M_third, M_fourth, M_hash, sM_thrown, sM_saved, sM_length, sM_at, sM_letter, sM_first, sM_second, sM_third, sM_fourth, sM_hash, aM_s, wM_s, aM_text, wM_text, upd_t, upd_f, wp_X4_of, wp_X4_lay4, wp_X4_innOf, wp_X4_keyOf, wp_X4_hallOf, r_ev H hi hg, w1, w2, r_op H, bI_1, c7]
      cases ho : T.2.2.1 (T.2.2.2.2.1 (T.2.2.2.2.2.2.2.1 i 0) q)
      · rw [ho] at hp
        simp (disch := omega) only [jn, Nat.reduceAdd, Nat.reduceSub, Nat.reduceMul, z0, z1, z2, z3, z4, z5, z6, z7, z8, z9, z10, z12, z16, z18, z24, z31, z33, z48, z49, z51, z53, z55, z57, z59, z60, z61, z63, z66, z97, z99, z111, z114, z115, z116, z118, z122, z126, z255, z854, z1000, z1111, z7143, z9999, z10000, zM, zMn, nI_add, pk_mul, zsub, zlt_t, zlt_f, zle_t, zle_f, zeq_t, zeq_f, zeM1, zeM2, zeM3, zltM, zleM, nI_clamp, zin, false_or, or_false, true_and, and_true, false_and, and_false, not_true_eq_false, not_false_eq_true, true_imp_iff, false_imp_iff, implies_true, if_true, if_false, reduceCtorEq]
        exact hp _ (RR_lost H V hi) (fun k hk => by simp (disch := omega) only [upd_t, upd_f])
      · rw [ho] at hp
        rcases hd with ⟨hd, -⟩ | ⟨hd, -⟩
        · have hB : mvB T i = uncN (T.2.2.2.2.2.2.2.1 i 2) (T.2.2.2.2.2.1 (T.2.2.2.2.2.2.2.1 i 0) q) := by unfold mvB; rw [if_pos hd, hq]
          have hbf : b = false := by rw [hbd, hd]; rfl
          rw [hB] at hs
          simp (disch := omega) only [jn, Nat.reduceAdd, Nat.reduceSub, Nat.reduceMul, z0, z1, z2, z3, z4, z5, z6, z7, z8, z9, z10, z12, z16, z18, z24, z31, z33, z48, z49, z51, z53, z55, z57, z59, z60, z61, z63, z66, z97, z99, z111, z114, z115, z116, z118, z122, z126, z255, z854, z1000, z1111, z7143, z9999, z10000, zM, zMn, nI_add, pk_mul, zsub, zlt_t, zlt_f, zle_t, zle_f, zeq_t, zeq_f, zeM1, zeM2, zeM3, zltM, zleM, nI_clamp, zin, false_or, or_false, true_and, and_true, false_and, and_false, not_true_eq_false, not_false_eq_true, true_imp_iff, false_imp_iff, implies_true, if_true, if_false, reduceCtorEq, hbf, bI_f]
          refine X4_uncovered hb kq ?_
          exact hp _ hs (fun k hk => by simp (disch := omega) only [upd_t, upd_f])
        · have hB : mvB T i = covN (T.2.2.2.2.2.2.2.1 i 2) (T.2.2.2.2.2.1 (T.2.2.2.2.2.2.2.1 i 0) q) := by unfold mvB; rw [if_neg (by omega), hq]
          have hbf : b = true := by rw [hbd, hd]; rfl
          rw [hB] at hs
          simp (disch := omega) only [jn, Nat.reduceAdd, Nat.reduceSub, Nat.reduceMul, z0, z1, z2, z3, z4, z5, z6, z7, z8, z9, z10, z12, z16, z18, z24, z31, z33, z48, z49, z51, z53, z55, z57, z59, z60, z61, z63, z66, z97, z99, z111, z114, z115, z116, z118, z122, z126, z255, z854, z1000, z1111, z7143, z9999, z10000, zM, zMn, nI_add, pk_mul, zsub, zlt_t, zlt_f, zle_t, zle_f, zeq_t, zeq_f, zeM1, zeM2, zeM3, zltM, zleM, nI_clamp, zin, false_or, or_false, true_and, and_true, false_and, and_false, not_true_eq_false, not_false_eq_true, true_imp_iff, false_imp_iff, implies_true, if_true, if_false, reduceCtorEq, hbf, bI_t]
          refine X4_covered hb kq ?_
          exact hp _ hs (fun k hk => by simp (disch := omega) only [upd_t, upd_f])
  rcases hd with ⟨hd, hd2⟩ | ⟨hd, hd2, hd3⟩
  · have hq : T.2.2.2.2.2.2.2.1 i 1 + 1 = mvP T i := by unfold mvP; rw [if_pos hd]
    have m := main _ false hq (by omega) (by omega) (by rw [hd]; rfl)
    simp (disch := omega) only [jn, Nat.reduceAdd, Nat.reduceSub, Nat.reduceMul, z0, z1, z2, z3, z4, z5, z6, z7, z8, z9, z10, z12, z16, z18, z24, z31, z33, z48, z49, z51, z53, z55, z57, z59, z60, z61, z63, z66, z97, z99, z111, z114, z115, z116, z118, z122, z126, z255, z854, z1000, z1111, z7143, z9999, z10000, zM, zMn, nI_add, pk_mul, zsub, zlt_t, zlt_f, zle_t, zle_f, zeq_t, zeq_f, zeM1, zeM2, zeM3, zltM, zleM, nI_clamp, zin, false_or, or_false, true_and, and_true, false_and, and_false, not_true_eq_false, not_false_eq_true, true_imp_iff, false_imp_iff, implies_true, if_true, if_false, M_thrown, M_s, M_saved, M_text, M_length, M_at, M_letter, M_first, M_second, M_third, M_fourth, M_hash, sM_thrown, sM_saved, sM_length, sM_at, sM_letter, sM_first, sM_second, sM_third, sM_fourth, sM_hash, aM_s, wM_s, aM_text, wM_text, upd_t, upd_f, wp_X4_of, wp_X4_lay4, wp_X4_innOf, wp_X4_keyOf, wp_X4_hallOf, r_ev H hi hg, hd, bI_f] at m ⊢
    exact m
  · have hq : T.2.2.2.2.2.2.2.1 i 1 - 1 = mvP T i := by unfold mvP; rw [if_neg (by omega)]
    have m := main _ true hq (by omega) (by omega) (by rw [hd]; rfl)
    have m1 : nI (T.2.2.2.2.2.2.2.1 i 1) + nM = nI (T.2.2.2.2.2.2.2.1 i 1 - 1) := zaM hd2
    simp (disch := omega) only [jn, Nat.reduceAdd, Nat.reduceSub, Nat.reduceMul, z0, z1, z2, z3, z4, z5, z6, z7, z8, z9, z10, z12, z16, z18, z24, z31, z33, z48, z49, z51, z53, z55, z57, z59, z60, z61, z63, z66, z97, z99, z111, z114, z115, z116, z118, z122, z126, z255, z854, z1000, z1111, z7143, z9999, z10000, zM, zMn, nI_add, pk_mul, zsub, zlt_t, zlt_f, zle_t, zle_f, zeq_t, zeq_f, zeM1, zeM2, zeM3, zltM, zleM, nI_clamp, zin, false_or, or_false, true_and, and_true, false_and, and_false, not_true_eq_false, not_false_eq_true, true_imp_iff, false_imp_iff, implies_true, if_true, if_false, M_thrown, M_s, M_saved, M_text, M_length, M_at, M_letter, M_first, M_second, M_third, M_fourth, M_hash, sM_thrown, sM_saved, sM_length, sM_at, sM_letter, sM_first, sM_second, sM_third, sM_fourth, sM_hash, aM_s, wM_s, aM_text, wM_text, upd_t, upd_f, wp_X4_of, wp_X4_lay4, wp_X4_innOf, wp_X4_keyOf, wp_X4_hallOf, r_ev H hi hg, hd, m1, bI_t] at m ⊢
    exact m
end
