/-! saved states -/
theorem X3_copyRow {n : Nat} (hn : n < 2147483648) {f f1 : Nat → Int32} {post : (Nat → Int32) → Prop} (hp : ∀ h, (∀ j, j < n → h j = f j) → post h) : wp_X3_copyRow n f n f1 post := by
  unfold wp_X3_copyRow wp_J9_min_7cf53
  simp (disch := omega) only [jn, Nat.reduceAdd, Nat.reduceSub, Nat.reduceMul, z0, z1, z2, z3, z4, z5, z6, z7, z8, z9, z10, z12, z16, z18, z24, z31, z33, z48, z49, z51, z53, z55, z57, z59, z60, z61, z63, z66, z97, z99, z111, z114, z115, z116, z118, z122, z126, z255, z854, z1000, z1111, z7143, z9999, z10000, zM, zMn, nI_add, pk_mul, zsub, zlt_t, zlt_f, zle_t, zle_f, zeq_t, zeq_f, zeM1, zeM2, zeM3, zltM, zleM, nI_clamp, zin, false_or, or_false, true_and, and_true, false_and, and_false, not_true_eq_false, not_false_eq_true, true_imp_iff, false_imp_iff, implies_true, if_true, if_false]
  refine ⟨by omega, by omega, hp _ (fun j hj => ?_)⟩
  rw [pk_cpy_in (by omega) (by omega)]
  congr 1
  omega
theorem X2_become {u w : St} {post : St → Prop} (hp : ∀ u', (∀ T, AV T g0 → CR w T g0 → CR u' T g0) → post u') : wp_X2_become u w post := by
  unfold wp_X2_become
  refine X3_copyRow (by omega) (fun h1 e1 => ?_)
  refine X3_copyRow (by omega) (fun h2 e2 => ?_)
  refine X3_copyRow (by omega) (fun h3 e3 => ?_)
  refine X3_copyRow (by omega) (fun h4 e4 => ?_)
  refine X3_copyRow (by omega) (fun h5 e5 => ?_)
  refine X3_copyRow (by omega) (fun h6 e6 => ?_)
  refine X3_copyRow (by omega) (fun h7 e7 => ?_)
  refine X3_copyRow (by omega) (fun h8 e8 => ?_)
  refine hp _ (fun T V H => ?_)
  have hn := v_n V
  have he := v_e V
  refine ⟨H.1, H.2.1, H.2.2.1, ?_, ?_, ?_, ?_, ?_, ?_, ?_, H.2.2.2.2.2.2.2.2.2.2.1, ?_⟩
  · intro i hi
    exact (e1 i hi).trans (c_key (u := w) (T := T) H hi)
  · intro r p hr q1 q2
    exact (e2 _ (by omega)).trans (c_ri (u := w) (T := T) H hr q1 q2)
  · intro r p hr q1 q2
    exact (e3 _ (by omega)).trans (c_rk (u := w) (T := T) H hr q1 q2)
  · intro r hr
    exact (e4 r (by omega)).trans (c_rh (u := w) (T := T) H hr)
  · intro j hj
    show ∀ w9, w9 < 4 → _ = _
    intro w9 hw9
    exact (e5 _ (by omega)).trans (c_ev (u := w) (T := T) H hj rfl hw9)
  · intro h hh
    exact (e6 h hh).trans (c_lt (u := w) (T := T) H hh)
  · intro h hh
    exact (e7 h hh).trans (c_on (u := w) (T := T) H hh)
  · intro k hk
    exact (e8 k hk).trans (c_ct (u := w) (T := T) H hk)
theorem RR_congr {f h : Nat → Int32} {T : AT} (V : AV T g0) (H : RR h T g0) (e : ∀ k, k < 122 → f k = h k) : RR f T g0 := by
  have hn := v_n V
  have he := v_e V
  refine ⟨(e _ (by omega)).trans (r_n H), (e _ (by omega)).trans (r_e H), (e _ (by omega)).trans (r_an H), fun k hk => (e _ (by omega)).trans (r_ct H hk), fun k hk => (e _ (by omega)).trans (r_op H hk), fun k hk => (e _ (by omega)).trans (r_key H hk), fun r p hr h1 h2 => (e _ (by omega)).trans (r_ri H hr h1 h2), fun r p hr h1 h2 => (e _ (by omega)).trans (r_rk H hr h1 h2), fun r hr => (e _ (by omega)).trans (r_rh H hr), ?_, fun k hk => (e _ (by omega)).trans (r_lt H hk), fun k hk => (e _ (by omega)).trans (r_on H hk)⟩
  intro j hj
  show ∀ w, w < 4 → _ = _
  intro w hw
  exact (e _ (by omega)).trans (r_ev H hj rfl hw)
theorem X1_keep {S : Sv} {U : St} {z nx : Nat} (hz : z ≤ 6) (hnx : nx < 6) (h1 : S.2.2 = nI z) (h2 : S.2.1 = nI nx) {post : (Sv × St) → Prop} (hp : ∀ u', (∀ T, AV T g0 → CR U T g0 → CR u' T g0) → post ((va_up S.1 nx u', nI ((nx + 1) % 6), nI (if z < 6 then z + 1 else 6)), U)) : wp_X1_keep (S, U) post := by
  unfold wp_X1_keep
  refine ⟨nx, hnx, h2, ?_⟩
  refine X2_become (fun u' hu' => ?_)
  have hp1 := hp u' hu'
  unfold wp_J9_min_7cf53
  by_cases hx : nx = 5
  · rw [show (nx + 1) % 6 = 0 by omega] at hp1
    by_cases hz6 : z < 6
    · rw [if_pos hz6] at hp1
      simp (disch := omega) only [jn, Nat.reduceAdd, Nat.reduceSub, Nat.reduceMul, z0, z1, z2, z3, z4, z5, z6, z7, z8, z9, z10, z12, z16, z18, z24, z31, z33, z48, z49, z51, z53, z55, z57, z59, z60, z61, z63, z66, z97, z99, z111, z114, z115, z116, z118, z122, z126, z255, z854, z1000, z1111, z7143, z9999, z10000, zM, zMn, nI_add, pk_mul, zsub, zlt_t, zlt_f, zle_t, zle_f, zeq_t, zeq_f, zeM1, zeM2, zeM3, zltM, zleM, nI_clamp, zin, false_or, or_false, true_and, and_true, false_and, and_false, not_true_eq_false, not_false_eq_true, true_imp_iff, false_imp_iff, implies_true, if_true, if_false, V_slots, V_next, V_size, sV_slots, sV_next, sV_size, N_now, N_text, N_saved, sN_now, sN_text, sN_saved, h1, h2]
      exact hp1
    · rw [if_neg hz6] at hp1
      simp (disch := omega) only [jn, Nat.reduceAdd, Nat.reduceSub, Nat.reduceMul, z0, z1, z2, z3, z4, z5, z6, z7, z8, z9, z10, z12, z16, z18, z24, z31, z33, z48, z49, z51, z53, z55, z57, z59, z60, z61, z63, z66, z97, z99, z111, z114, z115, z116, z118, z122, z126, z255, z854, z1000, z1111, z7143, z9999, z10000, zM, zMn, nI_add, pk_mul, zsub, zlt_t, zlt_f, zle_t, zle_f, zeq_t, zeq_f, zeM1, zeM2, zeM3, zltM, zleM, nI_clamp, zin, false_or, or_false, true_and, and_true, false_and, and_false, not_true_eq_false, not_false_eq_true, true_imp_iff, false_imp_iff, implies_true, if_true, if_false, V_slots, V_next, V_size, sV_slots, sV_next, sV_size, N_now, N_text, N_saved, sN_now, sN_text, sN_saved, h1, h2]
      exact hp1
  · rw [show (nx + 1) % 6 = nx + 1 by omega] at hp1
    by_cases hz6 : z < 6
    · rw [if_pos hz6] at hp1
      simp (disch := omega) only [jn, Nat.reduceAdd, Nat.reduceSub, Nat.reduceMul, z0, z1, z2, z3, z4, z5, z6, z7, z8, z9, z10, z12, z16, z18, z24, z31, z33, z48, z49, z51, z53, z55, z57, z59, z60, z61, z63, z66, z97, z99, z111, z114, z115, z116, z118, z122, z126, z255, z854, z1000, z1111, z7143, z9999, z10000, zM, zMn, nI_add, pk_mul, zsub, zlt_t, zlt_f, zle_t, zle_f, zeq_t, zeq_f, zeM1, zeM2, zeM3, zltM, zleM, nI_clamp, zin, false_or, or_false, true_and, and_true, false_and, and_false, not_true_eq_false, not_false_eq_true, true_imp_iff, false_imp_iff, implies_true, if_true, if_false, V_slots, V_next, V_size, sV_slots, sV_next, sV_size, N_now, N_text, N_saved, sN_now, sN_text, sN_saved, h1, h2]
      exact hp1
    · rw [if_neg hz6] at hp1
      simp (disch := omega) only [jn, Nat.reduceAdd, Nat.reduceSub, Nat.reduceMul, z0, z1, z2, z3, z4, z5, z6, z7, z8, z9, z10, z12, z16, z18, z24, z31, z33, z48, z49, z51, z53, z55, z57, z59, z60, z61, z63, z66, z97, z99, z111, z114, z115, z116, z118, z122, z126, z255, z854, z1000, z1111, z7143, z9999, z10000, zM, zMn, nI_add, pk_mul, zsub, zlt_t, zlt_f, zle_t, zle_f, zeq_t, zeq_f, zeM1, zeM2, zeM3, zltM, zleM, nI_clamp, zin, false_or, or_false, true_and, and_true, false_and, and_false, not_true_eq_false, not_false_eq_true, true_imp_iff, false_imp_iff, implies_true, if_true, if_false, V_slots, V_next, V_size, sV_slots, sV_next, sV_size, N_now, N_text, N_saved, sN_now, sN_text, sN_saved, h1, h2]
      exact hp1
theorem X1_give {S : Sv} {U : St} {z nx : Nat} (hz : z ≤ 6) (hz1 : 1 ≤ z) (hnx : nx < 6) (h1 : S.2.2 = nI z) (h2 : S.2.1 = nI nx) {post : (Sv × St) → Prop} (hp : ∀ u', (∀ T, AV T g0 → CR (S.1 ((nx + 5) % 6)) T g0 → CR u' T g0) → post ((S.1, nI ((nx + 5) % 6), nI (z - 1)), u')) : wp_X1_giveBack (S, U) post := by
  unfold wp_X1_giveBack
  have key : ∀ q : Nat, q = (nx + 5) % 6 → ∃ k5 : Nat, k5 < 6 ∧ nI q = nI k5 ∧ (wp_X2_become U (S.1 k5) (fun x9 => post ((S.1, nI q, nI z - nI 1), x9))) := by
    intro q hq
    refine ⟨q, by omega, rfl, ?_⟩
    refine X2_become (fun u' hu' => ?_)
    rw [zsub hz1, hq]
    rw [hq] at hu'
    exact hp u' hu'
  by_cases hx : nx = 0
  · have k := key 5 (by omega)
    simp (disch := omega) only [jn, Nat.reduceAdd, Nat.reduceSub, Nat.reduceMul, z0, z1, z2, z3, z4, z5, z6, z7, z8, z9, z10, z12, z16, z18, z24, z31, z33, z48, z49, z51, z53, z55, z57, z59, z60, z61, z63, z66, z97, z99, z111, z114, z115, z116, z118, z122, z126, z255, z854, z1000, z1111, z7143, z9999, z10000, zM, zMn, nI_add, pk_mul, zsub, zlt_t, zlt_f, zle_t, zle_f, zeq_t, zeq_f, zeM1, zeM2, zeM3, zltM, zleM, nI_clamp, zin, false_or, or_false, true_and, and_true, false_and, and_false, not_true_eq_false, not_false_eq_true, true_imp_iff, false_imp_iff, implies_true, if_true, if_false, V_slots, V_next, V_size, sV_slots, sV_next, sV_size, N_now, N_text, N_saved, sN_now, sN_text, sN_saved, h1, h2] at k ⊢
    exact k
  · have k := key (nx - 1) (by omega)
    simp (disch := omega) only [jn, Nat.reduceAdd, Nat.reduceSub, Nat.reduceMul, z0, z1, z2, z3, z4, z5, z6, z7, z8, z9, z10, z12, z16, z18, z24, z31, z33, z48, z49, z51, z53, z55, z57, z59, z60, z61, z63, z66, z97, z99, z111, z114, z115, z116, z118, z122, z126, z255, z854, z1000, z1111, z7143, z9999, z10000, zM, zMn, nI_add, pk_mul, zsub, zlt_t, zlt_f, zle_t, zle_f, zeq_t, zeq_f, zeM1, zeM2, zeM3, zltM, zleM, nI_clamp, zin, false_or, or_false, true_and, and_true, false_and, and_false, not_true_eq_false, not_false_eq_true, true_imp_iff, false_imp_iff, implies_true, if_true, if_false, V_slots, V_next, V_size, sV_slots, sV_next, sV_size, N_now, N_text, N_saved, sN_now, sN_text, sN_saved, h1, h2] at k ⊢
    exact k
section
variable {v : Md}
theorem X4_copies {a b : Nat} (ha : a ≤ 6) (hb : b ≤ 6) (hab : a ≠ b) {post : Md → Prop} (hp : ∀ f, (∀ k, k < 122 → f (122 * b + k) = v.2.1 (122 * a + k)) → (∀ k, k < 122 * b ∨ 122 * b + 122 ≤ k → f k = v.2.1 k) → post (v.1, f, v.2.2.1, v.2.2.2.1, v.2.2.2.2.1, v.2.2.2.2.2.1, v.2.2.2.2.2.2.1, v.2.2.2.2.2.2.2.1, v.2.2.2.2.2.2.2.2.1, v.2.2.2.2.2.2.2.2.2.1, v.2.2.2.2.2.2.2.2.2.2.1, v.2.2.2.2.2.2.2.2.2.2.2)) : wp_X4_copies v (nI a) (nI b) post := by
  unfold wp_X4_copies
  rw [z0]
  refine lpnB 122 (fun j z => ∃ f, z = (v.1, f, v.2.2.1, v.2.2.2.1, v.2.2.2.2.1, v.2.2.2.2.2.1, v.2.2.2.2.2.2.1, v.2.2.2.2.2.2.2.1, v.2.2.2.2.2.2.2.2.1, v.2.2.2.2.2.2.2.2.2.1, v.2.2.2.2.2.2.2.2.2.2.1, v.2.2.2.2.2.2.2.2.2.2.2) ∧ (∀ k, k < j → f (122 * b + k) = v.2.1 (122 * a + k)) ∧ (∀ k, k < 122 * b ∨ 122 * b + j ≤ k → f k = v.2.1 k)) ?_ ?_ (by omega) ⟨_, rfl, fun k hk => absurd hk (Nat.not_lt_zero _), fun k _ => rfl⟩
  · rintro K j z hj ⟨f, rfl, q1, q2⟩ hk
    have r := q2 (122 * a + j) (by omega)
    simp (disch := omega) only [jn, Nat.reduceAdd, Nat.reduceSub, Nat.reduceMul, z0, z1, z2, z3, z4, z5, z6, z7, z8, z9, z10, z12, z16, z18, z24, z31, z33, z48, z49, z51, z53, z55, z57, z59, z60, z61, z63, z66, z97, z99, z111, z114, z115, z116, z118, z122, z126, z255, z854, z1000, z1111, z7143, z9999, z10000, zM, zMn, nI_add, pk_mul, zsub, zlt_t, zlt_f, zle_t, zle_f, zeq_t, zeq_f, zeM1, zeM2, zeM3, zltM, zleM, nI_clamp, zin, false_or, or_false, true_and, and_true, false_and, and_false, not_true_eq_false, not_false_eq_true, true_imp_iff, false_imp_iff, implies_true, if_true, if_false, M_thrown, M_s, M_saved, M_text, M_length, M_at, M_letter, M_first, M_second, M_third, M_fourth, M_hash, sM_thrown, sM_saved, sM_length, sM_at, sM_letter, sM_first, sM_second, sM_third, sM_fourth, sM_hash, aM_s, wM_s, aM_text, wM_text, r]
    refine hk _ ⟨_, rfl, ?_, ?_⟩
    · intro k hk2
      by_cases e : k = j
      · rw [e, upd_t rfl]
      · rw [upd_f (by omega)]; exact q1 k (by omega)
    · intro k hk2
      rw [upd_f (by omega)]
      exact q2 k (by omega)
  · rintro K z ⟨f, rfl, q1, q2⟩
    simp (disch := omega) only [jn, Nat.reduceAdd, Nat.reduceSub, Nat.reduceMul, z0, z1, z2, z3, z4, z5, z6, z7, z8, z9, z10, z12, z16, z18, z24, z31, z33, z48, z49, z51, z53, z55, z57, z59, z60, z61, z63, z66, z97, z99, z111, z114, z115, z116, z118, z122, z126, z255, z854, z1000, z1111, z7143, z9999, z10000, zM, zMn, nI_add, pk_mul, zsub, zlt_t, zlt_f, zle_t, zle_f, zeq_t, zeq_f, zeM1, zeM2, zeM3, zltM, zleM, nI_clamp, zin, false_or, or_false, true_and, and_true, false_and, and_false, not_true_eq_false, not_false_eq_true, true_imp_iff, false_imp_iff, implies_true, if_true, if_false, M_thrown, M_s, M_saved, M_text, M_length, M_at, M_letter, M_first, M_second, M_third, M_fourth, M_hash, sM_thrown, sM_saved, sM_length, sM_at, sM_letter, sM_first, sM_second, sM_third, sM_fourth, sM_hash, aM_s, wM_s, aM_text, wM_text]
    exact hp f q1 q2
theorem X4_save {z : Nat} (hz : z ≤ 6) (h1 : v.2.2.1 = nI z) {post : Md → Prop} (hp : ∀ f, (∀ k, k < 122 → f k = v.2.1 k) → (∀ k, k < 122 → f (122 * (if z < 6 then z + 1 else 6) + k) = v.2.1 k) → (∀ j k, 1 ≤ j → j < (if z < 6 then z + 1 else 6) → k < 122 → f (122 * j + k) = v.2.1 (122 * (j + (if z < 6 then 0 else 1)) + k)) → post (v.1, f, nI (if z < 6 then z + 1 else 6), v.2.2.2.1, v.2.2.2.2.1, v.2.2.2.2.2.1, v.2.2.2.2.2.2.1, v.2.2.2.2.2.2.2.1, v.2.2.2.2.2.2.2.2.1, v.2.2.2.2.2.2.2.2.2.1, v.2.2.2.2.2.2.2.2.2.2.1, v.2.2.2.2.2.2.2.2.2.2.2)) : wp_X4_save v post := by
  unfold wp_X4_save
  rw [z1]
  by_cases hz6 : z < 6
  · simp only [if_pos hz6] at hp
    refine ⟨2, ?_⟩
    simp (disch := omega) only [lpc, jn, Nat.reduceAdd, Nat.reduceSub, Nat.reduceMul, z0, z1, z2, z3, z4, z5, z6, z7, z8, z9, z10, z12, z16, z18, z24, z31, z33, z48, z49, z51, z53, z55, z57, z59, z60, z61, z63, z66, z97, z99, z111, z114, z115, z116, z118, z122, z126, z255, z854, z1000, z1111, z7143, z9999, z10000, zM, zMn, nI_add, pk_mul, zsub, zlt_t, zlt_f, zle_t, zle_f, zeq_t, zeq_f, zeM1, zeM2, zeM3, zltM, zleM, nI_clamp, zin, false_or, or_false, true_and, and_true, false_and, and_false, not_true_eq_false, not_false_eq_true, true_imp_iff, false_imp_iff, implies_true, if_true, if_false, M_thrown, M_s, M_saved, M_text, M_length, M_at, M_letter, M_first, M_second, M_third, M_fourth, M_hash, sM_thrown, sM_saved, sM_length, sM_at, sM_letter, sM_first, sM_second, sM_third, sM_fourth, sM_hash, aM_s, wM_s, aM_text, wM_text, h1]
    have c := X4_copies (v := (v.1, v.2.1, nI (z + 1), v.2.2.2.1, v.2.2.2.2.1, v.2.2.2.2.2.1, v.2.2.2.2.2.2.1, v.2.2.2.2.2.2.2.1, v.2.2.2.2.2.2.2.2.1, v.2.2.2.2.2.2.2.2.2.1, v.2.2.2.2.2.2.2.2.2.2.1, v.2.2.2.2.2.2.2.2.2.2.2)) (a := 0) (b := z + 1) (by omega) (by omega) (by omega) (post := post) (fun f q1 q2 => hp f (fun k hk => q2 k (by omega)) (fun k hk => (q1 k hk).trans (by rw [Nat.mul_zero, Nat.zero_add])) (fun j k hj1 hj2 hk => (q2 (122 * j + k) (by omega)).trans rfl))
    exact c
  · obtain rfl : z = 6 := by omega
    simp only [if_neg hz6] at hp
    refine lpnB 6 (fun j w => 1 ≤ j ∧ ∃ f, w = (v.1, f, nI 6, v.2.2.2.1, v.2.2.2.2.1, v.2.2.2.2.2.1, v.2.2.2.2.2.2.1, v.2.2.2.2.2.2.2.1, v.2.2.2.2.2.2.2.2.1, v.2.2.2.2.2.2.2.2.2.1, v.2.2.2.2.2.2.2.2.2.2.1, v.2.2.2.2.2.2.2.2.2.2.2) ∧ (∀ i k, 1 ≤ i → i < j → k < 122 → f (122 * i + k) = v.2.1 (122 * (i + 1) + k)) ∧ (∀ k, k < 122 ∨ 122 * j ≤ k → f k = v.2.1 k)) ?_ ?_ (by omega) ⟨Nat.le_refl _, v.2.1, by rw [← h1], fun i k h1 h2 => by omega, fun k _ => rfl⟩
    · rintro K j w hj ⟨hj1, f, rfl, q1, q2⟩ hk
      simp (disch := omega) only [jn, Nat.reduceAdd, Nat.reduceSub, Nat.reduceMul, z0, z1, z2, z3, z4, z5, z6, z7, z8, z9, z10, z12, z16, z18, z24, z31, z33, z48, z49, z51, z53, z55, z57, z59, z60, z61, z63, z66, z97, z99, z111, z114, z115, z116, z118, z122, z126, z255, z854, z1000, z1111, z7143, z9999, z10000, zM, zMn, nI_add, pk_mul, zsub, zlt_t, zlt_f, zle_t, zle_f, zeq_t, zeq_f, zeM1, zeM2, zeM3, zltM, zleM, nI_clamp, zin, false_or, or_false, true_and, and_true, false_and, and_false, not_true_eq_false, not_false_eq_true, true_imp_iff, false_imp_iff, implies_true, if_true, if_false, M_thrown, M_s, M_saved, M_text, M_length, M_at, M_letter, M_first, M_second, M_third, M_fourth, M_hash, sM_thrown, sM_saved, sM_length, sM_at, sM_letter, sM_first, sM_second, sM_third, sM_fourth, sM_hash, aM_s, wM_s, aM_text, wM_text, h1]
      refine X4_copies (v := (v.1, f, nI 6, v.2.2.2.1, v.2.2.2.2.1, v.2.2.2.2.2.1, v.2.2.2.2.2.2.1, v.2.2.2.2.2.2.2.1, v.2.2.2.2.2.2.2.2.1, v.2.2.2.2.2.2.2.2.2.1, v.2.2.2.2.2.2.2.2.2.2.1, v.2.2.2.2.2.2.2.2.2.2.2)) (a := j + 1) (b := j) (by omega) (by omega) (by omega) (fun f' p1 p2 => hk _ ⟨by omega, f', rfl, ?_, ?_⟩)
      · intro i k h3 h4 h5
        by_cases e : i = j
        · subst e
          exact (p1 k h5).trans (q2 _ (by omega))
        · exact (p2 _ (by omega)).trans (q1 i k h3 (by omega) h5)
      · intro k hk2
        exact (p2 k (by omega)).trans (q2 k (by omega))
    · rintro K w ⟨-, f, rfl, q1, q2⟩
      simp (disch := omega) only [jn, Nat.reduceAdd, Nat.reduceSub, Nat.reduceMul, z0, z1, z2, z3, z4, z5, z6, z7, z8, z9, z10, z12, z16, z18, z24, z31, z33, z48, z49, z51, z53, z55, z57, z59, z60, z61, z63, z66, z97, z99, z111, z114, z115, z116, z118, z122, z126, z255, z854, z1000, z1111, z7143, z9999, z10000, zM, zMn, nI_add, pk_mul, zsub, zlt_t, zlt_f, zle_t, zle_f, zeq_t, zeq_f, zeM1, zeM2, zeM3, zltM, zleM, nI_clamp, zin, false_or, or_false, true_and, and_true, false_and, and_false, not_true_eq_false, not_false_eq_true, true_imp_iff, false_imp_iff, implies_true, if_true, if_false, M_thrown, M_s, M_saved, M_text, M_length, M_at, M_letter, M_first, M_second, M_third, M_fourth, M_hash, sM_thrown, sM_saved, sM_length, sM_at, sM_letter, sM_first, sM_second, sM_third, sM_fourth, sM_hash, aM_s, wM_s, aM_text, wM_text, h1]
      have c := X4_copies (v := (v.1, f, nI 6, v.2.2.2.1, v.2.2.2.2.1, v.2.2.2.2.2.1, v.2.2.2.2.2.2.1, v.2.2.2.2.2.2.2.1, v.2.2.2.2.2.2.2.2.1, v.2.2.2.2.2.2.2.2.2.1, v.2.2.2.2.2.2.2.2.2.2.1, v.2.2.2.2.2.2.2.2.2.2.2)) (a := 0) (b := 6) (by omega) (by omega) (by omega) (post := post) (fun f' p1 p2 => hp f' (fun k hk => (p2 k (by omega)).trans (q2 k (by omega))) (fun k hk => (p1 k hk).trans ((congrArg f (by omega)).trans (q2 k (by omega)))) (fun j k hj1 hj2 hk => (p2 _ (by omega)).trans (q1 j k hj1 (by omega) hk)))
      exact c
end
def SR (S : Sv) (f : Nat → Int32) (z nx : Nat) (Ts : Nat → AT) : Prop := ∀ j, j < z → AV (Ts j) g0 ∧ CR (S.1 ((nx + 6 - z + j) % 6)) (Ts j) g0 ∧ RR (fun k => f (122 * (j + 1) + k)) (Ts j) g0
theorem SR_save {S : Sv} {f f' : Nat → Int32} {z nx : Nat} {Ts : Nat → AT} (hz : z ≤ 6) (hnx : nx < 6) (H : SR S f z nx Ts) {T : AT} (V : AV T g0) {u' : St} (hC : CR u' T g0) (hR : RR f T g0) (q2 : ∀ k, k < 122 → f' (122 * (if z < 6 then z + 1 else 6) + k) = f k) (q3 : ∀ j k, 1 ≤ j → j < (if z < 6 then z + 1 else 6) → k < 122 → f' (122 * j + k) = f (122 * (j + (if z < 6 then 0 else 1)) + k)) {a b : Int32} : SR (va_up S.1 nx u', a, b) f' (if z < 6 then z + 1 else 6) ((nx + 1) % 6) (fun j => if j + 1 = (if z < 6 then z + 1 else 6) then T else Ts (j + (if z < 6 then 0 else 1))) := by
  intro j hj
  by_cases hl : j + 1 = (if z < 6 then z + 1 else 6)
  · simp only [if_pos hl]
    refine ⟨V, ?_, ?_⟩
    · have e : ((nx + 1) % 6 + 6 - (if z < 6 then z + 1 else 6) + j) % 6 = nx := by split at hl <;> rename_i hh <;> simp only [hh, if_true, if_false] <;> omega
      show CR (va_up S.1 nx u' _) T g0
      rw [e]
      unfold va_up
      rw [if_pos rfl]
      exact hC
    · refine RR_congr V hR (fun k hk => ?_)
      show f' (122 * (j + 1) + k) = f k
      rw [hl]
      exact q2 k hk
  · simp only [if_neg hl]
    by_cases hz6 : z < 6
    · simp only [if_pos hz6] at hl hj q2 q3 ⊢
      obtain ⟨a1, a2, a3⟩ := H j (by omega)
      refine ⟨a1, ?_, ?_⟩
      · have e : ((nx + 1) % 6 + 6 - (z + 1) + j) % 6 = (nx + 6 - z + j) % 6 := by omega
        show CR (va_up S.1 nx u' _) (Ts j) g0
        rw [e]
        unfold va_up
        rw [if_neg (by omega)]
        exact a2
      · refine RR_congr a1 a3 (fun k hk => ?_)
        exact q3 (j + 1) k (by omega) (by omega) hk
    · obtain rfl : z = 6 := by omega
      simp only [if_neg hz6] at hl hj q2 q3 ⊢
      obtain ⟨a1, a2, a3⟩ := H (j + 1) (by omega)
      refine ⟨a1, ?_, ?_⟩
      · have e : ((nx + 1) % 6 + 6 - 6 + j) % 6 = (nx + 6 - 6 + (j + 1)) % 6 := by omega
        show CR (va_up S.1 nx u' _) (Ts (j + 1)) g0
        rw [e]
        unfold va_up
        rw [if_neg (by omega)]
        exact a2
      · refine RR_congr a1 a3 (fun k hk => ?_)
        exact q3 (j + 1) k (by omega) (by omega) hk
theorem SR_give {S : Sv} {f f' : Nat → Int32} {z nx : Nat} {Ts : Nat → AT} (hz : z ≤ 6) (hz1 : 1 ≤ z) (hnx : nx < 6) (H : SR S f z nx Ts) (q : ∀ k, 122 ≤ k → f' k = f k) {a b : Int32} : SR (S.1, a, b) f' (z - 1) ((nx + 5) % 6) Ts := by
  intro j hj
  obtain ⟨a1, a2, a3⟩ := H j (by omega)
  refine ⟨a1, ?_, RR_congr a1 a3 (fun k hk => q _ (by omega))⟩
  have e : ((nx + 5) % 6 + 6 - (z - 1) + j) % 6 = (nx + 6 - z + j) % 6 := by omega
  show CR (S.1 _) (Ts j) g0
  rw [e]
  exact a2
theorem SR_keepf {S : Sv} {f f' : Nat → Int32} {z nx : Nat} {Ts : Nat → AT} (H : SR S f z nx Ts) (q : ∀ k, 122 ≤ k → f' k = f k) : SR S f' z nx Ts := by
  intro j hj
  obtain ⟨a1, a2, a3⟩ := H j hj
  exact ⟨a1, a2, RR_congr a1 a3 (fun k hk => q _ (by omega))⟩
