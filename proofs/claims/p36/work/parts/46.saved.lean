/-! saved states -/
theorem X3_copyRow {n : Nat} (hn : n < 2147483648) {f f1 : Nat → Int32} {post : (Nat → Int32) → Prop} (hp : ∀ h, (∀ j, j < n → h j = f j) → post h) : wp_X3_copyRow n f n f1 post := by
  unfold wp_X3_copyRow wp_J9_min_7cf53
  simp (disch := omega) only [jn, Nat.reduceAdd, Nat.reduceSub, Nat.reduceMul, z0, z1, z2, z3, z4, z5, z6, z7, z8, z9, z10, z12, z16, z18, z24, z31, z33, z48, z49, z51, z53, z55, z57, z59, z60, z61, z63, z66, z97, z99, z111, z114, z115, z116, z118, z122, z126, z255, z854, z1000, z1111, z7143, z9999, z10000, zM, zMn, nI_add, pk_mul, zsub, zlt_t, zlt_f, zle_t, zle_f, zeq_t, zeq_f, zeM1, zeM2, zeM3, zltM, zleM, nI_clamp, zin, false_or, or_false, true_and, and_true, false_and, and_false, not_true_eq_false, not_false_eq_true, true_imp_iff, false_imp_iff, implies_true, if_true, if_false]
  refine ⟨by omega, by omega, hp _ (fun j hj => ?_)⟩
  rw [pk_cpy_in (by omega) (by omega)]
  congr 1
  omega
theorem X2_become {u w : St} {post : St → Prop} (hp : ∀ u', (∀ T, AV T g0 → CR w T g0 → CR u' T g0) → post u') : wp_X2_become u w post := by
  unfold wp_X2_become
  refine X3_copyRow (by omega) (fun h1 e1 => ?_)
  refine X3_copyRow (by omega) (fun h2 e2 => ?_)
  refine X3_copyRow (by omega) (fun h3 e3 => ?_)
  refine X3_copyRow (by omega) (fun h4 e4 => ?_)
  refine X3_copyRow (by omega) (fun h5 e5 => ?_)
  refine X3_copyRow (by omega) (fun h6 e6 => ?_)
  refine X3_copyRow (by omega) (fun h7 e7 => ?_)
  refine X3_copyRow (by omega) (fun h8 e8 => ?_)
  refine hp _ (fun T V H => ?_)
  have hn := v_n V
  have he := v_e V
  refine ⟨H.1, H.2.1, H.2.2.1, ?_, ?_, ?_, ?_, ?_, ?_, ?_, H.2.2.2.2.2.2.2.2.2.2.1, ?_⟩
  · intro i hi
    exact (e1 i hi).trans (c_key (u := w) (T := T) H hi)
  · intro r p hr q1 q2
    exact (e2 _ (by omega)).trans (c_ri (u := w) (T := T) H hr q1 q2)
  · intro r p hr q1 q2
    exact (e3 _ (by omega)).trans (c_rk (u := w) (T := T) H hr q1 q2)
  · intro r hr
    exact (e4 r (by omega)).trans (c_rh (u := w) (T := T) H hr)
  · intro j hj
    show ∀ w9, w9 < 4 → _ = _
    intro w9 hw9
    exact (e5 _ (by omega)).trans (c_ev (u := w) (T := T) H hj rfl hw9)
  · intro h hh
    exact (e6 h hh).trans (c_lt (u := w) (T := T) H hh)
  · intro h hh
    exact (e7 h hh).trans (c_on (u := w) (T := T) H hh)
  · intro k hk
    exact (e8 k hk).trans (c_ct (u := w) (T := T) H hk)
theorem X1_keep {S : Sv} {U : St} {z nx : Nat} (hz : z ≤ 6) (hnx : nx < 6) (h1 : S.2.2 = nI z) (h2 : S.2.1 = nI nx) {post : (Sv × St) → Prop} (hp : ∀ u', (∀ T, AV T g0 → CR U T g0 → CR u' T g0) → post ((va_up S.1 nx u', nI ((nx + 1) % 6), nI (if z < 6 then z + 1 else 6)), U)) : wp_X1_keep (S, U) post := by
  unfold wp_X1_keep
  refine ⟨nx, hnx, h2, ?_⟩
  refine X2_become (fun u' hu' => ?_)
  have hp1 := hp u' hu'
  unfold wp_J9_min_7cf53
  by_cases hx : nx = 5
  · rw [show (nx + 1) % 6 = 0 by omega] at hp1
    by_cases hz6 : z < 6
    · rw [if_pos hz6] at hp1
      simp (disch := omega) only [jn, Nat.reduceAdd, Nat.reduceSub, Nat.reduceMul, z0, z1, z2, z3, z4, z5, z6, z7, z8, z9, z10, z12, z16, z18, z24, z31, z33, z48, z49, z51, z53, z55, z57, z59, z60, z61, z63, z66, z97, z99, z111, z114, z115, z116, z118, z122, z126, z255, z854, z1000, z1111, z7143, z9999, z10000, zM, zMn, nI_add, pk_mul, zsub, zlt_t, zlt_f, zle_t, zle_f, zeq_t, zeq_f, zeM1, zeM2, zeM3, zltM, zleM, nI_clamp, zin, false_or, or_false, true_and, and_true, false_and, and_false, not_true_eq_false, not_false_eq_true, true_imp_iff, false_imp_iff, implies_true, if_true, if_false, V_slots, V_next, V_size, sV_slots, sV_next, sV_size, N_now, N_text, N_saved, sN_now, sN_text, sN_saved, h1, h2]
      exact hp1
    · rw [if_neg hz6] at hp1
      simp (disch := omega) only [jn, Nat.reduceAdd, Nat.reduceSub, Nat.reduceMul, z0, z1, z2, z3, z4, z5, z6, z7, z8, z9, z10, z12, z16, z18, z24, z31, z33, z48, z49, z51, z53, z55, z57, z59, z60, z61, z63, z66, z97, z99, z111, z114, z115, z116, z118, z122, z126, z255, z854, z1000, z1111, z7143, z9999, z10000, zM, zMn, nI_add, pk_mul, zsub, zlt_t, zlt_f, zle_t, zle_f, zeq_t, zeq_f, zeM1, zeM2, zeM3, zltM, zleM, nI_clamp, zin, false_or, or_false, true_and, and_true, false_and, and_false, not_true_eq_false, not_false_eq_true, true_imp_iff, false_imp_iff, implies_true, if_true, if_false, V_slots, V_next, V_size, sV_slots, sV_next, sV_size, N_now, N_text, N_saved, sN_now, sN_text, sN_saved, h1, h2]
      exact hp1
  · rw [show (nx + 1) % 6 = nx + 1 by omega] at hp1
    by_cases hz6 : z < 6
    · rw [if_pos hz6] at hp1
      simp (disch := omega) only [jn, Nat.reduceAdd, Nat.reduceSub, Nat.reduceMul, z0, z1, z2, z3, z4, z5, z6, z7, z8, z9, z10, z12, z16, z18, z24, z31, z33, z48, z49, z51, z53, z55, z57, z59, z60, z61, z63, z66, z97, z99, z111, z114, z115, z116, z118, z122, z126, z255, z854, z1000, z1111, z7143, z9999, z10000, zM, zMn, nI_add, pk_mul, zsub, zlt_t, zlt_f, zle_t, zle_f, zeq_t, zeq_f, zeM1, zeM2, zeM3, zltM, zleM, nI_clamp, zin, false_or, or_false, true_and, and_true, false_and, and_false, not_true_eq_false, not_false_eq_true, true_imp_iff, false_imp_iff, implies_true, if_true, if_false, V_slots, V_next, V_size, sV_slots, sV_next, sV_size, N_now, N_text, N_saved, sN_now, sN_text, sN_saved, h1, h2]
      exact hp1
    · rw [if_neg hz6] at hp1
      simp (disch := omega) only [jn, Nat.reduceAdd, Nat.reduceSub, Nat.reduceMul, z0, z1, z2, z3, z4, z5, z6, z7, z8, z9, z10, z12, z16, z18, z24, z31, z33, z48, z49, z51, z53, z55, z57, z59, z60, z61, z63, z66, z97, z99, z111, z114, z115, z116, z118, z122, z126, z255, z854, z1000, z1111, z7143, z9999, z10000, zM, zMn, nI_add, pk_mul, zsub, zlt_t, zlt_f, zle_t, zle_f, zeq_t, zeq_f, zeM1, zeM2, zeM3, zltM, zleM, nI_clamp, zin, false_or, or_false, true_and, and_true, false_and, and_false, not_true_eq_false, not_false_eq_true, true_imp_iff, false_imp_iff, implies_true, if_true, if_false, V_slots, V_next, V_size, sV_slots, sV_next, sV_size, N_now, N_text, N_saved, sN_now, sN_text, sN_saved, h1, h2]
      exact hp1
theorem X1_give {S : Sv} {U : St} {z nx : Nat} (hz : z ≤ 6) (hz1 : 1 ≤ z) (hnx : nx < 6) (h1 : S.2.2 = nI z) (h2 : S.2.1 = nI nx) {post : (Sv × St) → Prop} (hp : ∀ u', (∀ T, AV T g0 → CR (S.1 ((nx + 5) % 6)) T g0 → CR u' T g0) → post ((S.1, nI ((nx + 5) % 6), nI (z - 1)), u')) : wp_X1_giveBack (S, U) post := by
  unfold wp_X1_giveBack
  have key : ∀ q : Nat, q = (nx + 5) % 6 → ∃ k5 : Nat, k5 < 6 ∧ nI q = nI k5 ∧ (wp_X2_become U (S.1 k5) (fun x9 => post ((S.1, nI q, nI z - nI 1), x9))) := by
    intro q hq
    refine ⟨q, by omega, rfl, ?_⟩
    refine X2_become (fun u' hu' => ?_)
    rw [zsub hz1, hq]
    rw [hq] at hu'
    exact hp u' hu'
  by_cases hx : nx = 0
  · have k := key 5 (by omega)
    simp (disch := omega) only [jn, Nat.reduceAdd, Nat.reduceSub, Nat.reduceMul, z0, z1, z2, z3, z4, z5, z6, z7, z8, z9, z10, z12, z16, z18, z24, z31, z33, z48, z49, z51, z53, z55, z57, z59, z60, z61, z63, z66, z97, z99, z111, z114, z115, z116, z118, z122, z126, z255, z854, z1000, z1111, z7143, z9999, z10000, zM, zMn, nI_add, pk_mul, zsub, zlt_t, zlt_f, zle_t, zle_f, zeq_t, zeq_f, zeM1, zeM2, zeM3, zltM, zleM, nI_clamp, zin, false_or, or_false, true_and, and_true, false_and, and_false, not_true_eq_false, not_false_eq_true, true_imp_iff, false_imp_iff, implies_true, if_true, if_false, V_slots, V_next, V_size, sV_slots, sV_next, sV_size, N_now, N_text, N_saved, sN_now, sN_text, sN_saved, h1, h2] at k ⊢
    exact k
  · have k := key (nx - 1) (by omega)
    simp (disch := omega) only [jn, Nat.reduceAdd, Nat.reduceSub, Nat.reduceMul, z0, z1, z2, z3, z4, z5, z6, z7, z8, z9, z10, z12, z16, z18, z24, z31, z33, z48, z49, z51, z53, z55, z57, z59, z60, z61, z63, z66, z97, z99, z111, z114, z115, z116, z118, z122, z126, z255, z854, z1000, z1111, z7143, z9999, z10000, zM, zMn, nI_add, pk_mul, zsub, zlt_t, zlt_f, zle_t, zle_f, zeq_t, zeq_f, zeM1, zeM2, zeM3, zltM, zleM, nI_clamp, zin, false_or, or_false, true_and, and_true, false_and, and_false, not_true_eq_false, not_false_eq_true, true_imp_iff, false_imp_iff, implies_true, if_true, if_false, V_slots, V_next, V_size, sV_slots, sV_next, sV_size, N_now, N_text, N_saved, sN_now, sN_text, sN_saved, h1, h2] at k ⊢
    exact k
section
end
