/-! the reference's ticks -/
section
variable {v : Md} {T : AT} {g : Nat → Bool}
theorem rm_step2 {f : Nat → Int32} {j : Nat} (hg : g j = false) (hf1 : ∀ a, a < rmK g j → ∀ w, w < 4 → f (66 + 4 * a + w) = nI (rmE T.2.2.2.2.2.2.2.1 g j a w)) {f' : Nat → Int32} (hin : ∀ w, w < 4 → f' (66 + 4 * rmK g j + w) = nI (T.2.2.2.2.2.2.2.1 j w)) (hout : ∀ a, a ≠ rmK g j → ∀ w, w < 4 → f' (66 + 4 * a + w) = f (66 + 4 * a + w)) : ∀ a, a < rmK g (j + 1) → ∀ w, w < 4 → f' (66 + 4 * a + w) = nI (rmE T.2.2.2.2.2.2.2.1 g (j + 1) a w) := by
  have e1 : rmK g (j + 1) = rmK g j + 1 := by show rmK g j + (if g j = true then 0 else 1) = _; rw [hg]; rfl
  have e2 : rmE T.2.2.2.2.2.2.2.1 g (j + 1) = fun a w => if a = rmK g j then T.2.2.2.2.2.2.2.1 j w else rmE T.2.2.2.2.2.2.2.1 g j a w := by show (if g j = true then rmE T.2.2.2.2.2.2.2.1 g j else _) = _; rw [hg]; rfl
  intro a ha w hw
  rw [e2]
  show _ = nI (if a = rmK g j then T.2.2.2.2.2.2.2.1 j w else rmE T.2.2.2.2.2.2.2.1 g j a w)
  by_cases e : a = rmK g j
  · rw [if_pos e, e]; exact hin w hw
  · rw [if_neg e, hout a e w hw]; exact hf1 a (by omega) w hw
/-- all but the envelopes and their number -/
def sameO (f h : Nat → Int32) : Prop := ∀ k, k ≠ 1 → (k < 66 ∨ 114 ≤ k) → f k = h k
theorem X4_out (H : RR v.2.1 T g) (V : AV T g) {post : Md → Prop} (hp : ∀ f, RR f (tOut T g) g0 → (∀ k, 122 ≤ k → f k = v.2.1 k) → post (v.1, f, v.2.2.1, v.2.2.2.1, v.2.2.2.2.1, v.2.2.2.2.2.1, v.2.2.2.2.2.2.1, v.2.2.2.2.2.2.2.1, v.2.2.2.2.2.2.2.2.1, v.2.2.2.2.2.2.2.2.2.1, v.2.2.2.2.2.2.2.2.2.2.1, v.2.2.2.2.2.2.2.2.2.2.2)) : LP3 (fun (K9 : Int32 → Int32 → Md → Prop) (x6 : Int32) (x7 : Int32) (u8 : Md) => (vp_in (1 : Int32) 854) ∧ ((((M_s u8) (Int32.toNatClampNeg (1 : Int32))) ≤ x7 → (vp_in (1 : Int32) 854) ∧ (post (wM_s u8 (Int32.toNatClampNeg (1 : Int32)) x6))) ∧ (¬ ((M_s u8) (Int32.toNatClampNeg (1 : Int32))) ≤ x7 → wp_X4_of u8 x7 (0 : Int32) (fun r12 => (r12 = (-1 : Int32) → K9 x6 (x7 + 1) u8) ∧ (¬ r12 = (-1 : Int32) → LP2 (fun (K16 : Int32 → Md → Prop) (x14 : Int32) (u15 : Md) => ((4 : Int32) ≤ x14 → K9 (x6 + 1) (x7 + 1) u15) ∧ (¬ (4 : Int32) ≤ x14 → wp_X4_of u15 x7 x14 (fun r19 => wp_X4_lay4 u15 x6 x14 r19 (fun u21 => K16 (x14 + 1) u21)))) (0 : Int32) u8))))) (0 : Int32) (0 : Int32) v := by
  have he := v_e V
  have hn := v_n V
  simp only [z0]
  refine lpnM T.2.1 (fun j x z => x = nI (rmK g j) ∧ ∃ f, z = (v.1, f, v.2.2.1, v.2.2.2.1, v.2.2.2.2.1, v.2.2.2.2.2.1, v.2.2.2.2.2.2.1, v.2.2.2.2.2.2.2.1, v.2.2.2.2.2.2.2.2.1, v.2.2.2.2.2.2.2.2.2.1, v.2.2.2.2.2.2.2.2.2.2.1, v.2.2.2.2.2.2.2.2.2.2.2) ∧ (∀ a, a < rmK g j → ∀ w, w < 4 → f (66 + 4 * a + w) = nI (rmE T.2.2.2.2.2.2.2.1 g j a w)) ∧ (∀ a, j ≤ a → a < T.2.1 → if g a then f (66 + 4 * a) = nM else ∀ w, w < 4 → f (66 + 4 * a + w) = nI (T.2.2.2.2.2.2.2.1 a w)) ∧ sameO f v.2.1 ∧ f 1 = nI T.2.1) ?_ ?_ (Nat.zero_le _) ⟨rfl, v.2.1, rfl, fun a ha => absurd ha (Nat.not_lt_zero _), fun a _ ha => H.2.2.2.2.2.2.2.2.2.1 a ha, fun k _ _ => rfl, r_e H⟩
  · rintro K j x z hj ⟨rfl, f, rfl, hf1, hf2, hf3, hf4⟩ hk
    have hkj := rmK_le g j
    have hfj := hf2 j (Nat.le_refl _) hj
    cases hg : g j
    · rw [hg] at hfj
      have hv := v_ev V hj hg
      unfold envOk at hv
      have w1 : f (66 + 4 * j + 0) = nI (T.2.2.2.2.2.2.2.1 j 0) := hfj 0 (by omega)
      have hb : T.2.2.2.2.2.2.2.1 j 0 < 6 := by omega
      have e1 : rmK g (j + 1) = rmK g j + 1 := by show rmK g j + (if g j = true then 0 else 1) = _; rw [hg]; rfl
      simp (disch := omega) only [jn, Nat.reduceAdd, Nat.reduceSub, Nat.reduceMul, z0, z1, z2, z3, z4, z5, z6, z7, z8, z9, z10, z12, z16, z18, z24, z31, z33, z48, z49, z51, z53, z55, z57, z59, z60, z61, z63, z66, z97, z99, z111, z114, z115, z116, z118, z122, z126, z255, z854, z1000, z1111, z7143, z9999, z10000, zM, zMn, nI_add, pk_mul, zsub, zlt_t, zlt_f, zle_t, zle_f, zeq_t, zeq_f, zeM1, zeM2, zeM3, zltM, zleM, nI_clamp, zin, false_or, or_false, true_and, and_true, false_and, and_false, not_true_eq_false, not_false_eq_true, true_imp_iff, false_imp_iff, implies_true, if_true, if_false, M_thrown, M_s, M_saved, M_text, M_length, M_at, M_letter, M_first, M_second, M_third, M_fourth, M_hash, sM_thrown, sM_saved, sM_length, sM_at, sM_letter, sM_first, sM_second, sM_third, sM_fourth, sM_hash, aM_s, wM_s, aM_text, wM_text, upd_t, upd_f, wp_X4_of, wp_X4_lay4, wp_X4_innOf, wp_X4_keyOf, wp_X4_hallOf, hf4, w1]
      rw [← e1]
      refine lpnB 4 (fun w z => ∃ f', z = (v.1, f', v.2.2.1, v.2.2.2.1, v.2.2.2.2.1, v.2.2.2.2.2.1, v.2.2.2.2.2.2.1, v.2.2.2.2.2.2.2.1, v.2.2.2.2.2.2.2.2.1, v.2.2.2.2.2.2.2.2.2.1, v.2.2.2.2.2.2.2.2.2.2.1, v.2.2.2.2.2.2.2.2.2.2.2) ∧ (∀ w', w' < w → f' (66 + 4 * rmK g j + w') = nI (T.2.2.2.2.2.2.2.1 j w')) ∧ (∀ a w', w' < 4 → (a ≠ rmK g j ∨ w ≤ w') → f' (66 + 4 * a + w') = f (66 + 4 * a + w')) ∧ sameO f' f ∧ f' 1 = f 1) ?_ ?_ (by omega) ⟨f, rfl, fun w' h => absurd h (Nat.not_lt_zero _), fun a w' _ _ => rfl, fun k _ _ => rfl, rfl⟩
      · rintro K2 w z hw ⟨f', rfl, q1, q2, q3, q4⟩ hk2
        have r1 := q2 j w hw (by by_cases e : j = rmK g j; exact Or.inr (Nat.le_refl _); exact Or.inl e)
        have r2 := hfj w hw
        simp (disch := omega) only [jn, Nat.reduceAdd, Nat.reduceSub, Nat.reduceMul, z0, z1, z2, z3, z4, z5, z6, z7, z8, z9, z10, z12, z16, z18, z24, z31, z33, z48, z49, z51, z53, z55, z57, z59, z60, z61, z63, z66, z97, z99, z111, z114, z115, z116, z118, z122, z126, z255, z854, z1000, z1111, z7143, z9999, z10000, zM, zMn, nI_add, pk_mul, zsub, zlt_t, zlt_f, zle_t, zle_f, zeq_t, zeq_f, zeM1, zeM2, zeM3, zltM, zleM, nI_clamp, zin, false_or, or_false, true_and, and_true, false_and, and_false, not_true_eq_false, not_false_eq_true, true_imp_iff, false_imp_iff, implies_true, if_true, if_false, M_thrown, M_s, M_saved, M_text, M_length, M_at, M_letter, M_first, M_second, M_third, M_fourth, M_hash, sM_thrown, sM_saved, sM_length, sM_at, sM_letter, sM_first, sM_second, sM_third, sM_fourth, sM_hash, aM_s, wM_s, aM_text, wM_text, upd_t, upd_f, wp_X4_of, wp_X4_lay4, wp_X4_innOf, wp_X4_keyOf, wp_X4_hallOf, r1, r2]
        refine hk2 _ ⟨_, rfl, ?_, ?_, ?_, ?_⟩
        · intro w' hw'
          by_cases e : w' = w
          · rw [e, upd_t rfl]
          · rw [upd_f (by omega)]; exact q1 w' (by omega)
        · intro a w' h4 ha
          rw [upd_f (by omega)]
          exact q2 a w' h4 (by omega)
        · intro k h1 h2
          rw [upd_f (by omega)]
          exact q3 k h1 h2
        · rw [upd_f (by omega)]
          exact q4
      · rintro K2 z ⟨f', rfl, q1, q2, q3, q4⟩
        simp (disch := omega) only [jn, Nat.reduceAdd, Nat.reduceSub, Nat.reduceMul, z0, z1, z2, z3, z4, z5, z6, z7, z8, z9, z10, z12, z16, z18, z24, z31, z33, z48, z49, z51, z53, z55, z57, z59, z60, z61, z63, z66, z97, z99, z111, z114, z115, z116, z118, z122, z126, z255, z854, z1000, z1111, z7143, z9999, z10000, zM, zMn, nI_add, pk_mul, zsub, zlt_t, zlt_f, zle_t, zle_f, zeq_t, zeq_f, zeM1, zeM2, zeM3, zltM, zleM, nI_clamp, zin, false_or, or_false, true_and, and_true, false_and, and_false, not_true_eq_false, not_false_eq_true, true_imp_iff, false_imp_iff, implies_true, if_true, if_false, M_thrown, M_s, M_saved, M_text, M_length, M_at, M_letter, M_first, M_second, M_third, M_fourth, M_hash, sM_thrown, sM_saved, sM_length, sM_at, sM_letter, sM_first, sM_second, sM_third, sM_fourth, sM_hash, aM_s, wM_s, aM_text, wM_text]
        refine hk _ _ ⟨rfl, _, rfl, rm_step2 (T := T) hg hf1 q1 (fun a ha w hw => q2 a w hw (Or.inl ha)), ?_, fun k h1 h2 => (q3 k h1 h2).trans (hf3 k h1 h2), q4.trans hf4⟩
        intro a h1 h2
        have h3 := hf2 a (by omega) h2
        cases hga : g a
        · rw [hga] at h3
          intro w hw
          rw [q2 a w hw (Or.inl (by omega))]
          exact h3 w hw
        · rw [hga] at h3
          show f' (66 + 4 * a + 0) = nM
          rw [q2 a 0 (by omega) (Or.inl (by omega))]
          exact h3
    · rw [hg] at hfj
      have hfj : f (66 + 4 * j + 0) = nM := hfj
      have e1 : rmK g (j + 1) = rmK g j := by show rmK g j + (if g j = true then 0 else 1) = _; rw [hg]; rfl
      have e2 : rmE T.2.2.2.2.2.2.2.1 g (j + 1) = rmE T.2.2.2.2.2.2.2.1 g j := by show (if g j = true then rmE T.2.2.2.2.2.2.2.1 g j else _) = _; rw [hg]; rfl
      simp (disch := omega) only [jn, Nat.reduceAdd, Nat.reduceSub, Nat.reduceMul, z0, z1, z2, z3, z4, z5, z6, z7, z8, z9, z10, z12, z16, z18, z24, z31, z33, z48, z49, z51, z53, z55, z57, z59, z60, z61, z63, z66, z97, z99, z111, z114, z115, z116, z118, z122, z126, z255, z854, z1000, z1111, z7143, z9999, z10000, zM, zMn, nI_add, pk_mul, zsub, zlt_t, zlt_f, zle_t, zle_f, zeq_t, zeq_f, zeM1, zeM2, zeM3, zltM, zleM, nI_clamp, zin, false_or, or_false, true_and, and_true, false_and, and_false, not_true_eq_false, not_false_eq_true, true_imp_iff, false_imp_iff, implies_true, if_true, if_false, M_thrown, M_s, M_saved, M_text, M_length, M_at, M_letter, M_first, M_second, M_third, M_fourth, M_hash, sM_thrown, sM_saved, sM_length, sM_at, sM_letter, sM_first, sM_second, sM_third, sM_fourth, sM_hash, aM_s, wM_s, aM_text, wM_text, upd_t, upd_f, wp_X4_of, wp_X4_lay4, wp_X4_innOf, wp_X4_keyOf, wp_X4_hallOf, hf4, hfj]
      rw [← e1]
      exact hk _ _ ⟨rfl, f, rfl, by rw [e1, e2]; exact hf1, fun a h1 h2 => hf2 a (by omega) h2, hf3, hf4⟩
  · rintro K x z ⟨rfl, f, rfl, hf1, hf2, hf3, hf4⟩
    simp (disch := omega) only [jn, Nat.reduceAdd, Nat.reduceSub, Nat.reduceMul, z0, z1, z2, z3, z4, z5, z6, z7, z8, z9, z10, z12, z16, z18, z24, z31, z33, z48, z49, z51, z53, z55, z57, z59, z60, z61, z63, z66, z97, z99, z111, z114, z115, z116, z118, z122, z126, z255, z854, z1000, z1111, z7143, z9999, z10000, zM, zMn, nI_add, pk_mul, zsub, zlt_t, zlt_f, zle_t, zle_f, zeq_t, zeq_f, zeM1, zeM2, zeM3, zltM, zleM, nI_clamp, zin, false_or, or_false, true_and, and_true, false_and, and_false, not_true_eq_false, not_false_eq_true, true_imp_iff, false_imp_iff, implies_true, if_true, if_false, M_thrown, M_s, M_saved, M_text, M_length, M_at, M_letter, M_first, M_second, M_third, M_fourth, M_hash, sM_thrown, sM_saved, sM_length, sM_at, sM_letter, sM_first, sM_second, sM_third, sM_fourth, sM_hash, aM_s, wM_s, aM_text, wM_text, hf4]
    have hx : ∀ k, k ≠ 1 → (k < 66 ∨ 114 ≤ k) → upd f 1 (nI (rmK g T.2.1)) k = v.2.1 k := fun k h1 h2 => by rw [upd_f h1]; exact hf3 k h1 h2
    refine hp _ ⟨?_, ?_, ?_, ?_, ?_, ?_, ?_, ?_, ?_, ?_, ?_, ?_⟩ (fun k hk => hx k (by omega) (by omega))
    · rw [hx _ (by omega) (by omega)]; exact r_n (T := T) H
    · rw [upd_t rfl]; rfl
    · rw [hx _ (by omega) (by omega)]; exact r_an (T := T) H
    · intro k hk; rw [hx _ (by omega) (by omega)]; exact r_ct (T := T) H hk
    · intro k hk; rw [hx _ (by omega) (by omega)]; exact r_op (T := T) H hk
    · intro k hk; rw [hx _ (by omega) (by omega)]; exact r_key (T := T) H hk
    · intro r p hr h1 h2
      have hr : r < T.1 := hr
      rw [hx _ (by omega) (by omega)]; exact r_ri (T := T) H hr h1 h2
    · intro r p hr h1 h2
      have hr : r < T.1 := hr
      rw [hx _ (by omega) (by omega)]; exact r_rk (T := T) H hr h1 h2
    · intro r hr
      have hr : r < T.1 := hr
      rw [hx _ (by omega) (by omega)]; exact r_rh (T := T) H hr
    · intro j hj
      show ∀ w, w < 4 → _ = nI (rmE T.2.2.2.2.2.2.2.1 g T.2.1 j w)
      intro w hw
      rw [upd_f (by omega)]
      exact hf1 j hj w hw
    · intro k hk; rw [hx _ (by omega) (by omega)]; exact r_lt (T := T) H hk
    · intro k hk; rw [hx _ (by omega) (by omega)]; exact r_on (T := T) H hk
theorem X4_ticks (H : RR v.2.1 T g0) (V : AV T g0) {post : Md → Prop} (hp : ∀ f, RR f (tTick T) g0 → (∀ k, 122 ≤ k → f k = v.2.1 k) → post (v.1, f, v.2.2.1, v.2.2.2.1, v.2.2.2.2.1, v.2.2.2.2.2.1, v.2.2.2.2.2.2.1, v.2.2.2.2.2.2.2.1, v.2.2.2.2.2.2.2.2.1, v.2.2.2.2.2.2.2.2.2.1, v.2.2.2.2.2.2.2.2.2.2.1, v.2.2.2.2.2.2.2.2.2.2.2)) : wp_X4_ticks v post := by
  have he := v_e V
  unfold wp_X4_ticks
  rw [z0]
  refine lpnB T.2.1 (fun i z => ∃ f, z = (v.1, f, v.2.2.1, v.2.2.2.1, v.2.2.2.2.1, v.2.2.2.2.2.1, v.2.2.2.2.2.2.1, v.2.2.2.2.2.2.2.1, v.2.2.2.2.2.2.2.2.1, v.2.2.2.2.2.2.2.2.2.1, v.2.2.2.2.2.2.2.2.2.2.1, v.2.2.2.2.2.2.2.2.2.2.2) ∧ RR f (mvS T i) (mvD T i) ∧ (∀ k, 122 ≤ k → f k = v.2.1 k)) ?_ ?_ (Nat.zero_le _) ⟨_, rfl, H, fun k _ => rfl⟩
  · rintro K i z hi ⟨f, rfl, hR, hfr⟩ hk
    have hsz := r_e hR
    rw [mvS_e] at hsz
    have V2 := AV_mvS V i (by omega)
    simp (disch := omega) only [jn, Nat.reduceAdd, Nat.reduceSub, Nat.reduceMul, z0, z1, z2, z3, z4, z5, z6, z7, z8, z9, z10, z12, z16, z18, z24, z31, z33, z48, z49, z51, z53, z55, z57, z59, z60, z61, z63, z66, z97, z99, z111, z114, z115, z116, z118, z122, z126, z255, z854, z1000, z1111, z7143, z9999, z10000, zM, zMn, nI_add, pk_mul, zsub, zlt_t, zlt_f, zle_t, zle_f, zeq_t, zeq_f, zeM1, zeM2, zeM3, zltM, zleM, nI_clamp, zin, false_or, or_false, true_and, and_true, false_and, and_false, not_true_eq_false, not_false_eq_true, true_imp_iff, false_imp_iff, implies_true, if_true, if_false, M_thrown, M_s, M_saved, M_text, M_length, M_at, M_letter, M_first, M_second, M_third, M_fourth, M_hash, sM_thrown, sM_saved, sM_length, sM_at, sM_letter, sM_first, sM_second, sM_third, sM_fourth, sM_hash, aM_s, wM_s, aM_text, wM_text, hsz]
    refine X4_moves (v := (v.1, f, v.2.2.1, v.2.2.2.1, v.2.2.2.2.1, v.2.2.2.2.2.1, v.2.2.2.2.2.2.1, v.2.2.2.2.2.2.2.1, v.2.2.2.2.2.2.2.2.1, v.2.2.2.2.2.2.2.2.2.1, v.2.2.2.2.2.2.2.2.2.2.1, v.2.2.2.2.2.2.2.2.2.2.2)) hR V2 (by rw [mvS_e]; exact hi) (mvD_f _ i i (Nat.le_refl _)) (fun f' hf' hfr' => ?_)
    exact hk _ ⟨f', rfl, hf', fun k h => (hfr' k h).trans (hfr k h)⟩
  · rintro K z ⟨f, rfl, hR, hfr⟩
    have hsz := r_e hR
    rw [mvS_e] at hsz
    have V2 := AV_mvS V _ (Nat.le_refl _)
    have main := X4_out (v := (v.1, f, v.2.2.1, v.2.2.2.1, v.2.2.2.2.1, v.2.2.2.2.2.1, v.2.2.2.2.2.2.1, v.2.2.2.2.2.2.2.1, v.2.2.2.2.2.2.2.2.1, v.2.2.2.2.2.2.2.2.2.1, v.2.2.2.2.2.2.2.2.2.2.1, v.2.2.2.2.2.2.2.2.2.2.2)) hR V2 (post := post) (fun f' hf' hfr' => hp f' hf' (fun k h => (hfr' k h).trans (hfr k h)))
    refine ⟨by rw [z1, zin (by decide) (by decide)]; exact trivial, fun _ => main, fun hc => ?_⟩
    exact absurd (by simp (disch := omega) only [jn, Nat.reduceAdd, Nat.reduceSub, Nat.reduceMul, z0, z1, z2, z3, z4, z5, z6, z7, z8, z9, z10, z12, z16, z18, z24, z31, z33, z48, z49, z51, z53, z55, z57, z59, z60, z61, z63, z66, z97, z99, z111, z114, z115, z116, z118, z122, z126, z255, z854, z1000, z1111, z7143, z9999, z10000, zM, zMn, nI_add, pk_mul, zsub, zlt_t, zlt_f, zle_t, zle_f, zeq_t, zeq_f, zeM1, zeM2, zeM3, zltM, zleM, nI_clamp, zin, false_or, or_false, true_and, and_true, false_and, and_false, not_true_eq_false, not_false_eq_true, true_imp_iff, false_imp_iff, implies_true, if_true, if_false, M_thrown, M_s, M_saved, M_text, M_length, M_at, M_letter, M_first, M_second, M_third, M_fourth, M_hash, sM_thrown, sM_saved, sM_length, sM_at, sM_letter, sM_first, sM_second, sM_third, sM_fourth, sM_hash, aM_s, wM_s, aM_text, wM_text, hsz]) hc
theorem X4_passes (H : RR v.2.1 T g0) (V : AV T g0) {k : Nat} (hk9 : k ≤ 9) {post : Int32 → Md → Prop} (hp : ∀ f, RR f (tPass T k) g0 → (∀ k, 122 ≤ k → f k = v.2.1 k) → post (nI (paN T k)) (v.1, f, v.2.2.1, v.2.2.2.1, v.2.2.2.2.1, v.2.2.2.2.2.1, v.2.2.2.2.2.2.1, v.2.2.2.2.2.2.2.1, v.2.2.2.2.2.2.2.2.1, v.2.2.2.2.2.2.2.2.2.1, v.2.2.2.2.2.2.2.2.2.2.1, v.2.2.2.2.2.2.2.2.2.2.2)) : wp_X4_passes v (nI k) post := by
  unfold wp_X4_passes
  have c4 : v.2.1 4 = T.2.2.2.2.2.2.2.2.2.2.2 1 := r_ct H (k := 1) (by omega)
  have c6 : v.2.1 6 = T.2.2.2.2.2.2.2.2.2.2.2 3 := r_ct H (k := 3) (by omega)
  refine ⟨by rw [z4, zin (by decide) (by decide)]; exact trivial, by rw [z6, zin (by decide) (by decide)]; exact trivial, ?_⟩
  rw [z0]
  refine lpnB k (fun j z => ∃ f, z = (v.1, f, v.2.2.1, v.2.2.2.1, v.2.2.2.2.1, v.2.2.2.2.2.1, v.2.2.2.2.2.2.1, v.2.2.2.2.2.2.2.1, v.2.2.2.2.2.2.2.2.1, v.2.2.2.2.2.2.2.2.2.1, v.2.2.2.2.2.2.2.2.2.2.1, v.2.2.2.2.2.2.2.2.2.2.2) ∧ RR f (tPass T j) g0 ∧ (∀ k, 122 ≤ k → f k = v.2.1 k)) ?_ ?_ (Nat.zero_le _) ⟨_, rfl, H, fun k _ => rfl⟩
  · rintro K j z hj ⟨f, rfl, hR, hfr⟩ hk
    simp (disch := omega) only [jn, Nat.reduceAdd, Nat.reduceSub, Nat.reduceMul, z0, z1, z2, z3, z4, z5, z6, z7, z8, z9, z10, z12, z16, z18, z24, z31, z33, z48, z49, z51, z53, z55, z57, z59, z60, z61, z63, z66, z97, z99, z111, z114, z115, z116, z118, z122, z126, z255, z854, z1000, z1111, z7143, z9999, z10000, zM, zMn, nI_add, pk_mul, zsub, zlt_t, zlt_f, zle_t, zle_f, zeq_t, zeq_f, zeM1, zeM2, zeM3, zltM, zleM, nI_clamp, zin, false_or, or_false, true_and, and_true, false_and, and_false, not_true_eq_false, not_false_eq_true, true_imp_iff, false_imp_iff, implies_true, if_true, if_false, M_thrown, M_s, M_saved, M_text, M_length, M_at, M_letter, M_first, M_second, M_third, M_fourth, M_hash, sM_thrown, sM_saved, sM_length, sM_at, sM_letter, sM_first, sM_second, sM_third, sM_fourth, sM_hash, aM_s, wM_s, aM_text, wM_text]
    refine X4_ticks (v := (v.1, f, v.2.2.1, v.2.2.2.1, v.2.2.2.2.1, v.2.2.2.2.2.1, v.2.2.2.2.2.2.1, v.2.2.2.2.2.2.2.1, v.2.2.2.2.2.2.2.2.1, v.2.2.2.2.2.2.2.2.2.1, v.2.2.2.2.2.2.2.2.2.2.1, v.2.2.2.2.2.2.2.2.2.2.2)) hR (AV_pass V j) (fun f' hf' hfr' => ?_)
    exact hk _ ⟨f', rfl, hf', fun k h => (hfr' k h).trans (hfr k h)⟩
  · rintro K z ⟨f, rfl, hR, hfr⟩
    have d4 : f 4 = (tPass T k).2.2.2.2.2.2.2.2.2.2.2 1 := r_ct hR (k := 1) (by omega)
    have d6 : f 6 = (tPass T k).2.2.2.2.2.2.2.2.2.2.2 3 := r_ct hR (k := 3) (by omega)
    have hct := tPass_ct T k
    simp (disch := omega) only [jn, Nat.reduceAdd, Nat.reduceSub, Nat.reduceMul, z0, z1, z2, z3, z4, z5, z6, z7, z8, z9, z10, z12, z16, z18, z24, z31, z33, z48, z49, z51, z53, z55, z57, z59, z60, z61, z63, z66, z97, z99, z111, z114, z115, z116, z118, z122, z126, z255, z854, z1000, z1111, z7143, z9999, z10000, zM, zMn, nI_add, pk_mul, zsub, zlt_t, zlt_f, zle_t, zle_f, zeq_t, zeq_f, zeM1, zeM2, zeM3, zltM, zleM, nI_clamp, zin, false_or, or_false, true_and, and_true, false_and, and_false, not_true_eq_false, not_false_eq_true, true_imp_iff, false_imp_iff, implies_true, if_true, if_false, M_thrown, M_s, M_saved, M_text, M_length, M_at, M_letter, M_first, M_second, M_third, M_fourth, M_hash, sM_thrown, sM_saved, sM_length, sM_at, sM_letter, sM_first, sM_second, sM_third, sM_fourth, sM_hash, aM_s, wM_s, aM_text, wM_text, d4, d6, c4, c6]
    rw [hct]
    have e : ∀ x y : Int32, x + y - x = y := fun x y => by rw [Int32.add_comm, Int32.add_sub_cancel]
    rw [e]
    exact hp f hR hfr
end
