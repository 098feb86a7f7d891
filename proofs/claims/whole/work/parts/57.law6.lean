/-! laying, told by cases -/
theorem bI_ne {b : Bool} (h : ¬ bI b = nI 0) : b = true := by
  cases b
  · exact absurd rfl h
  · rfl
theorem bI_z {b : Bool} (h : bI b = nI 0) : b = false := by
  cases b
  · rfl
  · exact absurd h (by decide)
theorem jn_all {A : Type} {K : A → Prop} {B : (A → Prop) → Prop} (hB : ∀ J : A → Prop, (∀ x, J x) → B J) (hK : ∀ x, K x) : jn K B := hB K hK
section
variable {xs : Nat → Int32} {i : Int32} {N : Ne} {O : Nat → Int64} {M : Md} {T : AT}
theorem X3_lay_in (HC : CR N.1 T g0) (V : AV T g0) {a b c h : Nat} (ha : a < 8) (hb : b < 8) (hc : c < 8) (hh : h < 4) {post : Int32 → Prop} (h2 : (a = b ∨ a = c ∨ b = c) → post (nI 2)) (h0 : ¬ (a = b ∨ a = c ∨ b = c) → (T.1 < 6 ∧ T.2.2.1 a = true ∧ T.2.2.1 b = true ∧ T.2.2.1 c = true) → post (nI 0)) (h3 : ¬ (a = b ∨ a = c ∨ b = c) → ¬ (T.1 < 6 ∧ T.2.2.1 a = true ∧ T.2.2.1 b = true ∧ T.2.2.1 c = true) → post (nI 3)) : wp_X3_layFault N (nI a) (nI b) (nI c) (nI h) post := by
  have hn := v_n V
  have ra : decide (¬ nI a < nI 0 ∧ ¬ nI 7 < nI a) = true := decide_eq_true (by simp (disch := omega) only [zlt_f, not_false_eq_true, and_self])
  have rb : decide (¬ nI b < nI 0 ∧ ¬ nI 7 < nI b) = true := decide_eq_true (by simp (disch := omega) only [zlt_f, not_false_eq_true, and_self])
  have rc : decide (¬ nI c < nI 0 ∧ ¬ nI 7 < nI c) = true := decide_eq_true (by simp (disch := omega) only [zlt_f, not_false_eq_true, and_self])
  have rh : decide (¬ nI h < nI 0 ∧ ¬ nI 3 < nI h) = true := decide_eq_true (by simp (disch := omega) only [zlt_f, not_false_eq_true, and_self])
  have e10 : (nI 1 = nI 0) = False := zeq_f (by decide) (by decide) (by decide)
  have e00 : (nI 0 = nI 0) = True := eq_true rfl
  unfold wp_X3_layFault wp_X3_innFault wp_X3_hallFault
  simp only [X3_between, z0, z1, z2, z3, z7, ra, rb, rc, rh, bI_t]
  simp only [e10, e00, not_false_eq_true, not_true_eq_false, true_imp_iff, false_imp_iff, and_true, true_and]
  have f2 : a = b ∨ a = c ∨ b = c → post (nI 2) := h2
  refine ⟨fun q => f2 (Or.inl ((nI_eq (by omega) (by omega)).mp q)), fun n1 => ⟨fun q => f2 (Or.inr (Or.inl ((nI_eq (by omega) (by omega)).mp q))), fun n2 => ⟨fun n3 => ?_, fun q => f2 (Or.inr (Or.inr ((nI_eq (by omega) (by omega)).mp q)))⟩⟩⟩
  have nd : ¬ (a = b ∨ a = c ∨ b = c) := by
    rintro (q | q | q)
    · exact n1 (by rw [q])
    · exact n2 (by rw [q])
    · exact n3 (by rw [q])
  rw [X2_hasOpen HC ha]
  by_cases ho : T.2.2.1 a = true ∧ T.2.2.1 b = true ∧ T.2.2.1 c = true
  · obtain ⟨o1, o2, o3⟩ := ho
    refine jn_v (nI 1) (fun J hJ => ?_) ?_
    · simp only [jn, X2_hasOpen HC hb, X2_hasOpen HC hc, o1, o2, o3, bI_t]
      simp only [e10, e00, not_false_eq_true, not_true_eq_false, true_imp_iff, false_imp_iff, and_true, true_and]
      exact hJ
    · by_cases h6 : T.1 < 6
      · simp (disch := omega) only [jn, Nat.reduceAdd, Nat.reduceSub, Nat.reduceMul, z0, z1, z2, z3, z4, z5, z6, z7, z8, z9, z10, z12, z16, z18, z24, z31, z33, z48, z49, z51, z53, z55, z57, z59, z60, z61, z63, z66, z97, z99, z111, z114, z115, z116, z118, z122, z126, z255, z854, z1000, z1111, z7143, z9999, z10000, zM, zMn, nI_add, pk_mul, zsub, zlt_t, zlt_f, zle_t, zle_f, zeq_t, zeq_f, zeM1, zeM2, zeM3, zltM, zleM, nI_clamp, zin, false_or, or_false, true_and, and_true, false_and, and_false, not_true_eq_false, not_false_eq_true, true_imp_iff, false_imp_iff, implies_true, if_true, if_false, S_openMask, S_keys, S_roadCount, S_roadInns, S_roadKeys, S_roadHalls, S_envelopeCount, S_envelopeNumbers, S_letters, S_answerRoads, S_answerGot, S_counts, sS_openMask, sS_roadCount, sS_envelopeCount, sS_answerGot, aS_keys, aS_roadInns, aS_roadKeys, aS_roadHalls, aS_envelopeNumbers, aS_letters, aS_answerRoads, aS_counts, wS_keys, wS_roadInns, wS_roadKeys, wS_roadHalls, wS_envelopeNumbers, wS_letters, wS_answerRoads, wS_counts, V_slots, V_next, V_size, sV_slots, sV_next, sV_size, N_now, N_text, N_saved, sN_now, sN_text, sN_saved, c_n HC]
        exact h0 nd ⟨h6, o1, o2, o3⟩
      · simp (disch := omega) only [jn, Nat.reduceAdd, Nat.reduceSub, Nat.reduceMul, z0, z1, z2, z3, z4, z5, z6, z7, z8, z9, z10, z12, z16, z18, z24, z31, z33, z48, z49, z51, z53, z55, z57, z59, z60, z61, z63, z66, z97, z99, z111, z114, z115, z116, z118, z122, z126, z255, z854, z1000, z1111, z7143, z9999, z10000, zM, zMn, nI_add, pk_mul, zsub, zlt_t, zlt_f, zle_t, zle_f, zeq_t, zeq_f, zeM1, zeM2, zeM3, zltM, zleM, nI_clamp, zin, false_or, or_false, true_and, and_true, false_and, and_false, not_true_eq_false, not_false_eq_true, true_imp_iff, false_imp_iff, implies_true, if_true, if_false, S_openMask, S_keys, S_roadCount, S_roadInns, S_roadKeys, S_roadHalls, S_envelopeCount, S_envelopeNumbers, S_letters, S_answerRoads, S_answerGot, S_counts, sS_openMask, sS_roadCount, sS_envelopeCount, sS_answerGot, aS_keys, aS_roadInns, aS_roadKeys, aS_roadHalls, aS_envelopeNumbers, aS_letters, aS_answerRoads, aS_counts, wS_keys, wS_roadInns, wS_roadKeys, wS_roadHalls, wS_envelopeNumbers, wS_letters, wS_answerRoads, wS_counts, V_slots, V_next, V_size, sV_slots, sV_next, sV_size, N_now, N_text, N_saved, sN_now, sN_text, sN_saved, c_n HC]
        exact h3 nd (fun q => h6 q.1)
  · refine jn_v (nI 0) (fun J hJ => ?_) ?_
    · simp only [jn, X2_hasOpen HC hb, X2_hasOpen HC hc]
      refine ⟨fun _ => hJ, fun q1 => ⟨fun _ => hJ, fun q2 => ⟨fun _ => hJ, fun q3 => ?_⟩⟩⟩
      exact absurd ⟨bI_ne q1, bI_ne q2, bI_ne q3⟩ ho
    · simp (disch := omega) only [jn, Nat.reduceAdd, Nat.reduceSub, Nat.reduceMul, z0, z1, z2, z3, z4, z5, z6, z7, z8, z9, z10, z12, z16, z18, z24, z31, z33, z48, z49, z51, z53, z55, z57, z59, z60, z61, z63, z66, z97, z99, z111, z114, z115, z116, z118, z122, z126, z255, z854, z1000, z1111, z7143, z9999, z10000, zM, zMn, nI_add, pk_mul, zsub, zlt_t, zlt_f, zle_t, zle_f, zeq_t, zeq_f, zeM1, zeM2, zeM3, zltM, zleM, nI_clamp, zin, false_or, or_false, true_and, and_true, false_and, and_false, not_true_eq_false, not_false_eq_true, true_imp_iff, false_imp_iff, implies_true, if_true, if_false]
      exact h3 nd (fun q => ho q.2)
theorem X4_lay_out {p1 p2 p3 p4 : Int32} (hout : ¬ ((¬ p1 < nI 0 ∧ ¬ nI 7 < p1) ∧ (¬ p2 < nI 0 ∧ ¬ nI 7 < p2) ∧ (¬ p3 < nI 0 ∧ ¬ nI 7 < p3) ∧ (¬ p4 < nI 0 ∧ ¬ nI 3 < p4))) {post : Int32 → Md → Prop} (hp : post (nI 0) (nI 1, M.2.1, M.2.2.1, M.2.2.2.1, M.2.2.2.2.1, M.2.2.2.2.2.1, M.2.2.2.2.2.2.1, M.2.2.2.2.2.2.2.1, M.2.2.2.2.2.2.2.2.1, M.2.2.2.2.2.2.2.2.2.1, M.2.2.2.2.2.2.2.2.2.2.1, M.2.2.2.2.2.2.2.2.2.2.2)) : wp_X4_lay M p1 p2 p3 p4 post := by
  have e10 : (nI 1 = nI 0) = False := zeq_f (by decide) (by decide) (by decide)
  have e00 : (nI 0 = nI 0) = True := eq_true rfl
  unfold wp_X4_lay
  rw [X4_isInn]
  refine jn_v (nI 0) (fun J hJ => ?_) ?_
  · simp only [jn, X4_isInn, X4_isHall, z0, z1]
    refine ⟨fun _ => hJ, fun q1 => ⟨fun _ => hJ, fun q2 => ⟨fun _ => hJ, fun q3 => ⟨fun _ => hJ, fun q4 => ?_⟩⟩⟩⟩
    exact absurd ⟨of_decide_eq_true (bI_ne q1), of_decide_eq_true (bI_ne q2), of_decide_eq_true (bI_ne q3), of_decide_eq_true (bI_ne q4)⟩ hout
  · refine jn_all (fun J hJ => ?_) (fun x8 => ?_)
    · simp only [jn]
      exact ⟨fun _ => hJ _, fun _ => ⟨fun _ => hJ _, fun _ => ⟨fun _ => hJ _, fun _ => hJ _⟩⟩⟩
    · refine jn_v (nI 1) (fun J hJ => ?_) ?_
      · simp only [z0, z1]
        simp only [e10, e00, not_false_eq_true, not_true_eq_false, true_imp_iff, false_imp_iff, and_true, true_and]
        exact hJ
      · unfold wp_X4_holds
        simp only [z0, z1]
        simp only [e10, e00, not_false_eq_true, not_true_eq_false, true_imp_iff, false_imp_iff, and_true, true_and]
        exact hp
theorem X4_lay_in (HR : RR M.2.1 T g0) (V : AV T g0) {a b c h : Nat} (ha : a < 8) (hb : b < 8) (hc : c < 8) (hh : h < 4) {post : Int32 → Md → Prop} (h2 : (a = b ∨ a = c ∨ b = c) → post (nI 0) (nI 2, M.2.1, M.2.2.1, M.2.2.2.1, M.2.2.2.2.1, M.2.2.2.2.2.1, M.2.2.2.2.2.2.1, M.2.2.2.2.2.2.2.1, M.2.2.2.2.2.2.2.2.1, M.2.2.2.2.2.2.2.2.2.1, M.2.2.2.2.2.2.2.2.2.2.1, M.2.2.2.2.2.2.2.2.2.2.2)) (h0 : ¬ (a = b ∨ a = c ∨ b = c) → (T.1 < 6 ∧ T.2.2.1 a = true ∧ T.2.2.1 b = true ∧ T.2.2.1 c = true) → wp_X4_save (nI 0, M.2.1, M.2.2.1, M.2.2.2.1, M.2.2.2.2.1, M.2.2.2.2.2.1, M.2.2.2.2.2.2.1, M.2.2.2.2.2.2.2.1, M.2.2.2.2.2.2.2.2.1, M.2.2.2.2.2.2.2.2.2.1, M.2.2.2.2.2.2.2.2.2.2.1, M.2.2.2.2.2.2.2.2.2.2.2) (fun u22 => wp_X4_lays u22 (nI a) (nI b) (nI c) (nI h) (fun r23 u24 => post r23 u24))) (h3 : ¬ (a = b ∨ a = c ∨ b = c) → ¬ (T.1 < 6 ∧ T.2.2.1 a = true ∧ T.2.2.1 b = true ∧ T.2.2.1 c = true) → post (nI 0) (nI 3, M.2.1, M.2.2.1, M.2.2.2.1, M.2.2.2.2.1, M.2.2.2.2.2.1, M.2.2.2.2.2.2.1, M.2.2.2.2.2.2.2.1, M.2.2.2.2.2.2.2.2.1, M.2.2.2.2.2.2.2.2.2.1, M.2.2.2.2.2.2.2.2.2.2.1, M.2.2.2.2.2.2.2.2.2.2.2)) : wp_X4_lay M (nI a) (nI b) (nI c) (nI h) post := by
  have hn := v_n V
  have ra : decide (¬ nI a < nI 0 ∧ ¬ nI 7 < nI a) = true := decide_eq_true (by simp (disch := omega) only [zlt_f, not_false_eq_true, and_self])
  have rb : decide (¬ nI b < nI 0 ∧ ¬ nI 7 < nI b) = true := decide_eq_true (by simp (disch := omega) only [zlt_f, not_false_eq_true, and_self])
  have rc : decide (¬ nI c < nI 0 ∧ ¬ nI 7 < nI c) = true := decide_eq_true (by simp (disch := omega) only [zlt_f, not_false_eq_true, and_self])
  have rh : decide (¬ nI h < nI 0 ∧ ¬ nI 3 < nI h) = true := decide_eq_true (by simp (disch := omega) only [zlt_f, not_false_eq_true, and_self])
  have e10 : (nI 1 = nI 0) = False := zeq_f (by decide) (by decide) (by decide)
  have e00 : (nI 0 = nI 0) = True := eq_true rfl
  have e20 : (nI 2 = nI 0) = False := zeq_f (by decide) (by decide) (by decide)
  have e30 : (nI 3 = nI 0) = False := zeq_f (by decide) (by decide) (by decide)
  unfold wp_X4_lay
  rw [X4_isInn]
  refine jn_v (nI 1) (fun J hJ => ?_) ?_
  · simp only [jn, X4_isInn, X4_isHall, z0, z1, ra, rb, rc, rh, bI_t]
    simp only [e10, e00, not_false_eq_true, not_true_eq_false, true_imp_iff, false_imp_iff, and_true, true_and]
    exact hJ
  by_cases hs : a = b ∨ a = c ∨ b = c
  · refine jn_v (nI 1) (fun J hJ => ?_) ?_
    · simp only [jn, z0, z1]
      refine ⟨fun _ => hJ, fun q1 => ⟨fun _ => hJ, fun q2 => ⟨fun q3 => ?_, fun _ => hJ⟩⟩⟩
      rcases hs with q | q | q
      · exact absurd (by rw [q]) q1
      · exact absurd (by rw [q]) q3
      · exact absurd (by rw [q]) q2
    · refine jn_v (nI 2) (fun J hJ => ?_) ?_
      · simp only [z0, z1, z2]
        simp only [e10, e00, not_false_eq_true, not_true_eq_false, true_imp_iff, false_imp_iff, and_true, true_and]
        exact hJ
      · unfold wp_X4_holds
        simp only [z0, z1, z2, e20]
        simp only [e10, e00, not_false_eq_true, not_true_eq_false, true_imp_iff, false_imp_iff, and_true, true_and]
        exact h2 hs
  · refine jn_v (nI 0) (fun J hJ => ?_) ?_
    · simp only [jn, z0, z1]
      refine ⟨fun q => ?_, fun q1 => ⟨fun q => ?_, fun q2 => ⟨fun q3 => hJ, fun q => ?_⟩⟩⟩
      · exact absurd (Or.inl ((nI_eq (by omega) (by omega)).mp q)) hs
      · exact absurd (Or.inr (Or.inr ((nI_eq (by omega) (by omega)).mp q))) hs
      · exact absurd (Or.inr (Or.inl ((nI_eq (by omega) (by omega)).mp q))) hs
    · by_cases hg : T.1 < 6 ∧ T.2.2.1 a = true ∧ T.2.2.1 b = true ∧ T.2.2.1 c = true
      · refine jn_v (nI 0) (fun J hJ => ?_) ?_
        · simp only [z0, z1, z2, z3, X4_canLay (u := M) HR V ha hb hc, decide_eq_true hg.1, hg.2.1, hg.2.2.1, hg.2.2.2, Bool.and_true, bI_t]
          simp only [e10, e00, not_false_eq_true, not_true_eq_false, true_imp_iff, false_imp_iff, and_true, true_and]
          exact hJ
        · unfold wp_X4_holds
          simp only [z0, z1]
          simp only [e10, e00, not_false_eq_true, not_true_eq_false, true_imp_iff, false_imp_iff, and_true, true_and]
          exact h0 hs hg
      · refine jn_v (nI 3) (fun J hJ => ?_) ?_
        · have hb0 : (decide (T.1 < 6) && T.2.2.1 a && T.2.2.1 b && T.2.2.1 c) = false := by
            cases hx : (decide (T.1 < 6) && T.2.2.1 a && T.2.2.1 b && T.2.2.1 c)
            · rfl
            · simp only [Bool.and_eq_true, decide_eq_true_iff] at hx
              exact absurd ⟨hx.1.1.1, hx.1.1.2, hx.1.2, hx.2⟩ hg
          simp only [z0, z1, z2, z3, X4_canLay (u := M) HR V ha hb hc, hb0, bI_f]
          simp only [e10, e00, not_false_eq_true, not_true_eq_false, true_imp_iff, false_imp_iff, and_true, true_and]
          exact hJ
        · unfold wp_X4_holds
          simp only [z0, z1, z3, e30]
          simp only [e10, e00, not_false_eq_true, not_true_eq_false, true_imp_iff, false_imp_iff, and_true, true_and]
          exact h3 hs hg
theorem law_6 (H : Inv N M) : wp_law_6 xs i N O M (fun N _ M => Inv N M) := by
  obtain ⟨⟨T, z, nx, Ts, V, HC, HR, hz, hnx, hs1, hs2, hs3, hS⟩, L, hT⟩ := id H
  have hn := v_n V
  have he := v_e V
  have HRt : RR (M_s (nI 0, M.2.1, M.2.2.1, M.2.2.2.1, M.2.2.2.2.1, M.2.2.2.2.2.1, M.2.2.2.2.2.2.1, M.2.2.2.2.2.2.2.1, M.2.2.2.2.2.2.2.2.1, M.2.2.2.2.2.2.2.2.2.1, M.2.2.2.2.2.2.2.2.2.2.1, M.2.2.2.2.2.2.2.2.2.2.2)) T g0 := HR
  unfold wp_law_6
  generalize xs (i + 1).toNatClampNeg = xa
  generalize xs (i + 2).toNatClampNeg = ya
  generalize xs (i + 3).toNatClampNeg = za
  generalize xs (i + 4).toNatClampNeg = wa
  unfold wp_L_lay wp_X3_lay
  by_cases hout : (¬ xa < nI 0 ∧ ¬ nI 7 < xa) ∧ (¬ ya < nI 0 ∧ ¬ nI 7 < ya) ∧ (¬ za < nI 0 ∧ ¬ nI 7 < za) ∧ (¬ wa < nI 0 ∧ ¬ nI 3 < wa)
  · obtain ⟨hx, hy, hz9, hw⟩ := hout
    obtain ⟨a, ha, rfl⟩ := rng (by decide) hx
    obtain ⟨b, hb, rfl⟩ := rng (by decide) hy
    obtain ⟨c, hc, rfl⟩ := rng (by decide) hz9
    obtain ⟨h, hh, rfl⟩ := rng (by decide) hw
    refine X3_lay_in HC V (by omega) (by omega) (by omega) (by omega) (fun h2 => ?_) (fun nd hg => ?_) (fun nd hg => ?_)
    · simp (disch := omega) only [jn, Nat.reduceAdd, Nat.reduceSub, Nat.reduceMul, z0, z1, z2, z3, z4, z5, z6, z7, z8, z9, z10, z12, z16, z18, z24, z31, z33, z48, z49, z51, z53, z55, z57, z59, z60, z61, z63, z66, z97, z99, z111, z114, z115, z116, z118, z122, z126, z255, z854, z1000, z1111, z7143, z9999, z10000, zM, zMn, nI_add, pk_mul, zsub, zlt_t, zlt_f, zle_t, zle_f, zeq_t, zeq_f, zeM1, zeM2, zeM3, zltM, zleM, nI_clamp, zin, false_or, or_false, true_and, and_true, false_and, and_false, not_true_eq_false, not_false_eq_true, true_imp_iff, false_imp_iff, implies_true, if_true, if_false, M_thrown, M_s, M_saved, M_text, M_length, M_at, M_letter, M_first, M_second, M_third, M_fourth, M_hash, sM_thrown, sM_saved, sM_length, sM_at, sM_letter, sM_first, sM_second, sM_third, sM_fourth, sM_hash, aM_s, wM_s, aM_text, wM_text, S_openMask, S_keys, S_roadCount, S_roadInns, S_roadKeys, S_roadHalls, S_envelopeCount, S_envelopeNumbers, S_letters, S_answerRoads, S_answerGot, S_counts, sS_openMask, sS_roadCount, sS_envelopeCount, sS_answerGot, aS_keys, aS_roadInns, aS_roadKeys, aS_roadHalls, aS_envelopeNumbers, aS_letters, aS_answerRoads, aS_counts, wS_keys, wS_roadInns, wS_roadKeys, wS_roadHalls, wS_envelopeNumbers, wS_letters, wS_answerRoads, wS_counts, V_slots, V_next, V_size, sV_slots, sV_next, sV_size, N_now, N_text, N_saved, sN_now, sN_text, sN_saved, decide_true, decide_false, bI_t, bI_f, X3_between, X4_isInn, X4_isHall, X4_isBody, zcmp, zupdL, X3_read, wp_X3_refuse, wp_X4_holds, wp_X4_told, wp_X4_thrown, wp_X3_innFault, wp_X3_hallFault, wp_X3_roadFault, wp_X3_envelopeFault, wp_X3_isBody, wp_X3_innAndBodyFault]
      refine Or.inr (Or.inl ?_)
      refine X4_lay_in HR V (by omega) (by omega) (by omega) (by omega) (fun _ => ?_) (fun q => absurd h2 q) (fun q => absurd h2 q)
      simp (disch := omega) only [jn, Nat.reduceAdd, Nat.reduceSub, Nat.reduceMul, z0, z1, z2, z3, z4, z5, z6, z7, z8, z9, z10, z12, z16, z18, z24, z31, z33, z48, z49, z51, z53, z55, z57, z59, z60, z61, z63, z66, z97, z99, z111, z114, z115, z116, z118, z122, z126, z255, z854, z1000, z1111, z7143, z9999, z10000, zM, zMn, nI_add, pk_mul, zsub, zlt_t, zlt_f, zle_t, zle_f, zeq_t, zeq_f, zeM1, zeM2, zeM3, zltM, zleM, nI_clamp, zin, false_or, or_false, true_and, and_true, false_and, and_false, not_true_eq_false, not_false_eq_true, true_imp_iff, false_imp_iff, implies_true, if_true, if_false, M_thrown, M_s, M_saved, M_text, M_length, M_at, M_letter, M_first, M_second, M_third, M_fourth, M_hash, sM_thrown, sM_saved, sM_length, sM_at, sM_letter, sM_first, sM_second, sM_third, sM_fourth, sM_hash, aM_s, wM_s, aM_text, wM_text, S_openMask, S_keys, S_roadCount, S_roadInns, S_roadKeys, S_roadHalls, S_envelopeCount, S_envelopeNumbers, S_letters, S_answerRoads, S_answerGot, S_counts, sS_openMask, sS_roadCount, sS_envelopeCount, sS_answerGot, aS_keys, aS_roadInns, aS_roadKeys, aS_roadHalls, aS_envelopeNumbers, aS_letters, aS_answerRoads, aS_counts, wS_keys, wS_roadInns, wS_roadKeys, wS_roadHalls, wS_envelopeNumbers, wS_letters, wS_answerRoads, wS_counts, V_slots, V_next, V_size, sV_slots, sV_next, sV_size, N_now, N_text, N_saved, sN_now, sN_text, sN_saved, decide_true, decide_false, bI_t, bI_f, X3_between, X4_isInn, X4_isHall, X4_isBody, zcmp, zupdL, X3_read, wp_X3_refuse, wp_X4_holds, wp_X4_told, wp_X4_thrown, wp_X3_innFault, wp_X3_hallFault, wp_X3_roadFault, wp_X3_envelopeFault, wp_X3_isBody, wp_X3_innAndBodyFault]
      exact H
    · simp (disch := omega) only [jn, Nat.reduceAdd, Nat.reduceSub, Nat.reduceMul, z0, z1, z2, z3, z4, z5, z6, z7, z8, z9, z10, z12, z16, z18, z24, z31, z33, z48, z49, z51, z53, z55, z57, z59, z60, z61, z63, z66, z97, z99, z111, z114, z115, z116, z118, z122, z126, z255, z854, z1000, z1111, z7143, z9999, z10000, zM, zMn, nI_add, pk_mul, zsub, zlt_t, zlt_f, zle_t, zle_f, zeq_t, zeq_f, zeM1, zeM2, zeM3, zltM, zleM, nI_clamp, zin, false_or, or_false, true_and, and_true, false_and, and_false, not_true_eq_false, not_false_eq_true, true_imp_iff, false_imp_iff, implies_true, if_true, if_false, M_thrown, M_s, M_saved, M_text, M_length, M_at, M_letter, M_first, M_second, M_third, M_fourth, M_hash, sM_thrown, sM_saved, sM_length, sM_at, sM_letter, sM_first, sM_second, sM_third, sM_fourth, sM_hash, aM_s, wM_s, aM_text, wM_text, S_openMask, S_keys, S_roadCount, S_roadInns, S_roadKeys, S_roadHalls, S_envelopeCount, S_envelopeNumbers, S_letters, S_answerRoads, S_answerGot, S_counts, sS_openMask, sS_roadCount, sS_envelopeCount, sS_answerGot, aS_keys, aS_roadInns, aS_roadKeys, aS_roadHalls, aS_envelopeNumbers, aS_letters, aS_answerRoads, aS_counts, wS_keys, wS_roadInns, wS_roadKeys, wS_roadHalls, wS_envelopeNumbers, wS_letters, wS_answerRoads, wS_counts, V_slots, V_next, V_size, sV_slots, sV_next, sV_size, N_now, N_text, N_saved, sN_now, sN_text, sN_saved, decide_true, decide_false, bI_t, bI_f, X3_between, X4_isInn, X4_isHall, X4_isBody, zcmp, zupdL, X3_read, wp_X3_refuse, wp_X4_holds, wp_X4_told, wp_X4_thrown, wp_X3_innFault, wp_X3_hallFault, wp_X3_roadFault, wp_X3_envelopeFault, wp_X3_isBody, wp_X3_innAndBodyFault]
      refine X1_keep hz hnx hs1 hs2 (fun u' hu' => ?_)
      simp (disch := omega) only [jn, Nat.reduceAdd, Nat.reduceSub, Nat.reduceMul, z0, z1, z2, z3, z4, z5, z6, z7, z8, z9, z10, z12, z16, z18, z24, z31, z33, z48, z49, z51, z53, z55, z57, z59, z60, z61, z63, z66, z97, z99, z111, z114, z115, z116, z118, z122, z126, z255, z854, z1000, z1111, z7143, z9999, z10000, zM, zMn, nI_add, pk_mul, zsub, zlt_t, zlt_f, zle_t, zle_f, zeq_t, zeq_f, zeM1, zeM2, zeM3, zltM, zleM, nI_clamp, zin, false_or, or_false, true_and, and_true, false_and, and_false, not_true_eq_false, not_false_eq_true, true_imp_iff, false_imp_iff, implies_true, if_true, if_false, M_thrown, M_s, M_saved, M_text, M_length, M_at, M_letter, M_first, M_second, M_third, M_fourth, M_hash, sM_thrown, sM_saved, sM_length, sM_at, sM_letter, sM_first, sM_second, sM_third, sM_fourth, sM_hash, aM_s, wM_s, aM_text, wM_text, S_openMask, S_keys, S_roadCount, S_roadInns, S_roadKeys, S_roadHalls, S_envelopeCount, S_envelopeNumbers, S_letters, S_answerRoads, S_answerGot, S_counts, sS_openMask, sS_roadCount, sS_envelopeCount, sS_answerGot, aS_keys, aS_roadInns, aS_roadKeys, aS_roadHalls, aS_envelopeNumbers, aS_letters, aS_answerRoads, aS_counts, wS_keys, wS_roadInns, wS_roadKeys, wS_roadHalls, wS_envelopeNumbers, wS_letters, wS_answerRoads, wS_counts, V_slots, V_next, V_size, sV_slots, sV_next, sV_size, N_now, N_text, N_saved, sN_now, sN_text, sN_saved, decide_true, decide_false, bI_t, bI_f, X3_between, X4_isInn, X4_isHall, X4_isBody, zcmp, zupdL, X3_read, wp_X3_refuse, wp_X4_holds, wp_X4_told, wp_X4_thrown, wp_X3_innFault, wp_X3_hallFault, wp_X3_roadFault, wp_X3_envelopeFault, wp_X3_isBody, wp_X3_innAndBodyFault]
      refine X2_addRoad HC V hg.1 (by omega) (by omega) (by omega) (fun U' hU' => ?_)
      refine X4_lay_in HR V (by omega) (by omega) (by omega) (by omega) (fun q => absurd q nd) (fun _ _ => ?_) (fun _ q => absurd hg q)
      refine X4_save (v := (nI 0, M.2.1, M.2.2.1, M.2.2.2.1, M.2.2.2.2.1, M.2.2.2.2.2.1, M.2.2.2.2.2.2.1, M.2.2.2.2.2.2.2.1, M.2.2.2.2.2.2.2.2.1, M.2.2.2.2.2.2.2.2.2.1, M.2.2.2.2.2.2.2.2.2.2.1, M.2.2.2.2.2.2.2.2.2.2.2)) hz hs3 (fun f q1 q2 q3 => ?_)
      have R1 : RR f T g0 := RR_congr V HR q1
      refine X4_lays R1 V hg.1 (by omega) (by omega) (by omega) (fun f2 hR2 hf2 => ?_)
      simp (disch := omega) only [jn, Nat.reduceAdd, Nat.reduceSub, Nat.reduceMul, z0, z1, z2, z3, z4, z5, z6, z7, z8, z9, z10, z12, z16, z18, z24, z31, z33, z48, z49, z51, z53, z55, z57, z59, z60, z61, z63, z66, z97, z99, z111, z114, z115, z116, z118, z122, z126, z255, z854, z1000, z1111, z7143, z9999, z10000, zM, zMn, nI_add, pk_mul, zsub, zlt_t, zlt_f, zle_t, zle_f, zeq_t, zeq_f, zeM1, zeM2, zeM3, zltM, zleM, nI_clamp, zin, false_or, or_false, true_and, and_true, false_and, and_false, not_true_eq_false, not_false_eq_true, true_imp_iff, false_imp_iff, implies_true, if_true, if_false, M_thrown, M_s, M_saved, M_text, M_length, M_at, M_letter, M_first, M_second, M_third, M_fourth, M_hash, sM_thrown, sM_saved, sM_length, sM_at, sM_letter, sM_first, sM_second, sM_third, sM_fourth, sM_hash, aM_s, wM_s, aM_text, wM_text, S_openMask, S_keys, S_roadCount, S_roadInns, S_roadKeys, S_roadHalls, S_envelopeCount, S_envelopeNumbers, S_letters, S_answerRoads, S_answerGot, S_counts, sS_openMask, sS_roadCount, sS_envelopeCount, sS_answerGot, aS_keys, aS_roadInns, aS_roadKeys, aS_roadHalls, aS_envelopeNumbers, aS_letters, aS_answerRoads, aS_counts, wS_keys, wS_roadInns, wS_roadKeys, wS_roadHalls, wS_envelopeNumbers, wS_letters, wS_answerRoads, wS_counts, V_slots, V_next, V_size, sV_slots, sV_next, sV_size, N_now, N_text, N_saved, sN_now, sN_text, sN_saved, decide_true, decide_false, bI_t, bI_f, X3_between, X4_isInn, X4_isHall, X4_isBody, zcmp, zupdL, X3_read, wp_X3_refuse, wp_X4_holds, wp_X4_told, wp_X4_thrown, wp_X3_innFault, wp_X3_hallFault, wp_X3_roadFault, wp_X3_envelopeFault, wp_X3_isBody, wp_X3_innAndBodyFault]
      exact Inv_s ⟨V, HC, HR, hz, hnx, hs1, hs2, hs3, hS⟩ hT hu' q2 q3 (AV_lay V hg.1 (by omega) (by omega) (by omega) (by omega)) hU' hR2 hf2
    · simp (disch := omega) only [jn, Nat.reduceAdd, Nat.reduceSub, Nat.reduceMul, z0, z1, z2, z3, z4, z5, z6, z7, z8, z9, z10, z12, z16, z18, z24, z31, z33, z48, z49, z51, z53, z55, z57, z59, z60, z61, z63, z66, z97, z99, z111, z114, z115, z116, z118, z122, z126, z255, z854, z1000, z1111, z7143, z9999, z10000, zM, zMn, nI_add, pk_mul, zsub, zlt_t, zlt_f, zle_t, zle_f, zeq_t, zeq_f, zeM1, zeM2, zeM3, zltM, zleM, nI_clamp, zin, false_or, or_false, true_and, and_true, false_and, and_false, not_true_eq_false, not_false_eq_true, true_imp_iff, false_imp_iff, implies_true, if_true, if_false, M_thrown, M_s, M_saved, M_text, M_length, M_at, M_letter, M_first, M_second, M_third, M_fourth, M_hash, sM_thrown, sM_saved, sM_length, sM_at, sM_letter, sM_first, sM_second, sM_third, sM_fourth, sM_hash, aM_s, wM_s, aM_text, wM_text, S_openMask, S_keys, S_roadCount, S_roadInns, S_roadKeys, S_roadHalls, S_envelopeCount, S_envelopeNumbers, S_letters, S_answerRoads, S_answerGot, S_counts, sS_openMask, sS_roadCount, sS_envelopeCount, sS_answerGot, aS_keys, aS_roadInns, aS_roadKeys, aS_roadHalls, aS_envelopeNumbers, aS_letters, aS_answerRoads, aS_counts, wS_keys, wS_roadInns, wS_roadKeys, wS_roadHalls, wS_envelopeNumbers, wS_letters, wS_answerRoads, wS_counts, V_slots, V_next, V_size, sV_slots, sV_next, sV_size, N_now, N_text, N_saved, sN_now, sN_text, sN_saved, decide_true, decide_false, bI_t, bI_f, X3_between, X4_isInn, X4_isHall, X4_isBody, zcmp, zupdL, X3_read, wp_X3_refuse, wp_X4_holds, wp_X4_told, wp_X4_thrown, wp_X3_innFault, wp_X3_hallFault, wp_X3_roadFault, wp_X3_envelopeFault, wp_X3_isBody, wp_X3_innAndBodyFault]
      refine Or.inr (Or.inr ?_)
      refine X4_lay_in HR V (by omega) (by omega) (by omega) (by omega) (fun q => absurd q nd) (fun _ q => absurd q hg) (fun _ _ => ?_)
      simp (disch := omega) only [jn, Nat.reduceAdd, Nat.reduceSub, Nat.reduceMul, z0, z1, z2, z3, z4, z5, z6, z7, z8, z9, z10, z12, z16, z18, z24, z31, z33, z48, z49, z51, z53, z55, z57, z59, z60, z61, z63, z66, z97, z99, z111, z114, z115, z116, z118, z122, z126, z255, z854, z1000, z1111, z7143, z9999, z10000, zM, zMn, nI_add, pk_mul, zsub, zlt_t, zlt_f, zle_t, zle_f, zeq_t, zeq_f, zeM1, zeM2, zeM3, zltM, zleM, nI_clamp, zin, false_or, or_false, true_and, and_true, false_and, and_false, not_true_eq_false, not_false_eq_true, true_imp_iff, false_imp_iff, implies_true, if_true, if_false, M_thrown, M_s, M_saved, M_text, M_length, M_at, M_letter, M_first, M_second, M_third, M_fourth, M_hash, sM_thrown, sM_saved, sM_length, sM_at, sM_letter, sM_first, sM_second, sM_third, sM_fourth, sM_hash, aM_s, wM_s, aM_text, wM_text, S_openMask, S_keys, S_roadCount, S_roadInns, S_roadKeys, S_roadHalls, S_envelopeCount, S_envelopeNumbers, S_letters, S_answerRoads, S_answerGot, S_counts, sS_openMask, sS_roadCount, sS_envelopeCount, sS_answerGot, aS_keys, aS_roadInns, aS_roadKeys, aS_roadHalls, aS_envelopeNumbers, aS_letters, aS_answerRoads, aS_counts, wS_keys, wS_roadInns, wS_roadKeys, wS_roadHalls, wS_envelopeNumbers, wS_letters, wS_answerRoads, wS_counts, V_slots, V_next, V_size, sV_slots, sV_next, sV_size, N_now, N_text, N_saved, sN_now, sN_text, sN_saved, decide_true, decide_false, bI_t, bI_f, X3_between, X4_isInn, X4_isHall, X4_isBody, zcmp, zupdL, X3_read, wp_X3_refuse, wp_X4_holds, wp_X4_told, wp_X4_thrown, wp_X3_innFault, wp_X3_hallFault, wp_X3_roadFault, wp_X3_envelopeFault, wp_X3_isBody, wp_X3_innAndBodyFault]
      exact H
  · refine X3_lay_out hout ?_
    simp (disch := omega) only [jn, Nat.reduceAdd, Nat.reduceSub, Nat.reduceMul, z0, z1, z2, z3, z4, z5, z6, z7, z8, z9, z10, z12, z16, z18, z24, z31, z33, z48, z49, z51, z53, z55, z57, z59, z60, z61, z63, z66, z97, z99, z111, z114, z115, z116, z118, z122, z126, z255, z854, z1000, z1111, z7143, z9999, z10000, zM, zMn, nI_add, pk_mul, zsub, zlt_t, zlt_f, zle_t, zle_f, zeq_t, zeq_f, zeM1, zeM2, zeM3, zltM, zleM, nI_clamp, zin, false_or, or_false, true_and, and_true, false_and, and_false, not_true_eq_false, not_false_eq_true, true_imp_iff, false_imp_iff, implies_true, if_true, if_false, M_thrown, M_s, M_saved, M_text, M_length, M_at, M_letter, M_first, M_second, M_third, M_fourth, M_hash, sM_thrown, sM_saved, sM_length, sM_at, sM_letter, sM_first, sM_second, sM_third, sM_fourth, sM_hash, aM_s, wM_s, aM_text, wM_text, S_openMask, S_keys, S_roadCount, S_roadInns, S_roadKeys, S_roadHalls, S_envelopeCount, S_envelopeNumbers, S_letters, S_answerRoads, S_answerGot, S_counts, sS_openMask, sS_roadCount, sS_envelopeCount, sS_answerGot, aS_keys, aS_roadInns, aS_roadKeys, aS_roadHalls, aS_envelopeNumbers, aS_letters, aS_answerRoads, aS_counts, wS_keys, wS_roadInns, wS_roadKeys, wS_roadHalls, wS_envelopeNumbers, wS_letters, wS_answerRoads, wS_counts, V_slots, V_next, V_size, sV_slots, sV_next, sV_size, N_now, N_text, N_saved, sN_now, sN_text, sN_saved, decide_true, decide_false, bI_t, bI_f, X3_between, X4_isInn, X4_isHall, X4_isBody, zcmp, zupdL, X3_read, wp_X3_refuse, wp_X4_holds, wp_X4_told, wp_X4_thrown, wp_X3_innFault, wp_X3_hallFault, wp_X3_roadFault, wp_X3_envelopeFault, wp_X3_isBody, wp_X3_innAndBodyFault]
    refine Or.inl ?_
    refine X4_lay_out hout ?_
    simp (disch := omega) only [jn, Nat.reduceAdd, Nat.reduceSub, Nat.reduceMul, z0, z1, z2, z3, z4, z5, z6, z7, z8, z9, z10, z12, z16, z18, z24, z31, z33, z48, z49, z51, z53, z55, z57, z59, z60, z61, z63, z66, z97, z99, z111, z114, z115, z116, z118, z122, z126, z255, z854, z1000, z1111, z7143, z9999, z10000, zM, zMn, nI_add, pk_mul, zsub, zlt_t, zlt_f, zle_t, zle_f, zeq_t, zeq_f, zeM1, zeM2, zeM3, zltM, zleM, nI_clamp, zin, false_or, or_false, true_and, and_true, false_and, and_false, not_true_eq_false, not_false_eq_true, true_imp_iff, false_imp_iff, implies_true, if_true, if_false, M_thrown, M_s, M_saved, M_text, M_length, M_at, M_letter, M_first, M_second, M_third, M_fourth, M_hash, sM_thrown, sM_saved, sM_length, sM_at, sM_letter, sM_first, sM_second, sM_third, sM_fourth, sM_hash, aM_s, wM_s, aM_text, wM_text, S_openMask, S_keys, S_roadCount, S_roadInns, S_roadKeys, S_roadHalls, S_envelopeCount, S_envelopeNumbers, S_letters, S_answerRoads, S_answerGot, S_counts, sS_openMask, sS_roadCount, sS_envelopeCount, sS_answerGot, aS_keys, aS_roadInns, aS_roadKeys, aS_roadHalls, aS_envelopeNumbers, aS_letters, aS_answerRoads, aS_counts, wS_keys, wS_roadInns, wS_roadKeys, wS_roadHalls, wS_envelopeNumbers, wS_letters, wS_answerRoads, wS_counts, V_slots, V_next, V_size, sV_slots, sV_next, sV_size, N_now, N_text, N_saved, sN_now, sN_text, sN_saved, decide_true, decide_false, bI_t, bI_f, X3_between, X4_isInn, X4_isHall, X4_isBody, zcmp, zupdL, X3_read, wp_X3_refuse, wp_X4_holds, wp_X4_told, wp_X4_thrown, wp_X3_innFault, wp_X3_hallFault, wp_X3_roadFault, wp_X3_envelopeFault, wp_X3_isBody, wp_X3_innAndBodyFault]
    exact H
end
