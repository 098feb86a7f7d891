/-! an order is executed -/
def OD (w : Nat → Nat) (s q : Nat) : Prop := 0 < q ∧ (∀ p, p < q → fiB w s p = true ∧ w (s + p) ≠ 59) ∧ enB (w s) q = true
def oxB (w : Nat → Nat) (s : Nat) (T : AT) : Bool := if w s = 97 then decide (T.2.2.2.2.2.2.2.2.2.1 (w (s + 1) - 48) ≠ nM ∧ T.2.1 < 12) else if w s = 114 then decide (T.1 < 6 ∧ T.2.2.1 (w (s + 1) - 48) = true ∧ T.2.2.1 (w (s + 2) - 48) = true ∧ T.2.2.1 (w (s + 3) - 48) = true) else if w s = 115 then decide ((w (s + 1) - 48) < T.1 ∧ T.2.1 < 12) else true
def oxT (w : Nat → Nat) (s q : Nat) (T : AT) : AT := if w s = 97 then tPut T 2 (T.2.2.2.2.2.2.2.2.2.1 (w (s + 1) - 48)).toNatClampNeg 4 (bdV w s (q - 3)) 1 else if w s = 114 then tLay T (w (s + 1) - 48) (w (s + 2) - 48) (w (s + 3) - 48) (w (s + 4) - 48) else if w s = 115 then tPut T 0 (w (s + 1) - 48) 0 (nest T (w (s + 1) - 48) (bdV w s (q - 3))) 0 else if w s = 116 then tPass T (w (s + 1) - 48) else tTurn T (w (s + 1) - 48) (decide (w s = 111))
section
variable {w : Nat → Nat} {s q : Nat} {T : AT}
theorem OD_sg (h : OD w s q) : w s = 97 ∨ w s = 99 ∨ w s = 111 ∨ w s = 114 ∨ w s = 115 ∨ w s = 116 := by
  have h0 := (h.2.1 0 h.1).1
  unfold fiB at h0
  rw [if_pos rfl] at h0
  exact of_decide_eq_true h0
theorem OD_r (h : OD w s q) (h114 : w s = 114) : q = 5 ∧ (48 ≤ w (s + 1) ∧ w (s + 1) ≤ 55) ∧ (48 ≤ w (s + 2) ∧ w (s + 2) ≤ 55) ∧ (48 ≤ w (s + 3) ∧ w (s + 3) ≤ 55) ∧ (48 ≤ w (s + 4) ∧ w (s + 4) ≤ 51) ∧ ¬ ((w (s + 1) - 48) = (w (s + 2) - 48) ∨ (w (s + 1) - 48) = (w (s + 3) - 48) ∨ (w (s + 2) - 48) = (w (s + 3) - 48)) := by
  have hq := h.2.2
  rw [en_R h114] at hq
  obtain rfl : q = 5 := of_decide_eq_true hq
  have g : ∀ p, 1 ≤ p → p ≤ 3 → (¬ (2 ≤ p ∧ w (s + 1) = w (s + p)) ∧ ¬ (3 ≤ p ∧ w (s + 2) = w (s + p))) ∧ (48 ≤ w (s + p) ∧ w (s + p) ≤ 55) := by
    intro p h1 h3
    have hf := h.2.1 p (by omega)
    have hl := hf.1
    rw [fi_R h114 h1 hf.2] at hl
    unfold lyB dgB at hl
    rw [if_pos h3, Bool.and_eq_true] at hl
    exact ⟨of_decide_eq_true hl.1, of_decide_eq_true hl.2⟩
  have g1 := g 1 (by omega) (by omega)
  have g2 := g 2 (by omega) (by omega)
  have g3 := g 3 (by omega) (by omega)
  have g4 : 48 ≤ w (s + 4) ∧ w (s + 4) ≤ 51 := by
    have hf := h.2.1 4 (by omega)
    have hl := hf.1
    rw [fi_R h114 (by omega) hf.2] at hl
    unfold lyB dgB at hl
    rw [if_neg (by omega), Bool.and_eq_true] at hl
    exact of_decide_eq_true hl.2
  refine ⟨rfl, g1.2, g2.2, g3.2, g4, ?_⟩
  rintro (e | e | e)
  · exact g2.1.1 ⟨by omega, by omega⟩
  · exact g3.1.1 ⟨by omega, by omega⟩
  · exact g3.1.2 ⟨by omega, by omega⟩
theorem OD_b (h : OD w s q) (hb : w s = 97 ∨ w s = 115) : 4 ≤ q ∧ q ≤ 7 ∧ 48 ≤ w (s + 1) ∧ (w s = 97 → w (s + 1) ≤ 51) ∧ (w s = 115 → w (s + 1) ≤ 53) ∧ (∀ p, 3 ≤ p → p < q → 48 ≤ w (s + p) ∧ w (s + p) ≤ 57) ∧ bdV w s (q - 3) < 10000 := by
  have hq : 4 ≤ q := by
    have hq := h.2.2
    unfold enB at hq
    rcases hb with e | e
    · rw [if_pos e] at hq; exact of_decide_eq_true hq
    · rw [if_neg (by omega), if_neg (by omega), if_pos e] at hq; exact of_decide_eq_true hq
  have f1 : (w s = 97 → 48 ≤ w (s + 1) ∧ w (s + 1) ≤ 51) ∧ (w s = 115 → 48 ≤ w (s + 1) ∧ w (s + 1) ≤ 53) := by
    have hf := h.2.1 1 (by omega)
    have hl := hf.1
    unfold fiB at hl
    refine ⟨fun e => ?_, fun e => ?_⟩
    · rw [if_neg (by omega), if_neg hf.2, if_pos e, if_pos rfl] at hl
      exact of_decide_eq_true hl
    · rw [if_neg (by omega), if_neg hf.2, if_neg (by omega), if_neg (by omega), if_pos e, if_pos rfl] at hl
      exact of_decide_eq_true hl
  have f2 : ∀ p, 2 ≤ p → p < q → bdB w s p = true := by
    intro p h2 hp
    have hf := h.2.1 p hp
    have hl := hf.1
    unfold fiB at hl
    rcases hb with e | e
    · rw [if_neg (by omega), if_neg hf.2, if_pos e, if_neg (by omega)] at hl
      exact hl
    · rw [if_neg (by omega), if_neg hf.2, if_neg (by omega), if_neg (by omega), if_pos e, if_neg (by omega)] at hl
      exact hl
  have f3 : ∀ p, 3 ≤ p → p < q → (p ≤ 6 ∧ ¬ (3 < p ∧ w (s + 3) = 48)) ∧ (48 ≤ w (s + p) ∧ w (s + p) ≤ 57) := by
    intro p h3 hp
    have hl := f2 p (by omega) hp
    unfold bdB dgB at hl
    rw [if_neg (by omega), Bool.and_eq_true] at hl
    exact ⟨of_decide_eq_true hl.1, of_decide_eq_true hl.2⟩
  have q7 : q ≤ 7 := by
    have := (f3 (q - 1) (by omega) (by omega)).1.1
    omega
  have hD : DG w s (q - 4) := ⟨fun p h1 h2 => (f3 p h1 (by omega)).2, fun h1 e => (f3 4 (by omega) (by omega)).1.2 ⟨by omega, e⟩⟩
  have hv := (DG_b (q - 4) hD).1
  rw [show q - 4 + 1 = q - 3 by omega] at hv
  have hv2 : 10 ^ (q - 3) ≤ 10 ^ 4 := Nat.pow_le_pow_right (by decide) (by omega)
  refine ⟨hq, q7, ?_, fun e => (f1.1 e).2, fun e => (f1.2 e).2, fun p h1 h2 => (f3 p h1 h2).2, by omega⟩
  rcases hb with e | e
  · exact (f1.1 e).1
  · exact (f1.2 e).1
theorem OD_2 (h : OD w s q) (hb : w s = 99 ∨ w s = 111 ∨ w s = 116) : q = 2 ∧ (w s = 116 → 49 ≤ w (s + 1) ∧ w (s + 1) ≤ 57) ∧ (w s ≠ 116 → 48 ≤ w (s + 1) ∧ w (s + 1) ≤ 55) := by
  have hq : q = 2 := by
    have hq := h.2.2
    unfold enB at hq
    rw [if_neg (by omega), if_neg (by omega), if_neg (by omega)] at hq
    exact of_decide_eq_true hq
  have hf := h.2.1 1 (by omega)
  have hl := hf.1
  unfold fiB at hl
  refine ⟨hq, fun e => ?_, fun e => ?_⟩
  · rw [if_neg (by omega), if_neg hf.2, if_neg (by omega), if_neg (by omega), if_neg (by omega), if_pos e, Bool.and_eq_true] at hl
    exact of_decide_eq_true hl.2
  · rw [if_neg (by omega), if_neg hf.2, if_neg (by omega), if_neg (by omega), if_neg (by omega), if_neg e, Bool.and_eq_true] at hl
    exact of_decide_eq_true hl.2
theorem OD_d (h : OD w s q) : 48 ≤ w (s + 1) ∧ w (s + 1) ≤ 57 := by
  have hs := OD_sg h
  by_cases h1 : w s = 97 ∨ w s = 115
  · have := OD_b h h1
    omega
  · by_cases h2 : w s = 114
    · have := OD_r h h2
      omega
    · have := OD_2 h (by omega)
      omega
theorem AV_ex (V : AV T g0) (h : OD w s q) (hx : oxB w s T = true) : AV (oxT w s q T) g0 := by
  have hs := OD_sg h
  unfold oxB at hx
  unfold oxT
  by_cases h97 : w s = 97
  · rw [if_pos h97] at hx ⊢
    obtain ⟨x1, x2⟩ := of_decide_eq_true hx
    have hb := OD_b h (Or.inl h97)
    rcases v_on V (k := (w (s + 1) - 48)) (by have := hb.2.2.2.1 h97; omega) with ho | ⟨r, hr, ho⟩
    · exact absurd ho x1
    · have hn := v_n V
      rw [ho, nI_clamp (by omega)]
      exact AV_put V x2 2 hr hb.2.2.2.2.2.2 (Or.inr ⟨rfl, by omega, by omega⟩)
  rw [if_neg h97] at hx ⊢
  by_cases h114 : w s = 114
  · rw [if_pos h114] at hx ⊢
    obtain ⟨x1, -⟩ := of_decide_eq_true hx
    have hb := OD_r h h114
    exact AV_lay V x1 (by omega) (by omega) (by omega) (by omega)
  rw [if_neg h114] at hx ⊢
  by_cases h115 : w s = 115
  · rw [if_pos h115] at hx ⊢
    obtain ⟨x1, x2⟩ := of_decide_eq_true hx
    exact AV_put V x2 0 x1 (nest_lt _ _) (Or.inl ⟨rfl, by omega⟩)
  rw [if_neg h115]
  by_cases h116 : w s = 116
  · rw [if_pos h116]
    exact AV_pass V _
  · rw [if_neg h116]
    exact AV_turn V _ _
end
section
variable {N : Ne} {T : AT} {w : Nat → Nat} {s q L : Nat}
theorem X0_body {t : Ot} (H : TW t w L) (hq : 3 ≤ q) (hs : s + q < 1000) (hd : ∀ p, 3 ≤ p → p < q → 48 ≤ w (s + p)) {post : Int32 → Prop} (hp : post (nI (bdV w s (q - 3)))) : wp_X0_bodyOf t (nI s) (nI (s + q)) post := by
  unfold wp_X0_bodyOf
  simp only [z0, z1, z3, z10, nI_add]
  refine lpnA (s + q) (fun j x => s + 3 ≤ j ∧ x = nI (bdV w s (j - (s + 3)))) ?_ ?_ (by omega) ⟨Nat.le_refl _, by rw [Nat.sub_self]; rfl⟩
  · rintro K j x hj ⟨h3, rfl⟩ hk
    refine ⟨fun n => absurd n (nI_ge hj (by omega)), fun _ => ?_⟩
    rw [X0_digitAt H (by omega)]
    have h48 := hd (j - s) (by omega) (by omega)
    rw [show s + (j - s) = j by omega] at h48
    rw [zsub h48, pk_mul, nI_add, nI_add]
    refine hk _ ⟨by omega, ?_⟩
    rw [show j + 1 - (s + 3) = j - (s + 3) + 1 by omega, bdS, show s + 3 + (j - (s + 3)) = j by omega]
  · rintro K x ⟨-, rfl⟩
    rw [show s + q - (s + 3) = q - 3 by omega]
    exact ⟨fun _ => hp, fun n => absurd (nI_le (Nat.le_refl _) (by omega)) n⟩
theorem X3_ansF (HC : CR N.1 T g0) (V : AV T g0) {h b : Nat} (hh : h < 4) (hb : b < 10000) {post : Int32 → Prop} (h1 : (T.2.2.2.2.2.2.2.2.2.1 h ≠ nM ∧ T.2.1 < 12) → post (nI 0)) (h0 : ¬ (T.2.2.2.2.2.2.2.2.2.1 h ≠ nM ∧ T.2.1 < 12) → post (nI 3)) : wp_X3_answerFault N (nI h) (nI b) post := by
  have he := v_e V
  unfold wp_X3_answerFault
  by_cases ho : T.2.2.2.2.2.2.2.2.2.1 h = nM
  · simp (disch := omega) only [jn, Nat.reduceAdd, Nat.reduceSub, Nat.reduceMul, z0, z1, z2, z3, z4, z5, z6, z7, z8, z9, z10, z12, z16, z18, z24, z31, z33, z48, z49, z51, z53, z55, z57, z59, z60, z61, z63, z66, z97, z99, z111, z114, z115, z116, z118, z122, z126, z255, z854, z1000, z1111, z7143, z9999, z10000, zM, zMn, nI_add, pk_mul, zsub, zlt_t, zlt_f, zle_t, zle_f, zeq_t, zeq_f, zeM1, zeM2, zeM3, zltM, zleM, nI_clamp, zin, false_or, or_false, true_and, and_true, false_and, and_false, not_true_eq_false, not_false_eq_true, true_imp_iff, false_imp_iff, implies_true, if_true, if_false, M_thrown, M_s, M_saved, M_text, M_length, M_at, M_letter, M_first, M_second, M_third, M_fourth, M_hash, sM_thrown, sM_saved, sM_length, sM_at, sM_letter, sM_first, sM_second, sM_third, sM_fourth, sM_hash, aM_s, wM_s, aM_text, wM_text, S_openMask, S_keys, S_roadCount, S_roadInns, S_roadKeys, S_roadHalls, S_envelopeCount, S_envelopeNumbers, S_letters, S_answerRoads, S_answerGot, S_counts, sS_openMask, sS_roadCount, sS_envelopeCount, sS_answerGot, aS_keys, aS_roadInns, aS_roadKeys, aS_roadHalls, aS_envelopeNumbers, aS_letters, aS_answerRoads, aS_counts, wS_keys, wS_roadInns, wS_roadKeys, wS_roadHalls, wS_envelopeNumbers, wS_letters, wS_answerRoads, wS_counts, V_slots, V_next, V_size, sV_slots, sV_next, sV_size, N_now, N_text, N_saved, sN_now, sN_text, sN_saved, decide_true, decide_false, bI_t, bI_f, X3_between, X4_isInn, X4_isHall, X4_isBody, zcmp, zupdL, X3_read, wp_X3_refuse, wp_X4_holds, wp_X4_told, wp_X4_thrown, wp_X3_innFault, wp_X3_hallFault, wp_X3_roadFault, wp_X3_envelopeFault, wp_X3_isBody, wp_X3_innAndBodyFault, c_on HC, c_e HC, ho]
    exact h0 (fun n => n.1 ho)
  · by_cases h12 : T.2.1 < 12
    · simp (disch := omega) only [jn, Nat.reduceAdd, Nat.reduceSub, Nat.reduceMul, z0, z1, z2, z3, z4, z5, z6, z7, z8, z9, z10, z12, z16, z18, z24, z31, z33, z48, z49, z51, z53, z55, z57, z59, z60, z61, z63, z66, z97, z99, z111, z114, z115, z116, z118, z122, z126, z255, z854, z1000, z1111, z7143, z9999, z10000, zM, zMn, nI_add, pk_mul, zsub, zlt_t, zlt_f, zle_t, zle_f, zeq_t, zeq_f, zeM1, zeM2, zeM3, zltM, zleM, nI_clamp, zin, false_or, or_false, true_and, and_true, false_and, and_false, not_true_eq_false, not_false_eq_true, true_imp_iff, false_imp_iff, implies_true, if_true, if_false, M_thrown, M_s, M_saved, M_text, M_length, M_at, M_letter, M_first, M_second, M_third, M_fourth, M_hash, sM_thrown, sM_saved, sM_length, sM_at, sM_letter, sM_first, sM_second, sM_third, sM_fourth, sM_hash, aM_s, wM_s, aM_text, wM_text, S_openMask, S_keys, S_roadCount, S_roadInns, S_roadKeys, S_roadHalls, S_envelopeCount, S_envelopeNumbers, S_letters, S_answerRoads, S_answerGot, S_counts, sS_openMask, sS_roadCount, sS_envelopeCount, sS_answerGot, aS_keys, aS_roadInns, aS_roadKeys, aS_roadHalls, aS_envelopeNumbers, aS_letters, aS_answerRoads, aS_counts, wS_keys, wS_roadInns, wS_roadKeys, wS_roadHalls, wS_envelopeNumbers, wS_letters, wS_answerRoads, wS_counts, V_slots, V_next, V_size, sV_slots, sV_next, sV_size, N_now, N_text, N_saved, sN_now, sN_text, sN_saved, decide_true, decide_false, bI_t, bI_f, X3_between, X4_isInn, X4_isHall, X4_isBody, zcmp, zupdL, X3_read, wp_X3_refuse, wp_X4_holds, wp_X4_told, wp_X4_thrown, wp_X3_innFault, wp_X3_hallFault, wp_X3_roadFault, wp_X3_envelopeFault, wp_X3_isBody, wp_X3_innAndBodyFault, c_on HC, c_e HC, ho]
      exact h1 ⟨ho, h12⟩
    · simp (disch := omega) only [jn, Nat.reduceAdd, Nat.reduceSub, Nat.reduceMul, z0, z1, z2, z3, z4, z5, z6, z7, z8, z9, z10, z12, z16, z18, z24, z31, z33, z48, z49, z51, z53, z55, z57, z59, z60, z61, z63, z66, z97, z99, z111, z114, z115, z116, z118, z122, z126, z255, z854, z1000, z1111, z7143, z9999, z10000, zM, zMn, nI_add, pk_mul, zsub, zlt_t, zlt_f, zle_t, zle_f, zeq_t, zeq_f, zeM1, zeM2, zeM3, zltM, zleM, nI_clamp, zin, false_or, or_false, true_and, and_true, false_and, and_false, not_true_eq_false, not_false_eq_true, true_imp_iff, false_imp_iff, implies_true, if_true, if_false, M_thrown, M_s, M_saved, M_text, M_length, M_at, M_letter, M_first, M_second, M_third, M_fourth, M_hash, sM_thrown, sM_saved, sM_length, sM_at, sM_letter, sM_first, sM_second, sM_third, sM_fourth, sM_hash, aM_s, wM_s, aM_text, wM_text, S_openMask, S_keys, S_roadCount, S_roadInns, S_roadKeys, S_roadHalls, S_envelopeCount, S_envelopeNumbers, S_letters, S_answerRoads, S_answerGot, S_counts, sS_openMask, sS_roadCount, sS_envelopeCount, sS_answerGot, aS_keys, aS_roadInns, aS_roadKeys, aS_roadHalls, aS_envelopeNumbers, aS_letters, aS_answerRoads, aS_counts, wS_keys, wS_roadInns, wS_roadKeys, wS_roadHalls, wS_envelopeNumbers, wS_letters, wS_answerRoads, wS_counts, V_slots, V_next, V_size, sV_slots, sV_next, sV_size, N_now, N_text, N_saved, sN_now, sN_text, sN_saved, decide_true, decide_false, bI_t, bI_f, X3_between, X4_isInn, X4_isHall, X4_isBody, zcmp, zupdL, X3_read, wp_X3_refuse, wp_X4_holds, wp_X4_told, wp_X4_thrown, wp_X3_innFault, wp_X3_hallFault, wp_X3_roadFault, wp_X3_envelopeFault, wp_X3_isBody, wp_X3_innAndBodyFault, c_on HC, c_e HC, ho]
      exact h0 (fun n => h12 n.2)
theorem X3_sendF (HC : CR N.1 T g0) (V : AV T g0) {r b : Nat} (hr : r < 10) (hb : b < 10000) {post : Int32 → Prop} (h1 : (r < T.1 ∧ T.2.1 < 12) → post (nI 0)) (h0 : ¬ (r < T.1 ∧ T.2.1 < 12) → ∀ k, ¬ nI k = nI 0 → post (nI k)) : wp_X3_sendFault N (nI r) (nI b) post := by
  have he := v_e V
  have hn := v_n V
  unfold wp_X3_sendFault
  by_cases h : r < T.1
  · by_cases h12 : T.2.1 < 12
    · simp (disch := omega) only [jn, Nat.reduceAdd, Nat.reduceSub, Nat.reduceMul, z0, z1, z2, z3, z4, z5, z6, z7, z8, z9, z10, z12, z16, z18, z24, z31, z33, z48, z49, z51, z53, z55, z57, z59, z60, z61, z63, z66, z97, z99, z111, z114, z115, z116, z118, z122, z126, z255, z854, z1000, z1111, z7143, z9999, z10000, zM, zMn, nI_add, pk_mul, zsub, zlt_t, zlt_f, zle_t, zle_f, zeq_t, zeq_f, zeM1, zeM2, zeM3, zltM, zleM, nI_clamp, zin, false_or, or_false, true_and, and_true, false_and, and_false, not_true_eq_false, not_false_eq_true, true_imp_iff, false_imp_iff, implies_true, if_true, if_false, M_thrown, M_s, M_saved, M_text, M_length, M_at, M_letter, M_first, M_second, M_third, M_fourth, M_hash, sM_thrown, sM_saved, sM_length, sM_at, sM_letter, sM_first, sM_second, sM_third, sM_fourth, sM_hash, aM_s, wM_s, aM_text, wM_text, S_openMask, S_keys, S_roadCount, S_roadInns, S_roadKeys, S_roadHalls, S_envelopeCount, S_envelopeNumbers, S_letters, S_answerRoads, S_answerGot, S_counts, sS_openMask, sS_roadCount, sS_envelopeCount, sS_answerGot, aS_keys, aS_roadInns, aS_roadKeys, aS_roadHalls, aS_envelopeNumbers, aS_letters, aS_answerRoads, aS_counts, wS_keys, wS_roadInns, wS_roadKeys, wS_roadHalls, wS_envelopeNumbers, wS_letters, wS_answerRoads, wS_counts, V_slots, V_next, V_size, sV_slots, sV_next, sV_size, N_now, N_text, N_saved, sN_now, sN_text, sN_saved, decide_true, decide_false, bI_t, bI_f, X3_between, X4_isInn, X4_isHall, X4_isBody, zcmp, zupdL, X3_read, wp_X3_refuse, wp_X4_holds, wp_X4_told, wp_X4_thrown, wp_X3_innFault, wp_X3_hallFault, wp_X3_roadFault, wp_X3_envelopeFault, wp_X3_isBody, wp_X3_innAndBodyFault, c_n HC, c_e HC, rngS']
      exact h1 ⟨h, h12⟩
    · simp (disch := omega) only [jn, Nat.reduceAdd, Nat.reduceSub, Nat.reduceMul, z0, z1, z2, z3, z4, z5, z6, z7, z8, z9, z10, z12, z16, z18, z24, z31, z33, z48, z49, z51, z53, z55, z57, z59, z60, z61, z63, z66, z97, z99, z111, z114, z115, z116, z118, z122, z126, z255, z854, z1000, z1111, z7143, z9999, z10000, zM, zMn, nI_add, pk_mul, zsub, zlt_t, zlt_f, zle_t, zle_f, zeq_t, zeq_f, zeM1, zeM2, zeM3, zltM, zleM, nI_clamp, zin, false_or, or_false, true_and, and_true, false_and, and_false, not_true_eq_false, not_false_eq_true, true_imp_iff, false_imp_iff, implies_true, if_true, if_false, M_thrown, M_s, M_saved, M_text, M_length, M_at, M_letter, M_first, M_second, M_third, M_fourth, M_hash, sM_thrown, sM_saved, sM_length, sM_at, sM_letter, sM_first, sM_second, sM_third, sM_fourth, sM_hash, aM_s, wM_s, aM_text, wM_text, S_openMask, S_keys, S_roadCount, S_roadInns, S_roadKeys, S_roadHalls, S_envelopeCount, S_envelopeNumbers, S_letters, S_answerRoads, S_answerGot, S_counts, sS_openMask, sS_roadCount, sS_envelopeCount, sS_answerGot, aS_keys, aS_roadInns, aS_roadKeys, aS_roadHalls, aS_envelopeNumbers, aS_letters, aS_answerRoads, aS_counts, wS_keys, wS_roadInns, wS_roadKeys, wS_roadHalls, wS_envelopeNumbers, wS_letters, wS_answerRoads, wS_counts, V_slots, V_next, V_size, sV_slots, sV_next, sV_size, N_now, N_text, N_saved, sN_now, sN_text, sN_saved, decide_true, decide_false, bI_t, bI_f, X3_between, X4_isInn, X4_isHall, X4_isBody, zcmp, zupdL, X3_read, wp_X3_refuse, wp_X4_holds, wp_X4_told, wp_X4_thrown, wp_X3_innFault, wp_X3_hallFault, wp_X3_roadFault, wp_X3_envelopeFault, wp_X3_isBody, wp_X3_innAndBodyFault, c_n HC, c_e HC, rngS']
      exact h0 (fun n => h12 n.2) 3 (by decide)
  · have hx : decide (¬ nI r < nI 0 ∧ ¬ (nI T.1 - nI 1) < nI r) = false := decide_eq_false (fun q => by
      obtain ⟨i, hi, e⟩ := rngS (by omega) q
      have := (nI_eq (by omega) (by omega)).mp e
      omega)
    unfold wp_X3_roadFault
    simp only [z0, z1, X3_between, S_openMask, S_keys, S_roadCount, S_roadInns, S_roadKeys, S_roadHalls, S_envelopeCount, S_envelopeNumbers, S_letters, S_answerRoads, S_answerGot, S_counts, sS_openMask, sS_roadCount, sS_envelopeCount, sS_answerGot, aS_keys, aS_roadInns, aS_roadKeys, aS_roadHalls, aS_envelopeNumbers, aS_letters, aS_answerRoads, aS_counts, wS_keys, wS_roadInns, wS_roadKeys, wS_roadHalls, wS_envelopeNumbers, wS_letters, wS_answerRoads, wS_counts, V_slots, V_next, V_size, sV_slots, sV_next, sV_size, N_now, N_text, N_saved, sN_now, sN_text, sN_saved, c_n HC, hx, bI_f]
    exact ⟨fun _ => ⟨fun n => absurd n (by decide), fun _ => h0 (fun n => h n.1) 1 (by decide)⟩, fun n => absurd trivial n⟩
theorem X3_exec (HC : CR N.1 T g0) (V : AV T g0) (HW : TW N.2.1 w L) (hO : OD w s q) (hs : s + q ≤ L) {post : Int32 → Ne → Prop} (h1 : oxB w s T = true → ∀ U', CR U' (oxT w s q T) g0 → post (nI 1) (U', N.2.1, N.2.2)) (h0 : oxB w s T = false → post (nI 0) N) : wp_X3_executeOrder N (nI s) (nI (s + q)) post := by
  have h60 := HW.1
  have hn := v_n V
  have he := v_e V
  have hsg := OD_sg hO
  have hd := OD_d hO
  have hw := w_le HW s
  unfold wp_X3_executeOrder
  simp only [z0, z1, z2, z3, z4, z97, z111, z114, z115, z116, nI_add]
  rw [X0_digitAt HW (by omega), X0_codeAt HW (by omega), zsub hd.1]
  simp (disch := omega) only [bq]
  unfold oxB at h1 h0
  unfold oxT at h1
  by_cases h97 : w s = 97
  · rw [if_pos h97] at h1 h0
    rw [if_pos h97] at h1
    have hb := OD_b hO (Or.inl h97)
    have hd1 := hb.2.2.2.1 h97
    refine ⟨fun _ => ?_, fun n => absurd h97 n⟩
    refine X0_body HW (by omega) (by omega) (fun p p1 p2 => (hb.2.2.2.2.2.1 p p1 p2).1) ?_
    unfold wp_X3_answerIfFine
    refine X3_ansF HC V (by omega) hb.2.2.2.2.2.2 (fun g => ?_) (fun g => ?_)
    · refine ⟨fun _ => ?_, fun n => absurd rfl n⟩
      rcases v_on V (k := (w (s + 1) - 48)) (by omega) with ho | ⟨r, hr, ho⟩
      · exact absurd ho g.1
      · refine X2_addAnswer HC V g.2 (by omega) ho (fun U' hU' => ?_)
        refine h1 (decide_eq_true g) U' ?_
        rw [ho, nI_clamp (by omega)]
        exact hU'
    · exact ⟨fun n => absurd n (by decide), fun _ => h0 (decide_eq_false g)⟩
  rw [if_neg h97] at h1 h0
  rw [if_neg h97] at h1
  refine ⟨fun n => absurd n h97, fun _ => ?_⟩
  by_cases h114 : w s = 114
  · rw [if_pos h114] at h1 h0
    rw [if_pos h114] at h1
    obtain ⟨hq, r1, r2, r3, r4, hne⟩ := OD_r hO h114
    refine ⟨fun _ => ?_, fun n => absurd h114 n⟩
    rw [X0_digitAt HW (by omega), X0_digitAt HW (by omega), X0_digitAt HW (by omega), zsub r2.1, zsub r3.1, zsub r4.1]
    unfold wp_X3_layIfFine
    refine X3_lay_in HC V (by omega) (by omega) (by omega) (by omega) (fun n => absurd n hne) (fun _ g => ?_) (fun _ g => ?_)
    · refine ⟨fun _ => ?_, fun n => absurd rfl n⟩
      refine X2_addRoad HC V g.1 (by omega) (by omega) (by omega) (fun U' hU' => ?_)
      exact h1 (decide_eq_true g) U' hU'
    · exact ⟨fun n => absurd n (by decide), fun _ => h0 (decide_eq_false g)⟩
  rw [if_neg h114] at h1 h0
  rw [if_neg h114] at h1
  refine ⟨fun n => absurd n h114, fun _ => ?_⟩
  by_cases h115 : w s = 115
  · rw [if_pos h115] at h1 h0
    rw [if_pos h115] at h1
    have hb := OD_b hO (Or.inr h115)
    refine ⟨fun _ => ?_, fun n => absurd h115 n⟩
    refine X0_body HW (by omega) (by omega) (fun p p1 p2 => (hb.2.2.2.2.2.1 p p1 p2).1) ?_
    unfold wp_X3_sendIfFine
    refine X3_sendF HC V (by omega) hb.2.2.2.2.2.2 (fun g => ?_) (fun g k hk => ?_)
    · refine ⟨fun _ => ?_, fun n => absurd rfl n⟩
      refine X2_addLetter HC V g.2 g.1 hb.2.2.2.2.2.2 (fun U' hU' => ?_)
      exact h1 (decide_eq_true g) U' hU'
    · exact ⟨fun n => absurd n hk, fun _ => h0 (decide_eq_false g)⟩
  rw [if_neg h115] at h1 h0
  rw [if_neg h115] at h1
  refine ⟨fun n => absurd n h115, fun _ => ?_⟩
  have h2 := OD_2 hO (by omega)
  by_cases h116 : w s = 116
  · rw [if_pos h116] at h1
    have := h2.2.1 h116
    refine ⟨fun _ => ?_, fun n => absurd h116 n⟩
    exact X2_pass HC V (by omega) (fun U' hU' => h1 rfl U' hU')
  rw [if_neg h116] at h1
  have := h2.2.2 h116
  refine ⟨fun n => absurd n h116, fun _ => ?_⟩
  rw [X0_codeAt HW (by omega), bq (by omega) (by decide)]
  unfold jn
  refine ⟨fun n => ?_, fun n => ?_⟩
  · exact X2_turn HC (by omega) (b := decide (w s = 111)) ⟨fun _ => decide_eq_false n, fun _ => rfl⟩ (fun U' hU' => h1 rfl U' hU')
  · exact X2_turn HC (by omega) (b := decide (w s = 111)) ⟨fun e => absurd e (by decide), fun e => by rw [decide_eq_true n] at e; cases e⟩ (fun U' hU' => h1 rfl U' hU')
end
section
variable {x0 : Int32} {f : Nat → Int32} {sv : Int32} {tx : Nat → Int32} {ln at1 fi se ti fo : Int32} {hs : Int64} {w : Nat → Nat} {L s q : Nat} {T : AT}
theorem X4_done (HR : RR f T g0) (V : AV T g0) (hw : w s ≤ 126) (hO : OD w s q) (hF : RF w s q fi se ti fo) {post : Int32 → Md → Prop} (h1 : oxB w s T = true → ∀ f', RR f' (oxT w s q T) g0 → (∀ k, 122 ≤ k → f' k = f k) → post (nI 1) (x0, f', sv, tx, ln, at1, nI (w s), fi, se, ti, fo, hs)) (h0 : oxB w s T = false → post (nI 0) (x0, f, sv, tx, ln, at1, nI (w s), fi, se, ti, fo, hs)) : wp_X4_isDone (x0, f, sv, tx, ln, at1, nI (w s), fi, se, ti, fo, hs) post := by
  have hn := v_n V
  have he := v_e V
  have hsg := OD_sg hO
  have hd := OD_d hO
  have HX : RR (M_s (x0, f, sv, tx, ln, at1, nI (w s), fi, se, ti, fo, hs)) T g0 := HR
  obtain ⟨hF1, hF2, hF3⟩ := hF
  subst hF2
  unfold wp_X4_isDone
  simp only [M_thrown, M_s, M_saved, M_text, M_length, M_at, M_letter, M_first, M_second, M_third, M_fourth, M_hash, sM_thrown, sM_saved, sM_length, sM_at, sM_letter, sM_first, sM_second, sM_third, sM_fourth, sM_hash, aM_s, wM_s, aM_text, wM_text, z0, z1, z8, z97, z111, z114, z115, z116, nI_add]
  simp (disch := omega) only [bq]
  unfold oxB at h1 h0
  unfold oxT at h1
  have pos : ∀ k : Nat, k < 1000 → ¬ nI k < nI 0 := fun k hk => nI_nlt (Nat.zero_le _) (by omega)
  by_cases h97 : w s = 97
  · rw [if_pos h97] at h1 h0
    rw [if_pos h97] at h1
    have hb := OD_b hO (Or.inl h97)
    have hd1 := hb.2.2.2.1 h97
    have hse := hF3 (Or.inl h97)
    subst hse
    refine ⟨fun _ => ?_, fun n => absurd h97 n⟩
    rw [X4_canAnswer HX V (by omega)]
    by_cases g : T.2.2.2.2.2.2.2.2.2.1 (w (s + 1) - 48) ≠ nM ∧ T.2.1 < 12
    · rw [decide_eq_false g.1, decide_eq_true g.2]
      refine ⟨fun n => absurd n (by decide), fun _ => ?_⟩
      rcases v_on V (k := (w (s + 1) - 48)) (by omega) with ho | ⟨r, hr, ho⟩
      · exact absurd ho g.1
      · refine X4_answers HX V g.2 (by omega) ho (fun f' hR' hf' => ?_)
        refine ⟨fun n => absurd n (pos _ (by omega)), fun _ => h1 (decide_eq_true g) f' ?_ hf'⟩
        rw [ho, nI_clamp (by omega)]
        exact hR'
    · have e : (!decide (T.2.2.2.2.2.2.2.2.2.1 (w (s + 1) - 48) = nM) && decide (T.2.1 < 12)) = false := by
        by_cases g1 : T.2.2.2.2.2.2.2.2.2.1 (w (s + 1) - 48) = nM
        · rw [decide_eq_true g1]; rfl
        · rw [decide_eq_false (fun n => g ⟨g1, n⟩), Bool.and_false]
      rw [e]
      exact ⟨fun _ => h0 (decide_eq_false g), fun n => absurd rfl n⟩
  rw [if_neg h97] at h1 h0
  rw [if_neg h97] at h1
  refine ⟨fun n => absurd n h97, fun _ => ?_⟩
  by_cases h114 : w s = 114
  · rw [if_pos h114] at h1 h0
    rw [if_pos h114] at h1
    obtain ⟨hq, r1, r2, r3, r4, hne⟩ := OD_r hO h114
    obtain ⟨rfl, rfl, rfl⟩ := hF1 h114
    refine ⟨fun _ => ?_, fun n => absurd h114 n⟩
    rw [X4_canLay HX V (by omega) (by omega) (by omega)]
    by_cases g : T.1 < 6 ∧ T.2.2.1 (w (s + 1) - 48) = true ∧ T.2.2.1 (w (s + 2) - 48) = true ∧ T.2.2.1 (w (s + 3) - 48) = true
    · rw [decide_eq_true g.1, g.2.1, g.2.2.1, g.2.2.2]
      refine ⟨fun n => absurd n (by decide), fun _ => ?_⟩
      refine X4_lays HX V g.1 (by omega) (by omega) (by omega) (fun f' hR' hf' => ?_)
      exact ⟨fun n => absurd n (pos _ (by omega)), fun _ => h1 (decide_eq_true g) f' hR' hf'⟩
    · have e : (decide (T.1 < 6) && T.2.2.1 (w (s + 1) - 48) && T.2.2.1 (w (s + 2) - 48) && T.2.2.1 (w (s + 3) - 48)) = false := by
        cases hx : (decide (T.1 < 6) && T.2.2.1 (w (s + 1) - 48) && T.2.2.1 (w (s + 2) - 48) && T.2.2.1 (w (s + 3) - 48))
        · rfl
        · simp only [Bool.and_eq_true, decide_eq_true_iff] at hx
          exact absurd ⟨hx.1.1.1, hx.1.1.2, hx.1.2, hx.2⟩ g
      rw [e]
      exact ⟨fun _ => h0 (decide_eq_false g), fun n => absurd rfl n⟩
  rw [if_neg h114] at h1 h0
  rw [if_neg h114] at h1
  refine ⟨fun n => absurd n h114, fun _ => ?_⟩
  by_cases h115 : w s = 115
  · rw [if_pos h115] at h1 h0
    rw [if_pos h115] at h1
    have hb := OD_b hO (Or.inr h115)
    have hse := hF3 (Or.inr h115)
    subst hse
    refine ⟨fun _ => ?_, fun n => absurd h115 n⟩
    rw [X4_isRoad HX]
    by_cases g1 : (w (s + 1) - 48) < T.1
    · rw [rngS' (by omega) g1]
      refine ⟨fun n => absurd n (by decide), fun _ => ?_⟩
      rw [X4_isRoom HX V]
      by_cases g2 : T.2.1 < 12
      · rw [decide_eq_true g2]
        refine ⟨fun n => absurd n (by decide), fun _ => ?_⟩
        refine X4_sends HX V g2 g1 hb.2.2.2.2.2.2 (fun f' hR' hf' => ?_)
        exact ⟨fun n => absurd n (pos _ (by omega)), fun _ => h1 (decide_eq_true ⟨g1, g2⟩) f' hR' hf'⟩
      · rw [decide_eq_false g2]
        exact ⟨fun _ => h0 (decide_eq_false (fun n => g2 n.2)), fun n => absurd rfl n⟩
    · have hx : decide (¬ nI (w (s + 1) - 48) < nI 0 ∧ ¬ (nI T.1 - nI 1) < nI (w (s + 1) - 48)) = false := decide_eq_false (fun q => by
        obtain ⟨i, hi, e⟩ := rngS (by omega) q
        have := (nI_eq (by omega) (by omega)).mp e
        omega)
      rw [hx]
      exact ⟨fun _ => h0 (decide_eq_false (fun n => g1 n.1)), fun n => absurd rfl n⟩
  rw [if_neg h115] at h1 h0
  rw [if_neg h115] at h1
  refine ⟨fun n => absurd n h115, fun _ => ?_⟩
  have h2 := OD_2 hO (by omega)
  by_cases h116 : w s = 116
  · rw [if_pos h116] at h1
    have h9 := h2.2.1 h116
    refine ⟨fun _ => ?_, fun n => absurd h116 n⟩
    refine X4_passes HX V (by omega) (fun f' hR' hf' => ?_)
    have hpa := paN_le V (w (s + 1) - 48)
    exact ⟨fun n => absurd n (pos _ (by omega)), fun _ => h1 rfl f' hR' hf'⟩
  rw [if_neg h116] at h1
  have h8 := h2.2.2 h116
  refine ⟨fun n => absurd n h116, fun _ => ?_⟩
  have fin : ∀ b : Bool, b = decide (w s = 111) → vp_in (nI (8 + (w (s + 1) - 48))) 854 ∧ post (nI 1) (x0, (upd f (nI (8 + (w (s + 1) - 48))).toNatClampNeg (bI b)), sv, tx, ln, at1, nI (w s), nI (w (s + 1) - 48), se, ti, fo, hs) := by
    intro b hb
    refine ⟨by rw [zin (by omega) (by decide)]; exact trivial, ?_⟩
    rw [nI_clamp (by omega)]
    refine h1 rfl _ ?_ (fun k hk => upd_f (by omega))
    rw [← hb]
    exact RR_open (v := (x0, f, sv, tx, ln, at1, nI (w s), nI (w (s + 1) - 48), se, ti, fo, hs)) HR V (by omega) b
  unfold jn
  exact ⟨fun n => fin false (decide_eq_false n).symm, fun n => fin true (decide_eq_true n).symm⟩
end
