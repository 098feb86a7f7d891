/-! the share of letters that were delivered -/
theorem nan_dec {b : UInt64} (h : isNaN64 b = true) : FP.Core.decode FP.Core.b64 b.toNat = .nan := by
  have h2 : (0x7ff0000000000000 : UInt64).toNat < (b &&& 0x7fffffffffffffff).toNat := by
    unfold isNaN64 at h
    exact UInt64.lt_iff_toNat_lt.mp (of_decide_eq_true h)
  rw [UInt64.toNat_and, show (0x7fffffffffffffff : UInt64).toNat = 2 ^ 63 - 1 from rfl, Nat.and_two_pow_sub_one_eq_mod, show (0x7ff0000000000000 : UInt64).toNat = 9218868437227405312 from rfl] at h2
  have hE : FP.Core.fieldE FP.Core.b64 b.toNat = FP.Core.b64.exps - 1 := by
    show b.toNat / 2 ^ 52 % 2 ^ 11 = 2 ^ 11 - 1
    omega
  have hT : ¬ FP.Core.fieldT FP.Core.b64 b.toNat = 0 := by
    show ¬ b.toNat % 2 ^ 52 = 0
    omega
  unfold FP.Core.decode
  rw [if_pos hE, if_neg hT]
theorem cmp_nan {a b : UInt64} (h : isNaN64 a = true) : ¬ Op.cmpValue (FP.dcmp a b) CmpOp.l = 0 := by
  have h3 : FP.dcmp a b = none := by
    show FP.Core.order (FP.Core.decode FP.Core.b64 a.toNat) _ = none
    rw [nan_dec h]
    rfl
  rw [h3]
  decide
theorem alike_or {a x : UInt64} (h : alike64 a x = true) : a = x ∨ (isNaN64 a = true ∧ isNaN64 x = true) := by
  unfold alike64 at h
  rcases (Bool.or_eq_true _ _).mp h with h | h
  · exact Or.inl (of_decide_eq_true h)
  · exact Or.inr ((Bool.and_eq_true _ _).mp h)
theorem alike_cmp {a b x : UInt64} (ha : alike64 a x = true) (hb : alike64 b x = true) : (Op.cmpValue (FP.dcmp a b) CmpOp.l = 0) ∨ (¬ Op.cmpValue (FP.dcmp a a) CmpOp.l = 0 ∧ ¬ Op.cmpValue (FP.dcmp b b) CmpOp.l = 0) := by
  rcases alike_or ha with ea | ⟨na, nx⟩
  · rcases alike_or hb with eb | ⟨nb, nx⟩
    · rw [ea, eb]
      exact (Classical.em _).imp id (fun h => ⟨h, h⟩)
    · exact Or.inr ⟨cmp_nan (by rw [ea]; exact nx), cmp_nan nb⟩
  · rcases alike_or hb with eb | ⟨nb, -⟩
    · exact Or.inr ⟨cmp_nan na, cmp_nan (by rw [eb]; exact nx)⟩
    · exact Or.inr ⟨cmp_nan na, cmp_nan nb⟩
theorem share_end {P Q R X : Prop} (h : P ∨ (¬ Q ∧ ¬ R)) (hx : X) : (P → X) ∧ (¬ P → (Q → False) ∧ (¬ Q → (¬ R → X) ∧ (R → False))) :=
  ⟨fun _ => hx, fun np => by
    have q := h.resolve_left np
    exact ⟨fun a => q.1 a, fun _ => ⟨fun _ => hx, fun r => q.2 r⟩⟩⟩
section
variable {xs : Nat → Int32} {i : Int32} {N : Ne} {O : Nat → Int64} {M : Md}
theorem law_22 (H : Inv N M) : wp_law_22 xs i N O M (fun N _ M => Inv N M) := by
  obtain ⟨⟨T, z, nx, Ts, V, HC, HR, hz, hnx, hs1, hs2, hs3, hS⟩, L, hT⟩ := id H
  have hn := v_n V
  have he := v_e V
  have HRt : RR (M_s (nI 0, M.2.1, M.2.2.1, M.2.2.2.1, M.2.2.2.2.1, M.2.2.2.2.2.1, M.2.2.2.2.2.2.1, M.2.2.2.2.2.2.2.1, M.2.2.2.2.2.2.2.2.1, M.2.2.2.2.2.2.2.2.2.1, M.2.2.2.2.2.2.2.2.2.2.1, M.2.2.2.2.2.2.2.2.2.2.2)) T g0 := HR
  have c0 : N.1.2.2.2.2.2.2.2.2.2.2.2 0 = T.2.2.2.2.2.2.2.2.2.2.2 0 := c_ct HC (k := 0) (by omega)
  have c1 : N.1.2.2.2.2.2.2.2.2.2.2.2 1 = T.2.2.2.2.2.2.2.2.2.2.2 1 := c_ct HC (k := 1) (by omega)
  have d0 : M.2.1 3 = T.2.2.2.2.2.2.2.2.2.2.2 0 := r_ct HR (k := 0) (by omega)
  have d1 : M.2.1 4 = T.2.2.2.2.2.2.2.2.2.2.2 1 := r_ct HR (k := 1) (by omega)
  unfold wp_law_22 wp_X3_deliveredShare wp_X4_deliveredShare
  by_cases h0 : T.2.2.2.2.2.2.2.2.2.2.2 0 = nI 0
  · simp (disch := omega) only [jn, Nat.reduceAdd, Nat.reduceSub, Nat.reduceMul, z0, z1, z2, z3, z4, z5, z6, z7, z8, z9, z10, z12, z16, z18, z24, z31, z33, z48, z49, z51, z53, z55, z57, z59, z60, z61, z63, z66, z97, z99, z111, z114, z115, z116, z118, z122, z126, z255, z854, z1000, z1111, z7143, z9999, z10000, zM, zMn, nI_add, pk_mul, zsub, zlt_t, zlt_f, zle_t, zle_f, zeq_t, zeq_f, zeM1, zeM2, zeM3, zltM, zleM, nI_clamp, zin, false_or, or_false, true_and, and_true, false_and, and_false, not_true_eq_false, not_false_eq_true, true_imp_iff, false_imp_iff, implies_true, if_true, if_false, M_thrown, M_s, M_saved, M_text, M_length, M_at, M_letter, M_first, M_second, M_third, M_fourth, M_hash, sM_thrown, sM_saved, sM_length, sM_at, sM_letter, sM_first, sM_second, sM_third, sM_fourth, sM_hash, aM_s, wM_s, aM_text, wM_text, S_openMask, S_keys, S_roadCount, S_roadInns, S_roadKeys, S_roadHalls, S_envelopeCount, S_envelopeNumbers, S_letters, S_answerRoads, S_answerGot, S_counts, sS_openMask, sS_roadCount, sS_envelopeCount, sS_answerGot, aS_keys, aS_roadInns, aS_roadKeys, aS_roadHalls, aS_envelopeNumbers, aS_letters, aS_answerRoads, aS_counts, wS_keys, wS_roadInns, wS_roadKeys, wS_roadHalls, wS_envelopeNumbers, wS_letters, wS_answerRoads, wS_counts, V_slots, V_next, V_size, sV_slots, sV_next, sV_size, N_now, N_text, N_saved, sN_now, sN_text, sN_saved, decide_true, decide_false, bI_t, bI_f, X3_between, X4_isInn, X4_isHall, X4_isBody, zcmp, zupdL, X3_read, wp_X3_refuse, wp_X4_holds, wp_X4_told, wp_X4_thrown, wp_X3_innFault, wp_X3_hallFault, wp_X3_roadFault, wp_X3_envelopeFault, wp_X3_isBody, wp_X3_innAndBodyFault, c0, d0, h0]
    exact share_end (alike_cmp (alike64_refl _) (alike64_refl _)) H
  · simp (disch := omega) only [jn, Nat.reduceAdd, Nat.reduceSub, Nat.reduceMul, z0, z1, z2, z3, z4, z5, z6, z7, z8, z9, z10, z12, z16, z18, z24, z31, z33, z48, z49, z51, z53, z55, z57, z59, z60, z61, z63, z66, z97, z99, z111, z114, z115, z116, z118, z122, z126, z255, z854, z1000, z1111, z7143, z9999, z10000, zM, zMn, nI_add, pk_mul, zsub, zlt_t, zlt_f, zle_t, zle_f, zeq_t, zeq_f, zeM1, zeM2, zeM3, zltM, zleM, nI_clamp, zin, false_or, or_false, true_and, and_true, false_and, and_false, not_true_eq_false, not_false_eq_true, true_imp_iff, false_imp_iff, implies_true, if_true, if_false, M_thrown, M_s, M_saved, M_text, M_length, M_at, M_letter, M_first, M_second, M_third, M_fourth, M_hash, sM_thrown, sM_saved, sM_length, sM_at, sM_letter, sM_first, sM_second, sM_third, sM_fourth, sM_hash, aM_s, wM_s, aM_text, wM_text, S_openMask, S_keys, S_roadCount, S_roadInns, S_roadKeys, S_roadHalls, S_envelopeCount, S_envelopeNumbers, S_letters, S_answerRoads, S_answerGot, S_counts, sS_openMask, sS_roadCount, sS_envelopeCount, sS_answerGot, aS_keys, aS_roadInns, aS_roadKeys, aS_roadHalls, aS_envelopeNumbers, aS_letters, aS_answerRoads, aS_counts, wS_keys, wS_roadInns, wS_roadKeys, wS_roadHalls, wS_envelopeNumbers, wS_letters, wS_answerRoads, wS_counts, V_slots, V_next, V_size, sV_slots, sV_next, sV_size, N_now, N_text, N_saved, sN_now, sN_text, sN_saved, decide_true, decide_false, bI_t, bI_f, X3_between, X4_isInn, X4_isHall, X4_isBody, zcmp, zupdL, X3_read, wp_X3_refuse, wp_X4_holds, wp_X4_told, wp_X4_thrown, wp_X3_innFault, wp_X3_hallFault, wp_X3_roadFault, wp_X3_envelopeFault, wp_X3_isBody, wp_X3_innAndBodyFault, c0, d0, c1, d1, h0]
    intro r4 h4 r2 h2
    exact share_end (alike_cmp h4 h2) H
end
