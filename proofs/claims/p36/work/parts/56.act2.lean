/-! act -/
theorem bI_nz {b : Bool} (h : ¬ bI b = nI 0) : b = true := by
  cases b
  · exact absurd rfl h
  · rfl
set_option maxHeartbeats 16000000 in
set_option maxRecDepth 100000 in
theorem act_ok {T : AT} {t : Nat} (V : AV T g0) (D : DI T) (Q : QB T g0 t) (x y : Int32) : ∃ (T' : AT) (gv : Nat), gv < 2147483648 ∧ AV T' g0 ∧ DI T' ∧ QB T' g0 (t + 1) ∧ ∀ (N : Ne) (S : List AT) (f : Nat → Int32), NR N T S → OnR f T → ∀ (post : Int32 → Ne × (Nat → Int32) → Prop), (∀ N' f', NR N' T' (push T S) → OnR f' T' → post (nI gv) (N', f')) → wp_L_act (N, f) x y post := by
  have hn := v_n V
  have he := v_e V
  have l1 : upN y 8 < 8 := upN_lt (by decide)
  have l2 : upN (y >>> (nI 3 &&& nI 31)) 7 < 7 := upN_lt (by decide)
  have l3 : upN (y >>> (nI 6 &&& nI 31)) 7 < 7 := upN_lt (by decide)
  have l4 : upN (y >>> (nI 9 &&& nI 31)) 4 < 4 := upN_lt (by decide)
  have l5 : upN (y >>> (nI 11 &&& nI 31)) 10000 < 10000 := upN_lt (by decide)
  have l6 : upN x 16 < 16 := upN_lt (by decide)
  have l7 := v_key V l1
  rcases (show upN x 16 = 0 ∨ upN x 16 = 1 ∨ upN x 16 = 2 ∨ upN x 16 = 3 ∨ upN x 16 = 4 ∨ upN x 16 = 5 ∨ upN x 16 = 6 ∨ upN x 16 = 7 ∨ upN x 16 = 8 ∨ upN x 16 = 9 ∨ upN x 16 = 10 ∨ upN x 16 = 11 ∨ upN x 16 = 12 ∨ upN x 16 = 13 ∨ upN x 16 = 14 ∨ upN x 16 = 15 by omega) with hk | hk | hk | hk | hk | hk | hk | hk | hk | hk | hk | hk | hk | hk | hk | hk
  · -- 0
    by_cases hq : ((y >>> (nI 4 &&& nI 31)) &&& nI 3) ≤ nI 0
    · refine ⟨tTurn T (upN y 8) false, if T.2.2.1 (upN y 8) = true then 1 else 0, by split <;> omega, AV_turn V _ _, DI_same D (Nat.le_refl _) rfl, QB_mono Q (by omega), fun N S f H hf post hp => ?_⟩
      unfold wp_L_act
      simp (disch := omega) only [Nat.reduceAdd, Nat.reduceSub, Nat.reduceMul, z0, z1, z2, z3, z4, z5, z6, z7, z8, z9, z10, z12, z16, z18, z24, z31, z33, z48, z49, z51, z53, z55, z57, z59, z60, z61, z63, z66, z97, z99, z111, z114, z115, z116, z118, z122, z126, z255, z854, z1000, z1111, z7143, z9999, z10000, zM, zMn, nI_add, pk_mul, zsub, zlt_t, zlt_f, zle_t, zle_f, zeq_t, zeq_f, zeM1, zeM2, zeM3, zltM, zleM, nI_clamp, zin, false_or, or_false, true_and, and_true, false_and, and_false, not_true_eq_false, not_false_eq_true, true_imp_iff, false_imp_iff, implies_true, if_true, if_false]
      refine L_up (by decide) (by decide) ?_
      refine L_up (by decide) (by decide) ?_
      refine L_up (by decide) (by decide) ?_
      refine L_up (by decide) (by decide) ?_
      refine L_up (by decide) (by decide) ?_
      refine N_roads H ?_
      refine N_envelopes H ?_
      refine L_up (by decide) (by decide) ?_
      rw [hk]
      refine ⟨fun _ => ?_, fun q => absurd rfl q⟩
      refine jn_v (nI 0) ?_ (fun J hJ => ⟨fun _ => hJ, fun z => absurd hq z⟩)
      refine N_setOpen H l1 (b := false) (by decide) (fun N' H' => ?_)
      have c := hp N' f H' hf
      cases ho : T.2.2.1 (upN y 8)
      · rw [ho] at c
        exact ⟨fun _ => c, fun q => absurd rfl q⟩
      · rw [ho] at c
        exact ⟨fun q => absurd q (by decide), fun _ => c⟩
    · refine ⟨tTurn T (upN y 8) true, if T.2.2.1 (upN y 8) = true then 1 else 0, by split <;> omega, AV_turn V _ _, DI_same D (Nat.le_refl _) rfl, QB_mono Q (by omega), fun N S f H hf post hp => ?_⟩
      unfold wp_L_act
      simp (disch := omega) only [Nat.reduceAdd, Nat.reduceSub, Nat.reduceMul, z0, z1, z2, z3, z4, z5, z6, z7, z8, z9, z10, z12, z16, z18, z24, z31, z33, z48, z49, z51, z53, z55, z57, z59, z60, z61, z63, z66, z97, z99, z111, z114, z115, z116, z118, z122, z126, z255, z854, z1000, z1111, z7143, z9999, z10000, zM, zMn, nI_add, pk_mul, zsub, zlt_t, zlt_f, zle_t, zle_f, zeq_t, zeq_f, zeM1, zeM2, zeM3, zltM, zleM, nI_clamp, zin, false_or, or_false, true_and, and_true, false_and, and_false, not_true_eq_false, not_false_eq_true, true_imp_iff, false_imp_iff, implies_true, if_true, if_false]
      refine L_up (by decide) (by decide) ?_
      refine L_up (by decide) (by decide) ?_
      refine L_up (by decide) (by decide) ?_
      refine L_up (by decide) (by decide) ?_
      refine L_up (by decide) (by decide) ?_
      refine N_roads H ?_
      refine N_envelopes H ?_
      refine L_up (by decide) (by decide) ?_
      rw [hk]
      refine ⟨fun _ => ?_, fun q => absurd rfl q⟩
      refine jn_v (nI 1) ?_ (fun J hJ => ⟨fun z => absurd z hq, fun _ => hJ⟩)
      refine N_setOpen H l1 (b := true) (by decide) (fun N' H' => ?_)
      have c := hp N' f H' hf
      cases ho : T.2.2.1 (upN y 8)
      · rw [ho] at c
        exact ⟨fun _ => c, fun q => absurd rfl q⟩
      · rw [ho] at c
        exact ⟨fun q => absurd q (by decide), fun _ => c⟩
  · -- 1
    by_cases hq : ((y >>> (nI 4 &&& nI 31)) &&& nI 3) ≤ nI 0
    · refine ⟨tTurn T (upN y 8) false, if T.2.2.1 (upN y 8) = true then 1 else 0, by split <;> omega, AV_turn V _ _, DI_same D (Nat.le_refl _) rfl, QB_mono Q (by omega), fun N S f H hf post hp => ?_⟩
      unfold wp_L_act
      simp (disch := omega) only [Nat.reduceAdd, Nat.reduceSub, Nat.reduceMul, z0, z1, z2, z3, z4, z5, z6, z7, z8, z9, z10, z12, z16, z18, z24, z31, z33, z48, z49, z51, z53, z55, z57, z59, z60, z61, z63, z66, z97, z99, z111, z114, z115, z116, z118, z122, z126, z255, z854, z1000, z1111, z7143, z9999, z10000, zM, zMn, nI_add, pk_mul, zsub, zlt_t, zlt_f, zle_t, zle_f, zeq_t, zeq_f, zeM1, zeM2, zeM3, zltM, zleM, nI_clamp, zin, false_or, or_false, true_and, and_true, false_and, and_false, not_true_eq_false, not_false_eq_true, true_imp_iff, false_imp_iff, implies_true, if_true, if_false]
      refine L_up (by decide) (by decide) ?_
      refine L_up (by decide) (by decide) ?_
      refine L_up (by decide) (by decide) ?_
      refine L_up (by decide) (by decide) ?_
      refine L_up (by decide) (by decide) ?_
      refine N_roads H ?_
      refine N_envelopes H ?_
      refine L_up (by decide) (by decide) ?_
      rw [hk]
      refine ⟨fun q => absurd q (by decide), fun _ => ?_⟩
      refine ⟨fun _ => ?_, fun q => absurd rfl q⟩
      refine jn_v (nI 0) ?_ (fun J hJ => ⟨fun _ => hJ, fun z => absurd hq z⟩)
      refine N_setOpen H l1 (b := false) (by decide) (fun N' H' => ?_)
      have c := hp N' f H' hf
      cases ho : T.2.2.1 (upN y 8)
      · rw [ho] at c
        exact ⟨fun _ => c, fun q => absurd rfl q⟩
      · rw [ho] at c
        exact ⟨fun q => absurd q (by decide), fun _ => c⟩
    · refine ⟨tTurn T (upN y 8) true, if T.2.2.1 (upN y 8) = true then 1 else 0, by split <;> omega, AV_turn V _ _, DI_same D (Nat.le_refl _) rfl, QB_mono Q (by omega), fun N S f H hf post hp => ?_⟩
      unfold wp_L_act
      simp (disch := omega) only [Nat.reduceAdd, Nat.reduceSub, Nat.reduceMul, z0, z1, z2, z3, z4, z5, z6, z7, z8, z9, z10, z12, z16, z18, z24, z31, z33, z48, z49, z51, z53, z55, z57, z59, z60, z61, z63, z66, z97, z99, z111, z114, z115, z116, z118, z122, z126, z255, z854, z1000, z1111, z7143, z9999, z10000, zM, zMn, nI_add, pk_mul, zsub, zlt_t, zlt_f, zle_t, zle_f, zeq_t, zeq_f, zeM1, zeM2, zeM3, zltM, zleM, nI_clamp, zin, false_or, or_false, true_and, and_true, false_and, and_false, not_true_eq_false, not_false_eq_true, true_imp_iff, false_imp_iff, implies_true, if_true, if_false]
      refine L_up (by decide) (by decide) ?_
      refine L_up (by decide) (by decide) ?_
      refine L_up (by decide) (by decide) ?_
      refine L_up (by decide) (by decide) ?_
      refine L_up (by decide) (by decide) ?_
      refine N_roads H ?_
      refine N_envelopes H ?_
      refine L_up (by decide) (by decide) ?_
      rw [hk]
      refine ⟨fun q => absurd q (by decide), fun _ => ?_⟩
      refine ⟨fun _ => ?_, fun q => absurd rfl q⟩
      refine jn_v (nI 1) ?_ (fun J hJ => ⟨fun z => absurd z hq, fun _ => hJ⟩)
      refine N_setOpen H l1 (b := true) (by decide) (fun N' H' => ?_)
      have c := hp N' f H' hf
      cases ho : T.2.2.1 (upN y 8)
      · rw [ho] at c
        exact ⟨fun _ => c, fun q => absurd rfl q⟩
      · rw [ho] at c
        exact ⟨fun q => absurd q (by decide), fun _ => c⟩
  · -- 2
    refine ⟨tKey T (upN y 8) (upN (y >>> (nI 11 &&& nI 31)) 10000), T.2.2.2.1 (upN y 8), by omega, AV_key V l5, DI_same D (Nat.le_refl _) rfl, QB_mono Q (by omega), fun N S f H hf post hp => ?_⟩
    unfold wp_L_act
    simp (disch := omega) only [Nat.reduceAdd, Nat.reduceSub, Nat.reduceMul, z0, z1, z2, z3, z4, z5, z6, z7, z8, z9, z10, z12, z16, z18, z24, z31, z33, z48, z49, z51, z53, z55, z57, z59, z60, z61, z63, z66, z97, z99, z111, z114, z115, z116, z118, z122, z126, z255, z854, z1000, z1111, z7143, z9999, z10000, zM, zMn, nI_add, pk_mul, zsub, zlt_t, zlt_f, zle_t, zle_f, zeq_t, zeq_f, zeM1, zeM2, zeM3, zltM, zleM, nI_clamp, zin, false_or, or_false, true_and, and_true, false_and, and_false, not_true_eq_false, not_false_eq_true, true_imp_iff, false_imp_iff, implies_true, if_true, if_false]
    refine L_up (by decide) (by decide) ?_
    refine L_up (by decide) (by decide) ?_
    refine L_up (by decide) (by decide) ?_
    refine L_up (by decide) (by decide) ?_
    refine L_up (by decide) (by decide) ?_
    refine N_roads H ?_
    refine N_envelopes H ?_
    refine L_up (by decide) (by decide) ?_
    rw [hk]
    refine ⟨fun q => absurd q (by decide), fun _ => ?_⟩
    refine ⟨fun q => absurd q (by decide), fun _ => ?_⟩
    refine ⟨fun _ => ?_, fun q => absurd rfl q⟩
    exact N_setKey H l1 l5 (fun N' H' => hp N' f H' hf)
  · -- 3
    by_cases hq : (upN y 8) ≠ ((((upN y 8 + 1 + upN (y >>> (nI 3 &&& nI 31)) 7) % 8 + 1 + upN (y >>> (nI 6 &&& nI 31)) 7)) % 8) ∧ T.1 < 6 ∧ T.2.2.1 (upN y 8) = true ∧ T.2.2.1 ((upN y 8 + 1 + upN (y >>> (nI 3 &&& nI 31)) 7) % 8) = true ∧ T.2.2.1 ((((upN y 8 + 1 + upN (y >>> (nI 3 &&& nI 31)) 7) % 8 + 1 + upN (y >>> (nI 6 &&& nI 31)) 7)) % 8) = true
    · obtain ⟨qc, q6, oa, ob, oc⟩ := hq
      refine ⟨tLay T (upN y 8) ((upN y 8 + 1 + upN (y >>> (nI 3 &&& nI 31)) 7) % 8) ((((upN y 8 + 1 + upN (y >>> (nI 3 &&& nI 31)) 7) % 8 + 1 + upN (y >>> (nI 6 &&& nI 31)) 7)) % 8) (upN (y >>> (nI 9 &&& nI 31)) 4), T.1, by omega, AV_lay V q6 l1 (by omega) (by omega) l4, DI_lay D (by omega) qc (by omega), QB_mono Q (by omega), fun N S f H hf post hp => ?_⟩
      unfold wp_L_act
      simp (disch := omega) only [Nat.reduceAdd, Nat.reduceSub, Nat.reduceMul, z0, z1, z2, z3, z4, z5, z6, z7, z8, z9, z10, z12, z16, z18, z24, z31, z33, z48, z49, z51, z53, z55, z57, z59, z60, z61, z63, z66, z97, z99, z111, z114, z115, z116, z118, z122, z126, z255, z854, z1000, z1111, z7143, z9999, z10000, zM, zMn, nI_add, pk_mul, zsub, zlt_t, zlt_f, zle_t, zle_f, zeq_t, zeq_f, zeM1, zeM2, zeM3, zltM, zleM, nI_clamp, zin, false_or, or_false, true_and, and_true, false_and, and_false, not_true_eq_false, not_false_eq_true, true_imp_iff, false_imp_iff, implies_true, if_true, if_false]
      refine L_up (by decide) (by decide) ?_
      refine L_up (by decide) (by decide) ?_
      refine L_up (by decide) (by decide) ?_
      refine L_up (by decide) (by decide) ?_
      refine L_up (by decide) (by decide) ?_
      refine N_roads H ?_
      refine N_envelopes H ?_
      refine L_up (by decide) (by decide) ?_
      rw [hk]
      refine ⟨fun q => absurd q (by decide), fun _ => ?_⟩
      refine ⟨fun q => absurd q (by decide), fun _ => ?_⟩
      refine ⟨fun q => absurd q (by decide), fun _ => ?_⟩
      refine ⟨fun _ => ?_, fun q => absurd rfl q⟩
      simp (disch := omega) only [Nat.reduceAdd, Nat.reduceSub, Nat.reduceMul, z0, z1, z2, z3, z4, z5, z6, z7, z8, z9, z10, z12, z16, z18, z24, z31, z33, z48, z49, z51, z53, z55, z57, z59, z60, z61, z63, z66, z97, z99, z111, z114, z115, z116, z118, z122, z126, z255, z854, z1000, z1111, z7143, z9999, z10000, zM, zMn, nI_add, pk_mul, zsub, zlt_t, zlt_f, zle_t, zle_f, zeq_t, zeq_f, zeM1, zeM2, zeM3, zltM, zleM, nI_clamp, zin, false_or, or_false, true_and, and_true, false_and, and_false, not_true_eq_false, not_false_eq_true, true_imp_iff, false_imp_iff, implies_true, if_true, if_false, pk_rem]
      refine jn_n (fun J => ?_)
      simp (disch := omega) only [Nat.reduceAdd, Nat.reduceSub, Nat.reduceMul, z0, z1, z2, z3, z4, z5, z6, z7, z8, z9, z10, z12, z16, z18, z24, z31, z33, z48, z49, z51, z53, z55, z57, z59, z60, z61, z63, z66, z97, z99, z111, z114, z115, z116, z118, z122, z126, z255, z854, z1000, z1111, z7143, z9999, z10000, zM, zMn, nI_add, pk_mul, zsub, zlt_t, zlt_f, zle_t, zle_f, zeq_t, zeq_f, zeM1, zeM2, zeM3, zltM, zleM, nI_clamp, zin, false_or, or_false, true_and, and_true, false_and, and_false, not_true_eq_false, not_false_eq_true, true_imp_iff, false_imp_iff, implies_true, if_true, if_false, N_open_e H, oa, ob, oc, bI_t]
      exact N_lay H q6 l1 (by omega) (by omega) l4 (by omega) qc (by omega) oa ob oc (fun N' H' => hp N' f H' hf)
    · refine ⟨tKey T (upN y 8) (upN (y >>> (nI 11 &&& nI 31)) 10000), T.2.2.2.1 (upN y 8), by omega, AV_key V l5, DI_same D (Nat.le_refl _) rfl, QB_mono Q (by omega), fun N S f H hf post hp => ?_⟩
      unfold wp_L_act
      simp (disch := omega) only [Nat.reduceAdd, Nat.reduceSub, Nat.reduceMul, z0, z1, z2, z3, z4, z5, z6, z7, z8, z9, z10, z12, z16, z18, z24, z31, z33, z48, z49, z51, z53, z55, z57, z59, z60, z61, z63, z66, z97, z99, z111, z114, z115, z116, z118, z122, z126, z255, z854, z1000, z1111, z7143, z9999, z10000, zM, zMn, nI_add, pk_mul, zsub, zlt_t, zlt_f, zle_t, zle_f, zeq_t, zeq_f, zeM1, zeM2, zeM3, zltM, zleM, nI_clamp, zin, false_or, or_false, true_and, and_true, false_and, and_false, not_true_eq_false, not_false_eq_true, true_imp_iff, false_imp_iff, implies_true, if_true, if_false]
      refine L_up (by decide) (by decide) ?_
      refine L_up (by decide) (by decide) ?_
      refine L_up (by decide) (by decide) ?_
      refine L_up (by decide) (by decide) ?_
      refine L_up (by decide) (by decide) ?_
      refine N_roads H ?_
      refine N_envelopes H ?_
      refine L_up (by decide) (by decide) ?_
      rw [hk]
      refine ⟨fun q => absurd q (by decide), fun _ => ?_⟩
      refine ⟨fun q => absurd q (by decide), fun _ => ?_⟩
      refine ⟨fun q => absurd q (by decide), fun _ => ?_⟩
      refine ⟨fun _ => ?_, fun q => absurd rfl q⟩
      simp (disch := omega) only [Nat.reduceAdd, Nat.reduceSub, Nat.reduceMul, z0, z1, z2, z3, z4, z5, z6, z7, z8, z9, z10, z12, z16, z18, z24, z31, z33, z48, z49, z51, z53, z55, z57, z59, z60, z61, z63, z66, z97, z99, z111, z114, z115, z116, z118, z122, z126, z255, z854, z1000, z1111, z7143, z9999, z10000, zM, zMn, nI_add, pk_mul, zsub, zlt_t, zlt_f, zle_t, zle_f, zeq_t, zeq_f, zeM1, zeM2, zeM3, zltM, zleM, nI_clamp, zin, false_or, or_false, true_and, and_true, false_and, and_false, not_true_eq_false, not_false_eq_true, true_imp_iff, false_imp_iff, implies_true, if_true, if_false, pk_rem]
      refine jn_p (N_setKey H l1 l5 (fun N' H' => hp N' f H' hf)) (fun J hJ => ?_)
      refine ⟨fun _ => hJ, fun q1 => ⟨fun _ => hJ, fun q2 => N_isOpen H l1 ⟨fun _ => hJ, fun q3 => N_isOpen H (by omega) ⟨fun _ => hJ, fun q4 => N_isOpen H (by omega) ⟨fun _ => hJ, fun q5 => absurd ?_ hq⟩⟩⟩⟩⟩
      refine ⟨fun z => q1 (by rw [← z]), ?_, bI_nz q3, bI_nz q4, bI_nz q5⟩
      rcases Nat.lt_or_ge T.1 6 with z | z
      · exact z
      · exact absurd (nI_le z (by omega)) q2
  · -- 4
    by_cases hq : (upN y 8) ≠ ((((upN y 8 + 1 + upN (y >>> (nI 3 &&& nI 31)) 7) % 8 + 1 + upN (y >>> (nI 6 &&& nI 31)) 7)) % 8) ∧ T.1 < 6 ∧ T.2.2.1 (upN y 8) = true ∧ T.2.2.1 ((upN y 8 + 1 + upN (y >>> (nI 3 &&& nI 31)) 7) % 8) = true ∧ T.2.2.1 ((((upN y 8 + 1 + upN (y >>> (nI 3 &&& nI 31)) 7) % 8 + 1 + upN (y >>> (nI 6 &&& nI 31)) 7)) % 8) = true
    · obtain ⟨qc, q6, oa, ob, oc⟩ := hq
      refine ⟨tLay T (upN y 8) ((upN y 8 + 1 + upN (y >>> (nI 3 &&& nI 31)) 7) % 8) ((((upN y 8 + 1 + upN (y >>> (nI 3 &&& nI 31)) 7) % 8 + 1 + upN (y >>> (nI 6 &&& nI 31)) 7)) % 8) (upN (y >>> (nI 9 &&& nI 31)) 4), T.1, by omega, AV_lay V q6 l1 (by omega) (by omega) l4, DI_lay D (by omega) qc (by omega), QB_mono Q (by omega), fun N S f H hf post hp => ?_⟩
      unfold wp_L_act
      simp (disch := omega) only [Nat.reduceAdd, Nat.reduceSub, Nat.reduceMul, z0, z1, z2, z3, z4, z5, z6, z7, z8, z9, z10, z12, z16, z18, z24, z31, z33, z48, z49, z51, z53, z55, z57, z59, z60, z61, z63, z66, z97, z99, z111, z114, z115, z116, z118, z122, z126, z255, z854, z1000, z1111, z7143, z9999, z10000, zM, zMn, nI_add, pk_mul, zsub, zlt_t, zlt_f, zle_t, zle_f, zeq_t, zeq_f, zeM1, zeM2, zeM3, zltM, zleM, nI_clamp, zin, false_or, or_false, true_and, and_true, false_and, and_false, not_true_eq_false, not_false_eq_true, true_imp_iff, false_imp_iff, implies_true, if_true, if_false]
      refine L_up (by decide) (by decide) ?_
      refine L_up (by decide) (by decide) ?_
      refine L_up (by decide) (by decide) ?_
      refine L_up (by decide) (by decide) ?_
      refine L_up (by decide) (by decide) ?_
      refine N_roads H ?_
      refine N_envelopes H ?_
      refine L_up (by decide) (by decide) ?_
      rw [hk]
      refine ⟨fun q => absurd q (by decide), fun _ => ?_⟩
      refine ⟨fun q => absurd q (by decide), fun _ => ?_⟩
      refine ⟨fun q => absurd q (by decide), fun _ => ?_⟩
      refine ⟨fun q => absurd q (by decide), fun _ => ?_⟩
      refine ⟨fun _ => ?_, fun q => absurd rfl q⟩
      simp (disch := omega) only [Nat.reduceAdd, Nat.reduceSub, Nat.reduceMul, z0, z1, z2, z3, z4, z5, z6, z7, z8, z9, z10, z12, z16, z18, z24, z31, z33, z48, z49, z51, z53, z55, z57, z59, z60, z61, z63, z66, z97, z99, z111, z114, z115, z116, z118, z122, z126, z255, z854, z1000, z1111, z7143, z9999, z10000, zM, zMn, nI_add, pk_mul, zsub, zlt_t, zlt_f, zle_t, zle_f, zeq_t, zeq_f, zeM1, zeM2, zeM3, zltM, zleM, nI_clamp, zin, false_or, or_false, true_and, and_true, false_and, and_false, not_true_eq_false, not_false_eq_true, true_imp_iff, false_imp_iff, implies_true, if_true, if_false, pk_rem]
      refine jn_n (fun J => ?_)
      simp (disch := omega) only [Nat.reduceAdd, Nat.reduceSub, Nat.reduceMul, z0, z1, z2, z3, z4, z5, z6, z7, z8, z9, z10, z12, z16, z18, z24, z31, z33, z48, z49, z51, z53, z55, z57, z59, z60, z61, z63, z66, z97, z99, z111, z114, z115, z116, z118, z122, z126, z255, z854, z1000, z1111, z7143, z9999, z10000, zM, zMn, nI_add, pk_mul, zsub, zlt_t, zlt_f, zle_t, zle_f, zeq_t, zeq_f, zeM1, zeM2, zeM3, zltM, zleM, nI_clamp, zin, false_or, or_false, true_and, and_true, false_and, and_false, not_true_eq_false, not_false_eq_true, true_imp_iff, false_imp_iff, implies_true, if_true, if_false, N_open_e H, oa, ob, oc, bI_t]
      exact N_lay H q6 l1 (by omega) (by omega) l4 (by omega) qc (by omega) oa ob oc (fun N' H' => hp N' f H' hf)
    · refine ⟨tKey T (upN y 8) (upN (y >>> (nI 11 &&& nI 31)) 10000), T.2.2.2.1 (upN y 8), by omega, AV_key V l5, DI_same D (Nat.le_refl _) rfl, QB_mono Q (by omega), fun N S f H hf post hp => ?_⟩
      unfold wp_L_act
      simp (disch := omega) only [Nat.reduceAdd, Nat.reduceSub, Nat.reduceMul, z0, z1, z2, z3, z4, z5, z6, z7, z8, z9, z10, z12, z16, z18, z24, z31, z33, z48, z49, z51, z53, z55, z57, z59, z60, z61, z63, z66, z97, z99, z111, z114, z115, z116, z118, z122, z126, z255, z854, z1000, z1111, z7143, z9999, z10000, zM, zMn, nI_add, pk_mul, zsub, zlt_t, zlt_f, zle_t, zle_f, zeq_t, zeq_f, zeM1, zeM2, zeM3, zltM, zleM, nI_clamp, zin, false_or, or_false, true_and, and_true, false_and, and_false, not_true_eq_false, not_false_eq_true, true_imp_iff, false_imp_iff, implies_true, if_true, if_false]
      refine L_up (by decide) (by decide) ?_
      refine L_up (by decide) (by decide) ?_
      refine L_up (by decide) (by decide) ?_
      refine L_up (by decide) (by decide) ?_
      refine L_up (by decide) (by decide) ?_
      refine N_roads H ?_
      refine N_envelopes H ?_
      refine L_up (by decide) (by decide) ?_
      rw [hk]
      refine ⟨fun q => absurd q (by decide), fun _ => ?_⟩
      refine ⟨fun q => absurd q (by decide), fun _ => ?_⟩
      refine ⟨fun q => absurd q (by decide), fun _ => ?_⟩
      refine ⟨fun q => absurd q (by decide), fun _ => ?_⟩
      refine ⟨fun _ => ?_, fun q => absurd rfl q⟩
      simp (disch := omega) only [Nat.reduceAdd, Nat.reduceSub, Nat.reduceMul, z0, z1, z2, z3, z4, z5, z6, z7, z8, z9, z10, z12, z16, z18, z24, z31, z33, z48, z49, z51, z53, z55, z57, z59, z60, z61, z63, z66, z97, z99, z111, z114, z115, z116, z118, z122, z126, z255, z854, z1000, z1111, z7143, z9999, z10000, zM, zMn, nI_add, pk_mul, zsub, zlt_t, zlt_f, zle_t, zle_f, zeq_t, zeq_f, zeM1, zeM2, zeM3, zltM, zleM, nI_clamp, zin, false_or, or_false, true_and, and_true, false_and, and_false, not_true_eq_false, not_false_eq_true, true_imp_iff, false_imp_iff, implies_true, if_true, if_false, pk_rem]
      refine jn_p (N_setKey H l1 l5 (fun N' H' => hp N' f H' hf)) (fun J hJ => ?_)
      refine ⟨fun _ => hJ, fun q1 => ⟨fun _ => hJ, fun q2 => N_isOpen H l1 ⟨fun _ => hJ, fun q3 => N_isOpen H (by omega) ⟨fun _ => hJ, fun q4 => N_isOpen H (by omega) ⟨fun _ => hJ, fun q5 => absurd ?_ hq⟩⟩⟩⟩⟩
      refine ⟨fun z => q1 (by rw [← z]), ?_, bI_nz q3, bI_nz q4, bI_nz q5⟩
      rcases Nat.lt_or_ge T.1 6 with z | z
      · exact z
      · exact absurd (nI_le z (by omega)) q2
  · -- 5
    by_cases hq : (upN y 8) ≠ ((((upN y 8 + 1 + upN (y >>> (nI 3 &&& nI 31)) 7) % 8 + 1 + upN (y >>> (nI 6 &&& nI 31)) 7)) % 8) ∧ T.1 < 6 ∧ T.2.2.1 (upN y 8) = true ∧ T.2.2.1 ((upN y 8 + 1 + upN (y >>> (nI 3 &&& nI 31)) 7) % 8) = true ∧ T.2.2.1 ((((upN y 8 + 1 + upN (y >>> (nI 3 &&& nI 31)) 7) % 8 + 1 + upN (y >>> (nI 6 &&& nI 31)) 7)) % 8) = true
    · obtain ⟨qc, q6, oa, ob, oc⟩ := hq
      refine ⟨tLay T (upN y 8) ((upN y 8 + 1 + upN (y >>> (nI 3 &&& nI 31)) 7) % 8) ((((upN y 8 + 1 + upN (y >>> (nI 3 &&& nI 31)) 7) % 8 + 1 + upN (y >>> (nI 6 &&& nI 31)) 7)) % 8) (upN (y >>> (nI 9 &&& nI 31)) 4), T.1, by omega, AV_lay V q6 l1 (by omega) (by omega) l4, DI_lay D (by omega) qc (by omega), QB_mono Q (by omega), fun N S f H hf post hp => ?_⟩
      unfold wp_L_act
      simp (disch := omega) only [Nat.reduceAdd, Nat.reduceSub, Nat.reduceMul, z0, z1, z2, z3, z4, z5, z6, z7, z8, z9, z10, z12, z16, z18, z24, z31, z33, z48, z49, z51, z53, z55, z57, z59, z60, z61, z63, z66, z97, z99, z111, z114, z115, z116, z118, z122, z126, z255, z854, z1000, z1111, z7143, z9999, z10000, zM, zMn, nI_add, pk_mul, zsub, zlt_t, zlt_f, zle_t, zle_f, zeq_t, zeq_f, zeM1, zeM2, zeM3, zltM, zleM, nI_clamp, zin, false_or, or_false, true_and, and_true, false_and, and_false, not_true_eq_false, not_false_eq_true, true_imp_iff, false_imp_iff, implies_true, if_true, if_false]
      refine L_up (by decide) (by decide) ?_
      refine L_up (by decide) (by decide) ?_
      refine L_up (by decide) (by decide) ?_
      refine L_up (by decide) (by decide) ?_
      refine L_up (by decide) (by decide) ?_
      refine N_roads H ?_
      refine N_envelopes H ?_
      refine L_up (by decide) (by decide) ?_
      rw [hk]
      refine ⟨fun q => absurd q (by decide), fun _ => ?_⟩
      refine ⟨fun q => absurd q (by decide), fun _ => ?_⟩
      refine ⟨fun q => absurd q (by decide), fun _ => ?_⟩
      refine ⟨fun q => absurd q (by decide), fun _ => ?_⟩
      refine ⟨fun q => absurd q (by decide), fun _ => ?_⟩
      refine ⟨fun _ => ?_, fun q => absurd rfl q⟩
      simp (disch := omega) only [Nat.reduceAdd, Nat.reduceSub, Nat.reduceMul, z0, z1, z2, z3, z4, z5, z6, z7, z8, z9, z10, z12, z16, z18, z24, z31, z33, z48, z49, z51, z53, z55, z57, z59, z60, z61, z63, z66, z97, z99, z111, z114, z115, z116, z118, z122, z126, z255, z854, z1000, z1111, z7143, z9999, z10000, zM, zMn, nI_add, pk_mul, zsub, zlt_t, zlt_f, zle_t, zle_f, zeq_t, zeq_f, zeM1, zeM2, zeM3, zltM, zleM, nI_clamp, zin, false_or, or_false, true_and, and_true, false_and, and_false, not_true_eq_false, not_false_eq_true, true_imp_iff, false_imp_iff, implies_true, if_true, if_false, pk_rem]
      refine jn_n (fun J => ?_)
      simp (disch := omega) only [Nat.reduceAdd, Nat.reduceSub, Nat.reduceMul, z0, z1, z2, z3, z4, z5, z6, z7, z8, z9, z10, z12, z16, z18, z24, z31, z33, z48, z49, z51, z53, z55, z57, z59, z60, z61, z63, z66, z97, z99, z111, z114, z115, z116, z118, z122, z126, z255, z854, z1000, z1111, z7143, z9999, z10000, zM, zMn, nI_add, pk_mul, zsub, zlt_t, zlt_f, zle_t, zle_f, zeq_t, zeq_f, zeM1, zeM2, zeM3, zltM, zleM, nI_clamp, zin, false_or, or_false, true_and, and_true, false_and, and_false, not_true_eq_false, not_false_eq_true, true_imp_iff, false_imp_iff, implies_true, if_true, if_false, N_open_e H, oa, ob, oc, bI_t]
      exact N_lay H q6 l1 (by omega) (by omega) l4 (by omega) qc (by omega) oa ob oc (fun N' H' => hp N' f H' hf)
    · refine ⟨tKey T (upN y 8) (upN (y >>> (nI 11 &&& nI 31)) 10000), T.2.2.2.1 (upN y 8), by omega, AV_key V l5, DI_same D (Nat.le_refl _) rfl, QB_mono Q (by omega), fun N S f H hf post hp => ?_⟩
      unfold wp_L_act
      simp (disch := omega) only [Nat.reduceAdd, Nat.reduceSub, Nat.reduceMul, z0, z1, z2, z3, z4, z5, z6, z7, z8, z9, z10, z12, z16, z18, z24, z31, z33, z48, z49, z51, z53, z55, z57, z59, z60, z61, z63, z66, z97, z99, z111, z114, z115, z116, z118, z122, z126, z255, z854, z1000, z1111, z7143, z9999, z10000, zM, zMn, nI_add, pk_mul, zsub, zlt_t, zlt_f, zle_t, zle_f, zeq_t, zeq_f, zeM1, zeM2, zeM3, zltM, zleM, nI_clamp, zin, false_or, or_false, true_and, and_true, false_and, and_false, not_true_eq_false, not_false_eq_true, true_imp_iff, false_imp_iff, implies_true, if_true, if_false]
      refine L_up (by decide) (by decide) ?_
      refine L_up (by decide) (by decide) ?_
      refine L_up (by decide) (by decide) ?_
      refine L_up (by decide) (by decide) ?_
      refine L_up (by decide) (by decide) ?_
      refine N_roads H ?_
      refine N_envelopes H ?_
      refine L_up (by decide) (by decide) ?_
      rw [hk]
      refine ⟨fun q => absurd q (by decide), fun _ => ?_⟩
      refine ⟨fun q => absurd q (by decide), fun _ => ?_⟩
      refine ⟨fun q => absurd q (by decide), fun _ => ?_⟩
      refine ⟨fun q => absurd q (by decide), fun _ => ?_⟩
      refine ⟨fun q => absurd q (by decide), fun _ => ?_⟩
      refine ⟨fun _ => ?_, fun q => absurd rfl q⟩
      simp (disch := omega) only [Nat.reduceAdd, Nat.reduceSub, Nat.reduceMul, z0, z1, z2, z3, z4, z5, z6, z7, z8, z9, z10, z12, z16, z18, z24, z31, z33, z48, z49, z51, z53, z55, z57, z59, z60, z61, z63, z66, z97, z99, z111, z114, z115, z116, z118, z122, z126, z255, z854, z1000, z1111, z7143, z9999, z10000, zM, zMn, nI_add, pk_mul, zsub, zlt_t, zlt_f, zle_t, zle_f, zeq_t, zeq_f, zeM1, zeM2, zeM3, zltM, zleM, nI_clamp, zin, false_or, or_false, true_and, and_true, false_and, and_false, not_true_eq_false, not_false_eq_true, true_imp_iff, false_imp_iff, implies_true, if_true, if_false, pk_rem]
      refine jn_p (N_setKey H l1 l5 (fun N' H' => hp N' f H' hf)) (fun J hJ => ?_)
      refine ⟨fun _ => hJ, fun q1 => ⟨fun _ => hJ, fun q2 => N_isOpen H l1 ⟨fun _ => hJ, fun q3 => N_isOpen H (by omega) ⟨fun _ => hJ, fun q4 => N_isOpen H (by omega) ⟨fun _ => hJ, fun q5 => absurd ?_ hq⟩⟩⟩⟩⟩
      refine ⟨fun z => q1 (by rw [← z]), ?_, bI_nz q3, bI_nz q4, bI_nz q5⟩
      rcases Nat.lt_or_ge T.1 6 with z | z
      · exact z
      · exact absurd (nI_le z (by omega)) q2
  · -- 6
    by_cases hq : 0 < T.1 ∧ ∀ j, j < T.2.1 → T.2.2.2.2.2.2.2.1 j 0 ≠ T.1 - 1
    · obtain ⟨q0, qu⟩ := hq
      refine ⟨tUp T, T.1 - 1, by omega, AV_up V q0 qu, DI_same D (Nat.sub_le _ _) rfl, QB_mono Q (by omega), fun N S f H hf post hp => ?_⟩
      unfold wp_L_act
      simp (disch := omega) only [Nat.reduceAdd, Nat.reduceSub, Nat.reduceMul, z0, z1, z2, z3, z4, z5, z6, z7, z8, z9, z10, z12, z16, z18, z24, z31, z33, z48, z49, z51, z53, z55, z57, z59, z60, z61, z63, z66, z97, z99, z111, z114, z115, z116, z118, z122, z126, z255, z854, z1000, z1111, z7143, z9999, z10000, zM, zMn, nI_add, pk_mul, zsub, zlt_t, zlt_f, zle_t, zle_f, zeq_t, zeq_f, zeM1, zeM2, zeM3, zltM, zleM, nI_clamp, zin, false_or, or_false, true_and, and_true, false_and, and_false, not_true_eq_false, not_false_eq_true, true_imp_iff, false_imp_iff, implies_true, if_true, if_false]
      refine L_up (by decide) (by decide) ?_
      refine L_up (by decide) (by decide) ?_
      refine L_up (by decide) (by decide) ?_
      refine L_up (by decide) (by decide) ?_
      refine L_up (by decide) (by decide) ?_
      refine N_roads H ?_
      refine N_envelopes H ?_
      refine L_up (by decide) (by decide) ?_
      rw [hk]
      refine ⟨fun q => absurd q (by decide), fun _ => ?_⟩
      refine ⟨fun q => absurd q (by decide), fun _ => ?_⟩
      refine ⟨fun q => absurd q (by decide), fun _ => ?_⟩
      refine ⟨fun q => absurd q (by decide), fun _ => ?_⟩
      refine ⟨fun q => absurd q (by decide), fun _ => ?_⟩
      refine ⟨fun q => absurd q (by decide), fun _ => ?_⟩
      refine ⟨fun _ => ?_, fun q => absurd rfl q⟩
      refine jn_v (nI 1) ?_ (fun J hJ => ⟨fun q => absurd q (nI_ge q0 (by omega)), fun _ => hJ⟩)
      refine lpnA T.2.1 (fun j x => x = nI 1) ?_ ?_ (Nat.zero_le _) rfl
      · rintro K j x hj rfl hk
        have v0 := v_ev V hj rfl
        unfold envOk at v0
        have hu := qu j hj
        refine ⟨fun q => absurd q (nI_ge hj (by omega)), fun _ => ?_⟩
        refine jn_v (nI 1) ?_ (fun J hJ => jn_n (fun J2 => ⟨fun q => absurd q (by decide), fun _ => ?_⟩))
        · rw [nI_add]
          exact hk _ rfl
        · refine N_envelope H hj (by omega) ?_
          simp (disch := omega) only [Nat.reduceAdd, Nat.reduceSub, Nat.reduceMul, z0, z1, z2, z3, z4, z5, z6, z7, z8, z9, z10, z12, z16, z18, z24, z31, z33, z48, z49, z51, z53, z55, z57, z59, z60, z61, z63, z66, z97, z99, z111, z114, z115, z116, z118, z122, z126, z255, z854, z1000, z1111, z7143, z9999, z10000, zM, zMn, nI_add, pk_mul, zsub, zlt_t, zlt_f, zle_t, zle_f, zeq_t, zeq_f, zeM1, zeM2, zeM3, zltM, zleM, nI_clamp, zin, false_or, or_false, true_and, and_true, false_and, and_false, not_true_eq_false, not_false_eq_true, true_imp_iff, false_imp_iff, implies_true, if_true, if_false]
          exact hJ
      · rintro K x rfl
        refine ⟨fun _ => ?_, fun q => absurd (nI_le (Nat.le_refl _) (by omega)) q⟩
        refine lpnB 4 (fun j (u : Ne × (Nat → Int32)) => u.1 = N ∧ ∀ h, h < 4 → u.2 h = if h < j then (tUp T).2.2.2.2.2.2.2.2.2.1 h else T.2.2.2.2.2.2.2.2.2.1 h) ?_ ?_ (by omega) ⟨rfl, fun h h4 => by rw [if_neg (Nat.not_lt_zero _)]; exact hf h h4⟩
        · rintro K2 j ⟨N2, f2⟩ hj ⟨rfl, hu⟩ hk2
          have hu : ∀ h, h < 4 → f2 h = if h < j then (tUp T).2.2.2.2.2.2.2.2.2.1 h else T.2.2.2.2.2.2.2.2.2.1 h := hu
          have hj2 : f2 j = T.2.2.2.2.2.2.2.2.2.1 j := by rw [hu j hj, if_neg (Nat.lt_irrefl _)]
          have hup : ∀ h, (tUp T).2.2.2.2.2.2.2.2.2.1 h = if T.2.2.2.2.2.2.2.2.2.1 h = nI (T.1 - 1) then nM else T.2.2.2.2.2.2.2.2.2.1 h := fun _ => rfl
          refine jn_n (fun J => ⟨fun q => absurd q (nI_ge hj (by omega)), fun _ => ⟨fun q => absurd q (by decide), fun _ => ⟨vp_in_nI hj (by omega), ?_⟩⟩⟩)
          refine jn_v ((tUp T).2.2.2.2.2.2.2.2.2.1 j) ⟨vp_in_nI hj (by omega), ?_⟩ (fun J2 hJ2 => ?_)
          · rw [nI_add, nI_clamp (by omega)]
            refine hk2 _ ⟨rfl, fun h h4 => ?_⟩
            show upd f2 j _ h = _
            by_cases e : h = j
            · rw [upd_t e, if_pos (by omega), e]
            · rw [upd_f e, hu h h4]
              by_cases z : h < j
              · rw [if_pos z, if_pos (by omega)]
              · rw [if_neg z, if_neg (by omega)]
          · rw [nI_clamp (by omega)]
            simp (disch := omega) only [zsub]
            show (¬ f2 j = nI (T.1 - 1) → _ ∧ J2 (f2 j)) ∧ (f2 j = nI (T.1 - 1) → J2 nM)
            rw [hj2]
            rw [hup] at hJ2
            refine ⟨fun q => ⟨vp_in_nI hj (by omega), ?_⟩, fun q => ?_⟩
            · rw [if_neg q] at hJ2; exact hJ2
            · rw [if_pos q] at hJ2; exact hJ2
        · rintro K2 ⟨N2, f2⟩ ⟨rfl, hu⟩
          have hu : ∀ h, h < 4 → f2 h = if h < 4 then (tUp T).2.2.2.2.2.2.2.2.2.1 h else T.2.2.2.2.2.2.2.2.2.1 h := hu
          refine jn_p ⟨fun q => absurd q (by decide), fun _ => N_takeUp H q0 qu (fun N' H' => hp N' f2 H' (fun h h4 => by rw [hu h h4, if_pos h4]))⟩ (fun J hJ => ⟨fun _ => hJ, fun q => absurd (nI_le (Nat.le_refl _) (by omega)) q⟩)
    · refine ⟨tKey T (upN y 8) (upN (y >>> (nI 11 &&& nI 31)) 10000), T.2.2.2.1 (upN y 8), by omega, AV_key V l5, DI_same D (Nat.le_refl _) rfl, QB_mono Q (by omega), fun N S f H hf post hp => ?_⟩
      unfold wp_L_act
      simp (disch := omega) only [Nat.reduceAdd, Nat.reduceSub, Nat.reduceMul, z0, z1, z2, z3, z4, z5, z6, z7, z8, z9, z10, z12, z16, z18, z24, z31, z33, z48, z49, z51, z53, z55, z57, z59, z60, z61, z63, z66, z97, z99, z111, z114, z115, z116, z118, z122, z126, z255, z854, z1000, z1111, z7143, z9999, z10000, zM, zMn, nI_add, pk_mul, zsub, zlt_t, zlt_f, zle_t, zle_f, zeq_t, zeq_f, zeM1, zeM2, zeM3, zltM, zleM, nI_clamp, zin, false_or, or_false, true_and, and_true, false_and, and_false, not_true_eq_false, not_false_eq_true, true_imp_iff, false_imp_iff, implies_true, if_true, if_false]
      refine L_up (by decide) (by decide) ?_
      refine L_up (by decide) (by decide) ?_
      refine L_up (by decide) (by decide) ?_
      refine L_up (by decide) (by decide) ?_
      refine L_up (by decide) (by decide) ?_
      refine N_roads H ?_
      refine N_envelopes H ?_
      refine L_up (by decide) (by decide) ?_
      rw [hk]
      refine ⟨fun q => absurd q (by decide), fun _ => ?_⟩
      refine ⟨fun q => absurd q (by decide), fun _ => ?_⟩
      refine ⟨fun q => absurd q (by decide), fun _ => ?_⟩
      refine ⟨fun q => absurd q (by decide), fun _ => ?_⟩
      refine ⟨fun q => absurd q (by decide), fun _ => ?_⟩
      refine ⟨fun q => absurd q (by decide), fun _ => ?_⟩
      refine ⟨fun _ => ?_, fun q => absurd rfl q⟩
      refine jn_v (bI (decide (0 < T.1))) ?_ (fun J hJ => ?_)
      rotate_left
      · by_cases z : 0 < T.1
        · rw [decide_eq_true z] at hJ
          exact ⟨fun q => absurd q (nI_ge z (by omega)), fun _ => hJ⟩
        · rw [decide_eq_false z] at hJ
          exact ⟨fun _ => hJ, fun q => absurd (nI_le (by omega) (by omega)) q⟩
      refine lpnA T.2.1 (fun j x => (x = nI 0 ∨ x = nI 1) ∧ (x = nI 1 → 0 < T.1 ∧ ∀ i, i < j → T.2.2.2.2.2.2.2.1 i 0 ≠ T.1 - 1)) ?_ ?_ (Nat.zero_le _) ?_
      · rintro K j x hj ⟨hx, hx1⟩ hk
        have v0 := v_ev V hj rfl
        unfold envOk at v0
        refine ⟨fun q => absurd q (nI_ge hj (by omega)), fun _ => ?_⟩
        have hk0 : K (nI 0) (nI j + nI 1) := by rw [nI_add]; exact hk _ ⟨Or.inl rfl, fun q => absurd q (by decide)⟩
        rcases hx with rfl | rfl
        · exact jn_v (nI 0) hk0 (fun J hJ => jn_p hJ (fun J2 hJ2 => ⟨fun _ => hJ2, fun q => absurd rfl q⟩))
        · have z := hx1 rfl
          by_cases zu : T.2.2.2.2.2.2.2.1 j 0 = T.1 - 1
          · refine jn_v (nI 0) hk0 (fun J hJ => jn_p hJ (fun J2 hJ2 => ⟨fun _ => hJ2, fun _ => N_envelope H hj (by omega) ⟨fun _ => hJ2, fun q => ?_⟩⟩))
            exact absurd (by rw [zsub (by omega), zu]) q
          · refine jn_v (nI 1) ?_ (fun J hJ => jn_n (fun J2 => ⟨fun q => absurd q (by decide), fun _ => N_envelope H hj (by omega) ⟨fun q => ?_, fun _ => hJ⟩⟩))
            · rw [nI_add]
              refine hk _ ⟨Or.inr rfl, fun _ => ⟨z.1, fun i hi => ?_⟩⟩
              by_cases e : i = j
              · rw [e]; exact zu
              · exact z.2 i (by omega)
            · rw [zsub (by omega), zeq_i (by omega) (by omega)] at q
              exact absurd q zu
      · rintro K x ⟨hx, hx1⟩
        refine ⟨fun _ => ?_, fun q => absurd (nI_le (Nat.le_refl _) (by omega)) q⟩
        rcases hx with rfl | rfl
        · refine lpnB 0 (fun j (u : Ne × (Nat → Int32)) => u = (N, f)) (fun K2 j u hj => absurd hj (Nat.not_lt_zero _)) ?_ (Nat.le_refl _) rfl
          rintro K2 u rfl
          exact jn_p ⟨fun _ => N_setKey H l1 l5 (fun N' H' => hp N' f H' hf), fun q => absurd rfl q⟩ (fun J hJ => ⟨fun _ => hJ, fun _ => ⟨fun _ => hJ, fun q => absurd rfl q⟩⟩)
        · exact absurd (hx1 rfl) hq
      · refine ⟨?_, fun q => ⟨?_, fun i hi => absurd hi (Nat.not_lt_zero _)⟩⟩
        · cases decide (0 < T.1)
          · exact Or.inl rfl
          · exact Or.inr rfl
        · rw [bI_1] at q
          exact of_decide_eq_true q
  · -- 7
    refine ⟨tPass T 1, paN T 1, by have := paN_le V 1; omega, AV_pass V 1, DI_pass D 1, QB_mono (QB_pass V Q 1) (by omega), fun N S f H hf post hp => ?_⟩
    unfold wp_L_act
    simp (disch := omega) only [Nat.reduceAdd, Nat.reduceSub, Nat.reduceMul, z0, z1, z2, z3, z4, z5, z6, z7, z8, z9, z10, z12, z16, z18, z24, z31, z33, z48, z49, z51, z53, z55, z57, z59, z60, z61, z63, z66, z97, z99, z111, z114, z115, z116, z118, z122, z126, z255, z854, z1000, z1111, z7143, z9999, z10000, zM, zMn, nI_add, pk_mul, zsub, zlt_t, zlt_f, zle_t, zle_f, zeq_t, zeq_f, zeM1, zeM2, zeM3, zltM, zleM, nI_clamp, zin, false_or, or_false, true_and, and_true, false_and, and_false, not_true_eq_false, not_false_eq_true, true_imp_iff, false_imp_iff, implies_true, if_true, if_false]
    refine L_up (by decide) (by decide) ?_
    refine L_up (by decide) (by decide) ?_
    refine L_up (by decide) (by decide) ?_
    refine L_up (by decide) (by decide) ?_
    refine L_up (by decide) (by decide) ?_
    refine N_roads H ?_
    refine N_envelopes H ?_
    refine L_up (by decide) (by decide) ?_
    rw [hk]
    refine ⟨fun q => absurd q (by decide), fun _ => ?_⟩
    refine ⟨fun q => absurd q (by decide), fun _ => ?_⟩
    refine ⟨fun q => absurd q (by decide), fun _ => ?_⟩
    refine ⟨fun q => absurd q (by decide), fun _ => ?_⟩
    refine ⟨fun q => absurd q (by decide), fun _ => ?_⟩
    refine ⟨fun q => absurd q (by decide), fun _ => ?_⟩
    refine ⟨fun q => absurd q (by decide), fun _ => ?_⟩
    refine ⟨fun _ => ?_, fun q => absurd rfl q⟩
    exact L_passes H hf hp
  · -- 8
    refine ⟨tPass T 1, paN T 1, by have := paN_le V 1; omega, AV_pass V 1, DI_pass D 1, QB_mono (QB_pass V Q 1) (by omega), fun N S f H hf post hp => ?_⟩
    unfold wp_L_act
    simp (disch := omega) only [Nat.reduceAdd, Nat.reduceSub, Nat.reduceMul, z0, z1, z2, z3, z4, z5, z6, z7, z8, z9, z10, z12, z16, z18, z24, z31, z33, z48, z49, z51, z53, z55, z57, z59, z60, z61, z63, z66, z97, z99, z111, z114, z115, z116, z118, z122, z126, z255, z854, z1000, z1111, z7143, z9999, z10000, zM, zMn, nI_add, pk_mul, zsub, zlt_t, zlt_f, zle_t, zle_f, zeq_t, zeq_f, zeM1, zeM2, zeM3, zltM, zleM, nI_clamp, zin, false_or, or_false, true_and, and_true, false_and, and_false, not_true_eq_false, not_false_eq_true, true_imp_iff, false_imp_iff, implies_true, if_true, if_false]
    refine L_up (by decide) (by decide) ?_
    refine L_up (by decide) (by decide) ?_
    refine L_up (by decide) (by decide) ?_
    refine L_up (by decide) (by decide) ?_
    refine L_up (by decide) (by decide) ?_
    refine N_roads H ?_
    refine N_envelopes H ?_
    refine L_up (by decide) (by decide) ?_
    rw [hk]
    refine ⟨fun q => absurd q (by decide), fun _ => ?_⟩
    refine ⟨fun q => absurd q (by decide), fun _ => ?_⟩
    refine ⟨fun q => absurd q (by decide), fun _ => ?_⟩
    refine ⟨fun q => absurd q (by decide), fun _ => ?_⟩
    refine ⟨fun q => absurd q (by decide), fun _ => ?_⟩
    refine ⟨fun q => absurd q (by decide), fun _ => ?_⟩
    refine ⟨fun q => absurd q (by decide), fun _ => ?_⟩
    refine ⟨fun q => absurd q (by decide), fun _ => ?_⟩
    refine ⟨fun _ => ?_, fun q => absurd rfl q⟩
    exact L_passes H hf hp
  · -- 9
    refine ⟨tPass T 1, paN T 1, by have := paN_le V 1; omega, AV_pass V 1, DI_pass D 1, QB_mono (QB_pass V Q 1) (by omega), fun N S f H hf post hp => ?_⟩
    unfold wp_L_act
    simp (disch := omega) only [Nat.reduceAdd, Nat.reduceSub, Nat.reduceMul, z0, z1, z2, z3, z4, z5, z6, z7, z8, z9, z10, z12, z16, z18, z24, z31, z33, z48, z49, z51, z53, z55, z57, z59, z60, z61, z63, z66, z97, z99, z111, z114, z115, z116, z118, z122, z126, z255, z854, z1000, z1111, z7143, z9999, z10000, zM, zMn, nI_add, pk_mul, zsub, zlt_t, zlt_f, zle_t, zle_f, zeq_t, zeq_f, zeM1, zeM2, zeM3, zltM, zleM, nI_clamp, zin, false_or, or_false, true_and, and_true, false_and, and_false, not_true_eq_false, not_false_eq_true, true_imp_iff, false_imp_iff, implies_true, if_true, if_false]
    refine L_up (by decide) (by decide) ?_
    refine L_up (by decide) (by decide) ?_
    refine L_up (by decide) (by decide) ?_
    refine L_up (by decide) (by decide) ?_
    refine L_up (by decide) (by decide) ?_
    refine N_roads H ?_
    refine N_envelopes H ?_
    refine L_up (by decide) (by decide) ?_
    rw [hk]
    refine ⟨fun q => absurd q (by decide), fun _ => ?_⟩
    refine ⟨fun q => absurd q (by decide), fun _ => ?_⟩
    refine ⟨fun q => absurd q (by decide), fun _ => ?_⟩
    refine ⟨fun q => absurd q (by decide), fun _ => ?_⟩
    refine ⟨fun q => absurd q (by decide), fun _ => ?_⟩
    refine ⟨fun q => absurd q (by decide), fun _ => ?_⟩
    refine ⟨fun q => absurd q (by decide), fun _ => ?_⟩
    refine ⟨fun q => absurd q (by decide), fun _ => ?_⟩
    refine ⟨fun q => absurd q (by decide), fun _ => ?_⟩
    refine ⟨fun _ => ?_, fun q => absurd rfl q⟩
    exact L_passes H hf hp
  · -- 10
    rcases v_on V l4 with hon | ⟨r, hr, hon⟩
    · refine ⟨tKey T (upN y 8) (upN (y >>> (nI 11 &&& nI 31)) 10000), T.2.2.2.1 (upN y 8), by omega, AV_key V l5, DI_same D (Nat.le_refl _) rfl, QB_mono Q (by omega), fun N S f H hf post hp => ?_⟩
      unfold wp_L_act
      simp (disch := omega) only [Nat.reduceAdd, Nat.reduceSub, Nat.reduceMul, z0, z1, z2, z3, z4, z5, z6, z7, z8, z9, z10, z12, z16, z18, z24, z31, z33, z48, z49, z51, z53, z55, z57, z59, z60, z61, z63, z66, z97, z99, z111, z114, z115, z116, z118, z122, z126, z255, z854, z1000, z1111, z7143, z9999, z10000, zM, zMn, nI_add, pk_mul, zsub, zlt_t, zlt_f, zle_t, zle_f, zeq_t, zeq_f, zeM1, zeM2, zeM3, zltM, zleM, nI_clamp, zin, false_or, or_false, true_and, and_true, false_and, and_false, not_true_eq_false, not_false_eq_true, true_imp_iff, false_imp_iff, implies_true, if_true, if_false]
      refine L_up (by decide) (by decide) ?_
      refine L_up (by decide) (by decide) ?_
      refine L_up (by decide) (by decide) ?_
      refine L_up (by decide) (by decide) ?_
      refine L_up (by decide) (by decide) ?_
      refine N_roads H ?_
      refine N_envelopes H ?_
      refine L_up (by decide) (by decide) ?_
      rw [hk]
      refine ⟨fun q => absurd q (by decide), fun _ => ?_⟩
      refine ⟨fun q => absurd q (by decide), fun _ => ?_⟩
      refine ⟨fun q => absurd q (by decide), fun _ => ?_⟩
      refine ⟨fun q => absurd q (by decide), fun _ => ?_⟩
      refine ⟨fun q => absurd q (by decide), fun _ => ?_⟩
      refine ⟨fun q => absurd q (by decide), fun _ => ?_⟩
      refine ⟨fun q => absurd q (by decide), fun _ => ?_⟩
      refine ⟨fun q => absurd q (by decide), fun _ => ?_⟩
      refine ⟨fun q => absurd q (by decide), fun _ => ?_⟩
      refine ⟨fun q => absurd q (by decide), fun _ => ?_⟩
      refine ⟨fun _ => ?_, fun q => absurd rfl q⟩
      refine ⟨vp_in_nI l4 (by omega), jn_p (N_setKey H l1 l5 (fun N' H' => hp N' f H' hf)) (fun J hJ => ?_)⟩
      rw [nI_clamp (by omega)]
      have e : f (upN (y >>> (nI 9 &&& nI 31)) 4) = nM := (hf _ l4).trans hon
      show (f (upN (y >>> (nI 9 &&& nI 31)) 4) < nI 0 → J) ∧ _
      rw [e]
      exact ⟨fun _ => hJ, fun q => absurd (by decide) q⟩
    · by_cases hq : T.2.1 < 12
      · refine ⟨tPut T 2 r 4 (upN (y >>> (nI 11 &&& nI 31)) 10000) 1, T.2.1, by omega, AV_put V hq 2 hr l5 (Or.inr ⟨rfl, by omega, by omega⟩), DI_same D (Nat.le_refl _) rfl, QB_put2 Q, fun N S f H hf post hp => ?_⟩
        unfold wp_L_act
        simp (disch := omega) only [Nat.reduceAdd, Nat.reduceSub, Nat.reduceMul, z0, z1, z2, z3, z4, z5, z6, z7, z8, z9, z10, z12, z16, z18, z24, z31, z33, z48, z49, z51, z53, z55, z57, z59, z60, z61, z63, z66, z97, z99, z111, z114, z115, z116, z118, z122, z126, z255, z854, z1000, z1111, z7143, z9999, z10000, zM, zMn, nI_add, pk_mul, zsub, zlt_t, zlt_f, zle_t, zle_f, zeq_t, zeq_f, zeM1, zeM2, zeM3, zltM, zleM, nI_clamp, zin, false_or, or_false, true_and, and_true, false_and, and_false, not_true_eq_false, not_false_eq_true, true_imp_iff, false_imp_iff, implies_true, if_true, if_false]
        refine L_up (by decide) (by decide) ?_
        refine L_up (by decide) (by decide) ?_
        refine L_up (by decide) (by decide) ?_
        refine L_up (by decide) (by decide) ?_
        refine L_up (by decide) (by decide) ?_
        refine N_roads H ?_
        refine N_envelopes H ?_
        refine L_up (by decide) (by decide) ?_
        rw [hk]
        refine ⟨fun q => absurd q (by decide), fun _ => ?_⟩
        refine ⟨fun q => absurd q (by decide), fun _ => ?_⟩
        refine ⟨fun q => absurd q (by decide), fun _ => ?_⟩
        refine ⟨fun q => absurd q (by decide), fun _ => ?_⟩
        refine ⟨fun q => absurd q (by decide), fun _ => ?_⟩
        refine ⟨fun q => absurd q (by decide), fun _ => ?_⟩
        refine ⟨fun q => absurd q (by decide), fun _ => ?_⟩
        refine ⟨fun q => absurd q (by decide), fun _ => ?_⟩
        refine ⟨fun q => absurd q (by decide), fun _ => ?_⟩
        refine ⟨fun q => absurd q (by decide), fun _ => ?_⟩
        refine ⟨fun _ => ?_, fun q => absurd rfl q⟩
        refine ⟨vp_in_nI l4 (by omega), jn_n (fun J => ?_)⟩
        rw [nI_clamp (by omega)]
        have e : f (upN (y >>> (nI 9 &&& nI 31)) 4) = nI r := (hf _ l4).trans hon
        show (f (upN (y >>> (nI 9 &&& nI 31)) 4) < nI 0 → J) ∧ _
        rw [e]
        refine ⟨fun q => absurd q (nI_nlt (Nat.zero_le _) (by omega)), fun _ => ⟨fun q => absurd q (nI_ge hq (by omega)), fun _ => ?_⟩⟩
        exact N_answer H hq l4 l5 hr hon (fun N' H' => hp N' f H' hf)
      · refine ⟨tKey T (upN y 8) (upN (y >>> (nI 11 &&& nI 31)) 10000), T.2.2.2.1 (upN y 8), by omega, AV_key V l5, DI_same D (Nat.le_refl _) rfl, QB_mono Q (by omega), fun N S f H hf post hp => ?_⟩
        unfold wp_L_act
        simp (disch := omega) only [Nat.reduceAdd, Nat.reduceSub, Nat.reduceMul, z0, z1, z2, z3, z4, z5, z6, z7, z8, z9, z10, z12, z16, z18, z24, z31, z33, z48, z49, z51, z53, z55, z57, z59, z60, z61, z63, z66, z97, z99, z111, z114, z115, z116, z118, z122, z126, z255, z854, z1000, z1111, z7143, z9999, z10000, zM, zMn, nI_add, pk_mul, zsub, zlt_t, zlt_f, zle_t, zle_f, zeq_t, zeq_f, zeM1, zeM2, zeM3, zltM, zleM, nI_clamp, zin, false_or, or_false, true_and, and_true, false_and, and_false, not_true_eq_false, not_false_eq_true, true_imp_iff, false_imp_iff, implies_true, if_true, if_false]
        refine L_up (by decide) (by decide) ?_
        refine L_up (by decide) (by decide) ?_
        refine L_up (by decide) (by decide) ?_
        refine L_up (by decide) (by decide) ?_
        refine L_up (by decide) (by decide) ?_
        refine N_roads H ?_
        refine N_envelopes H ?_
        refine L_up (by decide) (by decide) ?_
        rw [hk]
        refine ⟨fun q => absurd q (by decide), fun _ => ?_⟩
        refine ⟨fun q => absurd q (by decide), fun _ => ?_⟩
        refine ⟨fun q => absurd q (by decide), fun _ => ?_⟩
        refine ⟨fun q => absurd q (by decide), fun _ => ?_⟩
        refine ⟨fun q => absurd q (by decide), fun _ => ?_⟩
        refine ⟨fun q => absurd q (by decide), fun _ => ?_⟩
        refine ⟨fun q => absurd q (by decide), fun _ => ?_⟩
        refine ⟨fun q => absurd q (by decide), fun _ => ?_⟩
        refine ⟨fun q => absurd q (by decide), fun _ => ?_⟩
        refine ⟨fun q => absurd q (by decide), fun _ => ?_⟩
        refine ⟨fun _ => ?_, fun q => absurd rfl q⟩
        refine ⟨vp_in_nI l4 (by omega), jn_p (N_setKey H l1 l5 (fun N' H' => hp N' f H' hf)) (fun J hJ => ?_)⟩
        exact ⟨fun _ => hJ, fun _ => ⟨fun _ => hJ, fun q => absurd (nI_le (by omega) (by omega)) q⟩⟩
  · -- 11
    rcases v_on V l4 with hon | ⟨r, hr, hon⟩
    · refine ⟨tKey T (upN y 8) (upN (y >>> (nI 11 &&& nI 31)) 10000), T.2.2.2.1 (upN y 8), by omega, AV_key V l5, DI_same D (Nat.le_refl _) rfl, QB_mono Q (by omega), fun N S f H hf post hp => ?_⟩
      unfold wp_L_act
      simp (disch := omega) only [Nat.reduceAdd, Nat.reduceSub, Nat.reduceMul, z0, z1, z2, z3, z4, z5, z6, z7, z8, z9, z10, z12, z16, z18, z24, z31, z33, z48, z49, z51, z53, z55, z57, z59, z60, z61, z63, z66, z97, z99, z111, z114, z115, z116, z118, z122, z126, z255, z854, z1000, z1111, z7143, z9999, z10000, zM, zMn, nI_add, pk_mul, zsub, zlt_t, zlt_f, zle_t, zle_f, zeq_t, zeq_f, zeM1, zeM2, zeM3, zltM, zleM, nI_clamp, zin, false_or, or_false, true_and, and_true, false_and, and_false, not_true_eq_false, not_false_eq_true, true_imp_iff, false_imp_iff, implies_true, if_true, if_false]
      refine L_up (by decide) (by decide) ?_
      refine L_up (by decide) (by decide) ?_
      refine L_up (by decide) (by decide) ?_
      refine L_up (by decide) (by decide) ?_
      refine L_up (by decide) (by decide) ?_
      refine N_roads H ?_
      refine N_envelopes H ?_
      refine L_up (by decide) (by decide) ?_
      rw [hk]
      refine ⟨fun q => absurd q (by decide), fun _ => ?_⟩
      refine ⟨fun q => absurd q (by decide), fun _ => ?_⟩
      refine ⟨fun q => absurd q (by decide), fun _ => ?_⟩
      refine ⟨fun q => absurd q (by decide), fun _ => ?_⟩
      refine ⟨fun q => absurd q (by decide), fun _ => ?_⟩
      refine ⟨fun q => absurd q (by decide), fun _ => ?_⟩
      refine ⟨fun q => absurd q (by decide), fun _ => ?_⟩
      refine ⟨fun q => absurd q (by decide), fun _ => ?_⟩
      refine ⟨fun q => absurd q (by decide), fun _ => ?_⟩
      refine ⟨fun q => absurd q (by decide), fun _ => ?_⟩
      refine ⟨fun q => absurd q (by decide), fun _ => ?_⟩
      refine ⟨fun _ => ?_, fun q => absurd rfl q⟩
      refine ⟨vp_in_nI l4 (by omega), jn_p (N_setKey H l1 l5 (fun N' H' => hp N' f H' hf)) (fun J hJ => ?_)⟩
      rw [nI_clamp (by omega)]
      have e : f (upN (y >>> (nI 9 &&& nI 31)) 4) = nM := (hf _ l4).trans hon
      show (f (upN (y >>> (nI 9 &&& nI 31)) 4) < nI 0 → J) ∧ _
      rw [e]
      exact ⟨fun _ => hJ, fun q => absurd (by decide) q⟩
    · by_cases hq : T.2.1 < 12
      · refine ⟨tPut T 2 r 4 (upN (y >>> (nI 11 &&& nI 31)) 10000) 1, T.2.1, by omega, AV_put V hq 2 hr l5 (Or.inr ⟨rfl, by omega, by omega⟩), DI_same D (Nat.le_refl _) rfl, QB_put2 Q, fun N S f H hf post hp => ?_⟩
        unfold wp_L_act
        simp (disch := omega) only [Nat.reduceAdd, Nat.reduceSub, Nat.reduceMul, z0, z1, z2, z3, z4, z5, z6, z7, z8, z9, z10, z12, z16, z18, z24, z31, z33, z48, z49, z51, z53, z55, z57, z59, z60, z61, z63, z66, z97, z99, z111, z114, z115, z116, z118, z122, z126, z255, z854, z1000, z1111, z7143, z9999, z10000, zM, zMn, nI_add, pk_mul, zsub, zlt_t, zlt_f, zle_t, zle_f, zeq_t, zeq_f, zeM1, zeM2, zeM3, zltM, zleM, nI_clamp, zin, false_or, or_false, true_and, and_true, false_and, and_false, not_true_eq_false, not_false_eq_true, true_imp_iff, false_imp_iff, implies_true, if_true, if_false]
        refine L_up (by decide) (by decide) ?_
        refine L_up (by decide) (by decide) ?_
        refine L_up (by decide) (by decide) ?_
        refine L_up (by decide) (by decide) ?_
        refine L_up (by decide) (by decide) ?_
        refine N_roads H ?_
        refine N_envelopes H ?_
        refine L_up (by decide) (by decide) ?_
        rw [hk]
        refine ⟨fun q => absurd q (by decide), fun _ => ?_⟩
        refine ⟨fun q => absurd q (by decide), fun _ => ?_⟩
        refine ⟨fun q => absurd q (by decide), fun _ => ?_⟩
        refine ⟨fun q => absurd q (by decide), fun _ => ?_⟩
        refine ⟨fun q => absurd q (by decide), fun _ => ?_⟩
        refine ⟨fun q => absurd q (by decide), fun _ => ?_⟩
        refine ⟨fun q => absurd q (by decide), fun _ => ?_⟩
        refine ⟨fun q => absurd q (by decide), fun _ => ?_⟩
        refine ⟨fun q => absurd q (by decide), fun _ => ?_⟩
        refine ⟨fun q => absurd q (by decide), fun _ => ?_⟩
        refine ⟨fun q => absurd q (by decide), fun _ => ?_⟩
        refine ⟨fun _ => ?_, fun q => absurd rfl q⟩
        refine ⟨vp_in_nI l4 (by omega), jn_n (fun J => ?_)⟩
        rw [nI_clamp (by omega)]
        have e : f (upN (y >>> (nI 9 &&& nI 31)) 4) = nI r := (hf _ l4).trans hon
        show (f (upN (y >>> (nI 9 &&& nI 31)) 4) < nI 0 → J) ∧ _
        rw [e]
        refine ⟨fun q => absurd q (nI_nlt (Nat.zero_le _) (by omega)), fun _ => ⟨fun q => absurd q (nI_ge hq (by omega)), fun _ => ?_⟩⟩
        exact N_answer H hq l4 l5 hr hon (fun N' H' => hp N' f H' hf)
      · refine ⟨tKey T (upN y 8) (upN (y >>> (nI 11 &&& nI 31)) 10000), T.2.2.2.1 (upN y 8), by omega, AV_key V l5, DI_same D (Nat.le_refl _) rfl, QB_mono Q (by omega), fun N S f H hf post hp => ?_⟩
        unfold wp_L_act
        simp (disch := omega) only [Nat.reduceAdd, Nat.reduceSub, Nat.reduceMul, z0, z1, z2, z3, z4, z5, z6, z7, z8, z9, z10, z12, z16, z18, z24, z31, z33, z48, z49, z51, z53, z55, z57, z59, z60, z61, z63, z66, z97, z99, z111, z114, z115, z116, z118, z122, z126, z255, z854, z1000, z1111, z7143, z9999, z10000, zM, zMn, nI_add, pk_mul, zsub, zlt_t, zlt_f, zle_t, zle_f, zeq_t, zeq_f, zeM1, zeM2, zeM3, zltM, zleM, nI_clamp, zin, false_or, or_false, true_and, and_true, false_and, and_false, not_true_eq_false, not_false_eq_true, true_imp_iff, false_imp_iff, implies_true, if_true, if_false]
        refine L_up (by decide) (by decide) ?_
        refine L_up (by decide) (by decide) ?_
        refine L_up (by decide) (by decide) ?_
        refine L_up (by decide) (by decide) ?_
        refine L_up (by decide) (by decide) ?_
        refine N_roads H ?_
        refine N_envelopes H ?_
        refine L_up (by decide) (by decide) ?_
        rw [hk]
        refine ⟨fun q => absurd q (by decide), fun _ => ?_⟩
        refine ⟨fun q => absurd q (by decide), fun _ => ?_⟩
        refine ⟨fun q => absurd q (by decide), fun _ => ?_⟩
        refine ⟨fun q => absurd q (by decide), fun _ => ?_⟩
        refine ⟨fun q => absurd q (by decide), fun _ => ?_⟩
        refine ⟨fun q => absurd q (by decide), fun _ => ?_⟩
        refine ⟨fun q => absurd q (by decide), fun _ => ?_⟩
        refine ⟨fun q => absurd q (by decide), fun _ => ?_⟩
        refine ⟨fun q => absurd q (by decide), fun _ => ?_⟩
        refine ⟨fun q => absurd q (by decide), fun _ => ?_⟩
        refine ⟨fun q => absurd q (by decide), fun _ => ?_⟩
        refine ⟨fun _ => ?_, fun q => absurd rfl q⟩
        refine ⟨vp_in_nI l4 (by omega), jn_p (N_setKey H l1 l5 (fun N' H' => hp N' f H' hf)) (fun J hJ => ?_)⟩
        exact ⟨fun _ => hJ, fun _ => ⟨fun _ => hJ, fun q => absurd (nI_le (by omega) (by omega)) q⟩⟩
  · -- 12
    by_cases hq : 0 < T.1 ∧ T.2.1 < 12
    · obtain ⟨q0, q12⟩ := hq
      refine ⟨tPut T 0 (upN y T.1) 0 (nest T (upN y T.1) (upN (y >>> (nI 11 &&& nI 31)) 10000)) 0, T.2.1, by omega, AV_put V q12 0 (upN_lt q0) (nest_lt _ _) (Or.inl ⟨rfl, by omega⟩), DI_same D (Nat.le_refl _) rfl, QB_put0 Q, fun N S f H hf post hp => ?_⟩
      unfold wp_L_act
      simp (disch := omega) only [Nat.reduceAdd, Nat.reduceSub, Nat.reduceMul, z0, z1, z2, z3, z4, z5, z6, z7, z8, z9, z10, z12, z16, z18, z24, z31, z33, z48, z49, z51, z53, z55, z57, z59, z60, z61, z63, z66, z97, z99, z111, z114, z115, z116, z118, z122, z126, z255, z854, z1000, z1111, z7143, z9999, z10000, zM, zMn, nI_add, pk_mul, zsub, zlt_t, zlt_f, zle_t, zle_f, zeq_t, zeq_f, zeM1, zeM2, zeM3, zltM, zleM, nI_clamp, zin, false_or, or_false, true_and, and_true, false_and, and_false, not_true_eq_false, not_false_eq_true, true_imp_iff, false_imp_iff, implies_true, if_true, if_false]
      refine L_up (by decide) (by decide) ?_
      refine L_up (by decide) (by decide) ?_
      refine L_up (by decide) (by decide) ?_
      refine L_up (by decide) (by decide) ?_
      refine L_up (by decide) (by decide) ?_
      refine N_roads H ?_
      refine N_envelopes H ?_
      refine L_up (by decide) (by decide) ?_
      rw [hk]
      refine ⟨fun q => absurd q (by decide), fun _ => ?_⟩
      refine ⟨fun q => absurd q (by decide), fun _ => ?_⟩
      refine ⟨fun q => absurd q (by decide), fun _ => ?_⟩
      refine ⟨fun q => absurd q (by decide), fun _ => ?_⟩
      refine ⟨fun q => absurd q (by decide), fun _ => ?_⟩
      refine ⟨fun q => absurd q (by decide), fun _ => ?_⟩
      refine ⟨fun q => absurd q (by decide), fun _ => ?_⟩
      refine ⟨fun q => absurd q (by decide), fun _ => ?_⟩
      refine ⟨fun q => absurd q (by decide), fun _ => ?_⟩
      refine ⟨fun q => absurd q (by decide), fun _ => ?_⟩
      refine ⟨fun q => absurd q (by decide), fun _ => ?_⟩
      refine ⟨fun q => absurd q (by decide), fun _ => ?_⟩
      refine jn_n (fun J => ⟨fun q => absurd q (nI_ge q0 (by omega)), fun _ => ⟨fun q => absurd q (nI_ge q12 (by omega)), fun _ => ?_⟩⟩)
      refine L_up q0 (by omega) ?_
      exact N_send H q12 (upN_lt q0) l5 (fun N' H' => hp N' f H' hf)
    · refine ⟨tKey T (upN y 8) (upN (y >>> (nI 11 &&& nI 31)) 10000), T.2.2.2.1 (upN y 8), by omega, AV_key V l5, DI_same D (Nat.le_refl _) rfl, QB_mono Q (by omega), fun N S f H hf post hp => ?_⟩
      unfold wp_L_act
      simp (disch := omega) only [Nat.reduceAdd, Nat.reduceSub, Nat.reduceMul, z0, z1, z2, z3, z4, z5, z6, z7, z8, z9, z10, z12, z16, z18, z24, z31, z33, z48, z49, z51, z53, z55, z57, z59, z60, z61, z63, z66, z97, z99, z111, z114, z115, z116, z118, z122, z126, z255, z854, z1000, z1111, z7143, z9999, z10000, zM, zMn, nI_add, pk_mul, zsub, zlt_t, zlt_f, zle_t, zle_f, zeq_t, zeq_f, zeM1, zeM2, zeM3, zltM, zleM, nI_clamp, zin, false_or, or_false, true_and, and_true, false_and, and_false, not_true_eq_false, not_false_eq_true, true_imp_iff, false_imp_iff, implies_true, if_true, if_false]
      refine L_up (by decide) (by decide) ?_
      refine L_up (by decide) (by decide) ?_
      refine L_up (by decide) (by decide) ?_
      refine L_up (by decide) (by decide) ?_
      refine L_up (by decide) (by decide) ?_
      refine N_roads H ?_
      refine N_envelopes H ?_
      refine L_up (by decide) (by decide) ?_
      rw [hk]
      refine ⟨fun q => absurd q (by decide), fun _ => ?_⟩
      refine ⟨fun q => absurd q (by decide), fun _ => ?_⟩
      refine ⟨fun q => absurd q (by decide), fun _ => ?_⟩
      refine ⟨fun q => absurd q (by decide), fun _ => ?_⟩
      refine ⟨fun q => absurd q (by decide), fun _ => ?_⟩
      refine ⟨fun q => absurd q (by decide), fun _ => ?_⟩
      refine ⟨fun q => absurd q (by decide), fun _ => ?_⟩
      refine ⟨fun q => absurd q (by decide), fun _ => ?_⟩
      refine ⟨fun q => absurd q (by decide), fun _ => ?_⟩
      refine ⟨fun q => absurd q (by decide), fun _ => ?_⟩
      refine ⟨fun q => absurd q (by decide), fun _ => ?_⟩
      refine ⟨fun q => absurd q (by decide), fun _ => ?_⟩
      refine jn_p (N_setKey H l1 l5 (fun N' H' => hp N' f H' hf)) (fun J hJ => ⟨fun _ => hJ, fun q1 => ⟨fun _ => hJ, fun q2 => absurd ⟨?_, ?_⟩ hq⟩⟩)
      · rcases Nat.eq_zero_or_pos T.1 with z | z
        · exact absurd (nI_le (by omega) (by omega)) q1
        · exact z
      · rcases Nat.lt_or_ge T.2.1 12 with z | z
        · exact z
        · exact absurd (nI_le z (by omega)) q2
  · -- 13
    by_cases hq : 0 < T.1 ∧ T.2.1 < 12
    · obtain ⟨q0, q12⟩ := hq
      refine ⟨tPut T 0 (upN y T.1) 0 (nest T (upN y T.1) (upN (y >>> (nI 11 &&& nI 31)) 10000)) 0, T.2.1, by omega, AV_put V q12 0 (upN_lt q0) (nest_lt _ _) (Or.inl ⟨rfl, by omega⟩), DI_same D (Nat.le_refl _) rfl, QB_put0 Q, fun N S f H hf post hp => ?_⟩
      unfold wp_L_act
      simp (disch := omega) only [Nat.reduceAdd, Nat.reduceSub, Nat.reduceMul, z0, z1, z2, z3, z4, z5, z6, z7, z8, z9, z10, z12, z16, z18, z24, z31, z33, z48, z49, z51, z53, z55, z57, z59, z60, z61, z63, z66, z97, z99, z111, z114, z115, z116, z118, z122, z126, z255, z854, z1000, z1111, z7143, z9999, z10000, zM, zMn, nI_add, pk_mul, zsub, zlt_t, zlt_f, zle_t, zle_f, zeq_t, zeq_f, zeM1, zeM2, zeM3, zltM, zleM, nI_clamp, zin, false_or, or_false, true_and, and_true, false_and, and_false, not_true_eq_false, not_false_eq_true, true_imp_iff, false_imp_iff, implies_true, if_true, if_false]
      refine L_up (by decide) (by decide) ?_
      refine L_up (by decide) (by decide) ?_
      refine L_up (by decide) (by decide) ?_
      refine L_up (by decide) (by decide) ?_
      refine L_up (by decide) (by decide) ?_
      refine N_roads H ?_
      refine N_envelopes H ?_
      refine L_up (by decide) (by decide) ?_
      rw [hk]
      refine ⟨fun q => absurd q (by decide), fun _ => ?_⟩
      refine ⟨fun q => absurd q (by decide), fun _ => ?_⟩
      refine ⟨fun q => absurd q (by decide), fun _ => ?_⟩
      refine ⟨fun q => absurd q (by decide), fun _ => ?_⟩
      refine ⟨fun q => absurd q (by decide), fun _ => ?_⟩
      refine ⟨fun q => absurd q (by decide), fun _ => ?_⟩
      refine ⟨fun q => absurd q (by decide), fun _ => ?_⟩
      refine ⟨fun q => absurd q (by decide), fun _ => ?_⟩
      refine ⟨fun q => absurd q (by decide), fun _ => ?_⟩
      refine ⟨fun q => absurd q (by decide), fun _ => ?_⟩
      refine ⟨fun q => absurd q (by decide), fun _ => ?_⟩
      refine ⟨fun q => absurd q (by decide), fun _ => ?_⟩
      refine jn_n (fun J => ⟨fun q => absurd q (nI_ge q0 (by omega)), fun _ => ⟨fun q => absurd q (nI_ge q12 (by omega)), fun _ => ?_⟩⟩)
      refine L_up q0 (by omega) ?_
      exact N_send H q12 (upN_lt q0) l5 (fun N' H' => hp N' f H' hf)
    · refine ⟨tKey T (upN y 8) (upN (y >>> (nI 11 &&& nI 31)) 10000), T.2.2.2.1 (upN y 8), by omega, AV_key V l5, DI_same D (Nat.le_refl _) rfl, QB_mono Q (by omega), fun N S f H hf post hp => ?_⟩
      unfold wp_L_act
      simp (disch := omega) only [Nat.reduceAdd, Nat.reduceSub, Nat.reduceMul, z0, z1, z2, z3, z4, z5, z6, z7, z8, z9, z10, z12, z16, z18, z24, z31, z33, z48, z49, z51, z53, z55, z57, z59, z60, z61, z63, z66, z97, z99, z111, z114, z115, z116, z118, z122, z126, z255, z854, z1000, z1111, z7143, z9999, z10000, zM, zMn, nI_add, pk_mul, zsub, zlt_t, zlt_f, zle_t, zle_f, zeq_t, zeq_f, zeM1, zeM2, zeM3, zltM, zleM, nI_clamp, zin, false_or, or_false, true_and, and_true, false_and, and_false, not_true_eq_false, not_false_eq_true, true_imp_iff, false_imp_iff, implies_true, if_true, if_false]
      refine L_up (by decide) (by decide) ?_
      refine L_up (by decide) (by decide) ?_
      refine L_up (by decide) (by decide) ?_
      refine L_up (by decide) (by decide) ?_
      refine L_up (by decide) (by decide) ?_
      refine N_roads H ?_
      refine N_envelopes H ?_
      refine L_up (by decide) (by decide) ?_
      rw [hk]
      refine ⟨fun q => absurd q (by decide), fun _ => ?_⟩
      refine ⟨fun q => absurd q (by decide), fun _ => ?_⟩
      refine ⟨fun q => absurd q (by decide), fun _ => ?_⟩
      refine ⟨fun q => absurd q (by decide), fun _ => ?_⟩
      refine ⟨fun q => absurd q (by decide), fun _ => ?_⟩
      refine ⟨fun q => absurd q (by decide), fun _ => ?_⟩
      refine ⟨fun q => absurd q (by decide), fun _ => ?_⟩
      refine ⟨fun q => absurd q (by decide), fun _ => ?_⟩
      refine ⟨fun q => absurd q (by decide), fun _ => ?_⟩
      refine ⟨fun q => absurd q (by decide), fun _ => ?_⟩
      refine ⟨fun q => absurd q (by decide), fun _ => ?_⟩
      refine ⟨fun q => absurd q (by decide), fun _ => ?_⟩
      refine jn_p (N_setKey H l1 l5 (fun N' H' => hp N' f H' hf)) (fun J hJ => ⟨fun _ => hJ, fun q1 => ⟨fun _ => hJ, fun q2 => absurd ⟨?_, ?_⟩ hq⟩⟩)
      · rcases Nat.eq_zero_or_pos T.1 with z | z
        · exact absurd (nI_le (by omega) (by omega)) q1
        · exact z
      · rcases Nat.lt_or_ge T.2.1 12 with z | z
        · exact z
        · exact absurd (nI_le z (by omega)) q2
  · -- 14
    by_cases hq : 0 < T.1 ∧ T.2.1 < 12
    · obtain ⟨q0, q12⟩ := hq
      refine ⟨tPut T 0 (upN y T.1) 0 (nest T (upN y T.1) (upN (y >>> (nI 11 &&& nI 31)) 10000)) 0, T.2.1, by omega, AV_put V q12 0 (upN_lt q0) (nest_lt _ _) (Or.inl ⟨rfl, by omega⟩), DI_same D (Nat.le_refl _) rfl, QB_put0 Q, fun N S f H hf post hp => ?_⟩
      unfold wp_L_act
      simp (disch := omega) only [Nat.reduceAdd, Nat.reduceSub, Nat.reduceMul, z0, z1, z2, z3, z4, z5, z6, z7, z8, z9, z10, z12, z16, z18, z24, z31, z33, z48, z49, z51, z53, z55, z57, z59, z60, z61, z63, z66, z97, z99, z111, z114, z115, z116, z118, z122, z126, z255, z854, z1000, z1111, z7143, z9999, z10000, zM, zMn, nI_add, pk_mul, zsub, zlt_t, zlt_f, zle_t, zle_f, zeq_t, zeq_f, zeM1, zeM2, zeM3, zltM, zleM, nI_clamp, zin, false_or, or_false, true_and, and_true, false_and, and_false, not_true_eq_false, not_false_eq_true, true_imp_iff, false_imp_iff, implies_true, if_true, if_false]
      refine L_up (by decide) (by decide) ?_
      refine L_up (by decide) (by decide) ?_
      refine L_up (by decide) (by decide) ?_
      refine L_up (by decide) (by decide) ?_
      refine L_up (by decide) (by decide) ?_
      refine N_roads H ?_
      refine N_envelopes H ?_
      refine L_up (by decide) (by decide) ?_
      rw [hk]
      refine ⟨fun q => absurd q (by decide), fun _ => ?_⟩
      refine ⟨fun q => absurd q (by decide), fun _ => ?_⟩
      refine ⟨fun q => absurd q (by decide), fun _ => ?_⟩
      refine ⟨fun q => absurd q (by decide), fun _ => ?_⟩
      refine ⟨fun q => absurd q (by decide), fun _ => ?_⟩
      refine ⟨fun q => absurd q (by decide), fun _ => ?_⟩
      refine ⟨fun q => absurd q (by decide), fun _ => ?_⟩
      refine ⟨fun q => absurd q (by decide), fun _ => ?_⟩
      refine ⟨fun q => absurd q (by decide), fun _ => ?_⟩
      refine ⟨fun q => absurd q (by decide), fun _ => ?_⟩
      refine ⟨fun q => absurd q (by decide), fun _ => ?_⟩
      refine ⟨fun q => absurd q (by decide), fun _ => ?_⟩
      refine jn_n (fun J => ⟨fun q => absurd q (nI_ge q0 (by omega)), fun _ => ⟨fun q => absurd q (nI_ge q12 (by omega)), fun _ => ?_⟩⟩)
      refine L_up q0 (by omega) ?_
      exact N_send H q12 (upN_lt q0) l5 (fun N' H' => hp N' f H' hf)
    · refine ⟨tKey T (upN y 8) (upN (y >>> (nI 11 &&& nI 31)) 10000), T.2.2.2.1 (upN y 8), by omega, AV_key V l5, DI_same D (Nat.le_refl _) rfl, QB_mono Q (by omega), fun N S f H hf post hp => ?_⟩
      unfold wp_L_act
      simp (disch := omega) only [Nat.reduceAdd, Nat.reduceSub, Nat.reduceMul, z0, z1, z2, z3, z4, z5, z6, z7, z8, z9, z10, z12, z16, z18, z24, z31, z33, z48, z49, z51, z53, z55, z57, z59, z60, z61, z63, z66, z97, z99, z111, z114, z115, z116, z118, z122, z126, z255, z854, z1000, z1111, z7143, z9999, z10000, zM, zMn, nI_add, pk_mul, zsub, zlt_t, zlt_f, zle_t, zle_f, zeq_t, zeq_f, zeM1, zeM2, zeM3, zltM, zleM, nI_clamp, zin, false_or, or_false, true_and, and_true, false_and, and_false, not_true_eq_false, not_false_eq_true, true_imp_iff, false_imp_iff, implies_true, if_true, if_false]
      refine L_up (by decide) (by decide) ?_
      refine L_up (by decide) (by decide) ?_
      refine L_up (by decide) (by decide) ?_
      refine L_up (by decide) (by decide) ?_
      refine L_up (by decide) (by decide) ?_
      refine N_roads H ?_
      refine N_envelopes H ?_
      refine L_up (by decide) (by decide) ?_
      rw [hk]
      refine ⟨fun q => absurd q (by decide), fun _ => ?_⟩
      refine ⟨fun q => absurd q (by decide), fun _ => ?_⟩
      refine ⟨fun q => absurd q (by decide), fun _ => ?_⟩
      refine ⟨fun q => absurd q (by decide), fun _ => ?_⟩
      refine ⟨fun q => absurd q (by decide), fun _ => ?_⟩
      refine ⟨fun q => absurd q (by decide), fun _ => ?_⟩
      refine ⟨fun q => absurd q (by decide), fun _ => ?_⟩
      refine ⟨fun q => absurd q (by decide), fun _ => ?_⟩
      refine ⟨fun q => absurd q (by decide), fun _ => ?_⟩
      refine ⟨fun q => absurd q (by decide), fun _ => ?_⟩
      refine ⟨fun q => absurd q (by decide), fun _ => ?_⟩
      refine ⟨fun q => absurd q (by decide), fun _ => ?_⟩
      refine jn_p (N_setKey H l1 l5 (fun N' H' => hp N' f H' hf)) (fun J hJ => ⟨fun _ => hJ, fun q1 => ⟨fun _ => hJ, fun q2 => absurd ⟨?_, ?_⟩ hq⟩⟩)
      · rcases Nat.eq_zero_or_pos T.1 with z | z
        · exact absurd (nI_le (by omega) (by omega)) q1
        · exact z
      · rcases Nat.lt_or_ge T.2.1 12 with z | z
        · exact z
        · exact absurd (nI_le z (by omega)) q2
  · -- 15
    by_cases hq : 0 < T.1 ∧ T.2.1 < 12
    · obtain ⟨q0, q12⟩ := hq
      refine ⟨tPut T 0 (upN y T.1) 0 (nest T (upN y T.1) (upN (y >>> (nI 11 &&& nI 31)) 10000)) 0, T.2.1, by omega, AV_put V q12 0 (upN_lt q0) (nest_lt _ _) (Or.inl ⟨rfl, by omega⟩), DI_same D (Nat.le_refl _) rfl, QB_put0 Q, fun N S f H hf post hp => ?_⟩
      unfold wp_L_act
      simp (disch := omega) only [Nat.reduceAdd, Nat.reduceSub, Nat.reduceMul, z0, z1, z2, z3, z4, z5, z6, z7, z8, z9, z10, z12, z16, z18, z24, z31, z33, z48, z49, z51, z53, z55, z57, z59, z60, z61, z63, z66, z97, z99, z111, z114, z115, z116, z118, z122, z126, z255, z854, z1000, z1111, z7143, z9999, z10000, zM, zMn, nI_add, pk_mul, zsub, zlt_t, zlt_f, zle_t, zle_f, zeq_t, zeq_f, zeM1, zeM2, zeM3, zltM, zleM, nI_clamp, zin, false_or, or_false, true_and, and_true, false_and, and_false, not_true_eq_false, not_false_eq_true, true_imp_iff, false_imp_iff, implies_true, if_true, if_false]
      refine L_up (by decide) (by decide) ?_
      refine L_up (by decide) (by decide) ?_
      refine L_up (by decide) (by decide) ?_
      refine L_up (by decide) (by decide) ?_
      refine L_up (by decide) (by decide) ?_
      refine N_roads H ?_
      refine N_envelopes H ?_
      refine L_up (by decide) (by decide) ?_
      rw [hk]
      refine ⟨fun q => absurd q (by decide), fun _ => ?_⟩
      refine ⟨fun q => absurd q (by decide), fun _ => ?_⟩
      refine ⟨fun q => absurd q (by decide), fun _ => ?_⟩
      refine ⟨fun q => absurd q (by decide), fun _ => ?_⟩
      refine ⟨fun q => absurd q (by decide), fun _ => ?_⟩
      refine ⟨fun q => absurd q (by decide), fun _ => ?_⟩
      refine ⟨fun q => absurd q (by decide), fun _ => ?_⟩
      refine ⟨fun q => absurd q (by decide), fun _ => ?_⟩
      refine ⟨fun q => absurd q (by decide), fun _ => ?_⟩
      refine ⟨fun q => absurd q (by decide), fun _ => ?_⟩
      refine ⟨fun q => absurd q (by decide), fun _ => ?_⟩
      refine ⟨fun q => absurd q (by decide), fun _ => ?_⟩
      refine jn_n (fun J => ⟨fun q => absurd q (nI_ge q0 (by omega)), fun _ => ⟨fun q => absurd q (nI_ge q12 (by omega)), fun _ => ?_⟩⟩)
      refine L_up q0 (by omega) ?_
      exact N_send H q12 (upN_lt q0) l5 (fun N' H' => hp N' f H' hf)
    · refine ⟨tKey T (upN y 8) (upN (y >>> (nI 11 &&& nI 31)) 10000), T.2.2.2.1 (upN y 8), by omega, AV_key V l5, DI_same D (Nat.le_refl _) rfl, QB_mono Q (by omega), fun N S f H hf post hp => ?_⟩
      unfold wp_L_act
      simp (disch := omega) only [Nat.reduceAdd, Nat.reduceSub, Nat.reduceMul, z0, z1, z2, z3, z4, z5, z6, z7, z8, z9, z10, z12, z16, z18, z24, z31, z33, z48, z49, z51, z53, z55, z57, z59, z60, z61, z63, z66, z97, z99, z111, z114, z115, z116, z118, z122, z126, z255, z854, z1000, z1111, z7143, z9999, z10000, zM, zMn, nI_add, pk_mul, zsub, zlt_t, zlt_f, zle_t, zle_f, zeq_t, zeq_f, zeM1, zeM2, zeM3, zltM, zleM, nI_clamp, zin, false_or, or_false, true_and, and_true, false_and, and_false, not_true_eq_false, not_false_eq_true, true_imp_iff, false_imp_iff, implies_true, if_true, if_false]
      refine L_up (by decide) (by decide) ?_
      refine L_up (by decide) (by decide) ?_
      refine L_up (by decide) (by decide) ?_
      refine L_up (by decide) (by decide) ?_
      refine L_up (by decide) (by decide) ?_
      refine N_roads H ?_
      refine N_envelopes H ?_
      refine L_up (by decide) (by decide) ?_
      rw [hk]
      refine ⟨fun q => absurd q (by decide), fun _ => ?_⟩
      refine ⟨fun q => absurd q (by decide), fun _ => ?_⟩
      refine ⟨fun q => absurd q (by decide), fun _ => ?_⟩
      refine ⟨fun q => absurd q (by decide), fun _ => ?_⟩
      refine ⟨fun q => absurd q (by decide), fun _ => ?_⟩
      refine ⟨fun q => absurd q (by decide), fun _ => ?_⟩
      refine ⟨fun q => absurd q (by decide), fun _ => ?_⟩
      refine ⟨fun q => absurd q (by decide), fun _ => ?_⟩
      refine ⟨fun q => absurd q (by decide), fun _ => ?_⟩
      refine ⟨fun q => absurd q (by decide), fun _ => ?_⟩
      refine ⟨fun q => absurd q (by decide), fun _ => ?_⟩
      refine ⟨fun q => absurd q (by decide), fun _ => ?_⟩
      refine jn_p (N_setKey H l1 l5 (fun N' H' => hp N' f H' hf)) (fun J hJ => ⟨fun _ => hJ, fun q1 => ⟨fun _ => hJ, fun q2 => absurd ⟨?_, ?_⟩ hq⟩⟩)
      · rcases Nat.eq_zero_or_pos T.1 with z | z
        · exact absurd (nI_le (by omega) (by omega)) q1
        · exact z
      · rcases Nat.lt_or_ge T.2.1 12 with z | z
        · exact z
        · exact absurd (nI_le z (by omega)) q2
