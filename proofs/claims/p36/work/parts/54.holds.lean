/-! holds -/
section
variable {N : Ne} {T : AT} {S : List AT} {t : Nat}
set_option maxHeartbeats 4000000 in
set_option maxRecDepth 100000 in
theorem L_holds (H : NR N T S) (Q : QB T g0 t) (ht : t < 75) (D : DI T) {post : Int32 → Prop} (hp : post (nI 1)) : wp_L_holds N post := by
  have V := H.1
  have hn := v_n V
  have he := v_e V
  unfold wp_L_holds
  simp (disch := omega) only [Nat.reduceAdd, Nat.reduceSub, Nat.reduceMul, z0, z1, z2, z3, z4, z5, z6, z7, z8, z9, z10, z12, z16, z18, z24, z31, z33, z48, z49, z51, z53, z55, z57, z59, z60, z61, z63, z66, z97, z99, z111, z114, z115, z116, z118, z122, z126, z255, z854, z1000, z1111, z7143, z9999, z10000, zM, zMn, nI_add, pk_mul, zsub, zlt_t, zlt_f, zle_t, zle_f, zeq_t, zeq_f, zeM1, zeM2, zeM3, zltM, zleM, nI_clamp, zin, false_or, or_false, true_and, and_true, false_and, and_false, not_true_eq_false, not_false_eq_true, true_imp_iff, false_imp_iff, implies_true, if_true, if_false]
  refine N_envelopes H ?_
  refine N_count H (by omega) ?_
  refine N_count H (by omega) ?_
  refine N_count H (by omega) ?_
  refine N_count H (by omega) ?_
  refine N_count H (by omega) ?_
  refine jn_v (nI 1) ?_ (fun J hJ => jn_n (fun J2 => ?_))
  rotate_left
  · obtain ⟨c, hc, hb, ho, h0, h2⟩ := id Q
    rw [cnt_all] at hb
    rw [hc 0 (by omega), hc 1 (by omega), hc 2 (by omega), hc 3 (by omega), hc 4 (by omega)]
    simp (disch := omega) only [Nat.reduceAdd, Nat.reduceSub, Nat.reduceMul, z0, z1, z2, z3, z4, z5, z6, z7, z8, z9, z10, z12, z16, z18, z24, z31, z33, z48, z49, z51, z53, z55, z57, z59, z60, z61, z63, z66, z97, z99, z111, z114, z115, z116, z118, z122, z126, z255, z854, z1000, z1111, z7143, z9999, z10000, zM, zMn, nI_add, pk_mul, zsub, zlt_t, zlt_f, zle_t, zle_f, zeq_t, zeq_f, zeM1, zeM2, zeM3, zltM, zleM, nI_clamp, zin, false_or, or_false, true_and, and_true, false_and, and_false, not_true_eq_false, not_false_eq_true, true_imp_iff, false_imp_iff, implies_true, if_true, if_false]
    refine N_envelopes H ?_
    simp (disch := omega) only [Nat.reduceAdd, Nat.reduceSub, Nat.reduceMul, z0, z1, z2, z3, z4, z5, z6, z7, z8, z9, z10, z12, z16, z18, z24, z31, z33, z48, z49, z51, z53, z55, z57, z59, z60, z61, z63, z66, z97, z99, z111, z114, z115, z116, z118, z122, z126, z255, z854, z1000, z1111, z7143, z9999, z10000, zM, zMn, nI_add, pk_mul, zsub, zlt_t, zlt_f, zle_t, zle_f, zeq_t, zeq_f, zeM1, zeM2, zeM3, zltM, zleM, nI_clamp, zin, false_or, or_false, true_and, and_true, false_and, and_false, not_true_eq_false, not_false_eq_true, true_imp_iff, false_imp_iff, implies_true, if_true, if_false]
    refine N_envelopes H ?_
    simp (disch := omega) only [Nat.reduceAdd, Nat.reduceSub, Nat.reduceMul, z0, z1, z2, z3, z4, z5, z6, z7, z8, z9, z10, z12, z16, z18, z24, z31, z33, z48, z49, z51, z53, z55, z57, z59, z60, z61, z63, z66, z97, z99, z111, z114, z115, z116, z118, z122, z126, z255, z854, z1000, z1111, z7143, z9999, z10000, zM, zMn, nI_add, pk_mul, zsub, zlt_t, zlt_f, zle_t, zle_f, zeq_t, zeq_f, zeM1, zeM2, zeM3, zltM, zleM, nI_clamp, zin, false_or, or_false, true_and, and_true, false_and, and_false, not_true_eq_false, not_false_eq_true, true_imp_iff, false_imp_iff, implies_true, if_true, if_false]
    refine N_roads H ?_
    simp (disch := omega) only [Nat.reduceAdd, Nat.reduceSub, Nat.reduceMul, z0, z1, z2, z3, z4, z5, z6, z7, z8, z9, z10, z12, z16, z18, z24, z31, z33, z48, z49, z51, z53, z55, z57, z59, z60, z61, z63, z66, z97, z99, z111, z114, z115, z116, z118, z122, z126, z255, z854, z1000, z1111, z7143, z9999, z10000, zM, zMn, nI_add, pk_mul, zsub, zlt_t, zlt_f, zle_t, zle_f, zeq_t, zeq_f, zeM1, zeM2, zeM3, zltM, zleM, nI_clamp, zin, false_or, or_false, true_and, and_true, false_and, and_false, not_true_eq_false, not_false_eq_true, true_imp_iff, false_imp_iff, implies_true, if_true, if_false]
    refine N_share H Q ht (fun d hd => ?_)
    refine ⟨fun q => absurd q hd.1, fun _ => ?_⟩
    refine N_share H Q ht (fun d2 hd2 => ?_)
    exact ⟨fun q => absurd q hd2.2, fun _ => hJ⟩
  refine lpn3 T.2.1 (fun j x y => x = nI (lsN T T.2.2.1 j) ∧ y = nI 1) ?_ ?_ (Nat.zero_le _) ⟨rfl, rfl⟩
  · rintro K j x y hj ⟨rfl, rfl⟩ hk
    have hv := v_ev V hj rfl
    unfold envOk at hv
    obtain ⟨v0, v2, vd⟩ := hv
    refine N_envelopes H ?_
    simp (disch := omega) only [Nat.reduceAdd, Nat.reduceSub, Nat.reduceMul, z0, z1, z2, z3, z4, z5, z6, z7, z8, z9, z10, z12, z16, z18, z24, z31, z33, z48, z49, z51, z53, z55, z57, z59, z60, z61, z63, z66, z97, z99, z111, z114, z115, z116, z118, z122, z126, z255, z854, z1000, z1111, z7143, z9999, z10000, zM, zMn, nI_add, pk_mul, zsub, zlt_t, zlt_f, zle_t, zle_f, zeq_t, zeq_f, zeM1, zeM2, zeM3, zltM, zleM, nI_clamp, zin, false_or, or_false, true_and, and_true, false_and, and_false, not_true_eq_false, not_false_eq_true, true_imp_iff, false_imp_iff, implies_true, if_true, if_false]
    refine N_envelope H hj (by omega) ?_
    refine jn_v (nI (T.2.2.2.2.2.2.2.1 j 3)) ?_ (fun J hJ => ?_)
    rotate_left
    · rcases vd with ⟨d, d1⟩ | ⟨d, d1, d2⟩ <;> rw [d] at hJ ⊢ <;> simp (disch := omega) only [Nat.reduceAdd, Nat.reduceSub, Nat.reduceMul, z0, z1, z2, z3, z4, z5, z6, z7, z8, z9, z10, z12, z16, z18, z24, z31, z33, z48, z49, z51, z53, z55, z57, z59, z60, z61, z63, z66, z97, z99, z111, z114, z115, z116, z118, z122, z126, z255, z854, z1000, z1111, z7143, z9999, z10000, zM, zMn, nI_add, pk_mul, zsub, zlt_t, zlt_f, zle_t, zle_f, zeq_t, zeq_f, zeM1, zeM2, zeM3, zltM, zleM, nI_clamp, zin, false_or, or_false, true_and, and_true, false_and, and_false, not_true_eq_false, not_false_eq_true, true_imp_iff, false_imp_iff, implies_true, if_true, if_false] <;> exact hJ
    refine N_envelope H hj (by omega) ?_
    refine N_ticksTo H hj ?_
    refine jn_v (nI (if arN T T.2.2.1 j = nM then 1 else 0)) ?_ (fun J hJ => ⟨fun q => by rw [if_neg q] at hJ; exact hJ, fun q => by rw [if_pos q] at hJ; exact hJ⟩)
    refine jn_v (nI 1) ?_ (fun J hJ => jn_n (fun J2 => ?_))
    · rw [nI_add]
      exact hk _ _ ⟨rfl, rfl⟩
    · exact hl_env H hj hJ
  rintro K x y ⟨rfl, rfl⟩
  refine N_envelopes H ?_
  simp (disch := omega) only [Nat.reduceAdd, Nat.reduceSub, Nat.reduceMul, z0, z1, z2, z3, z4, z5, z6, z7, z8, z9, z10, z12, z16, z18, z24, z31, z33, z48, z49, z51, z53, z55, z57, z59, z60, z61, z63, z66, z97, z99, z111, z114, z115, z116, z118, z122, z126, z255, z854, z1000, z1111, z7143, z9999, z10000, zM, zMn, nI_add, pk_mul, zsub, zlt_t, zlt_f, zle_t, zle_f, zeq_t, zeq_f, zeM1, zeM2, zeM3, zltM, zleM, nI_clamp, zin, false_or, or_false, true_and, and_true, false_and, and_false, not_true_eq_false, not_false_eq_true, true_imp_iff, false_imp_iff, implies_true, if_true, if_false]
  refine lpnA 8 (fun i x => x = nI 1) ?_ ?_ (by omega) rfl
  · rintro K i x hi rfl hk
    refine ⟨fun q => absurd q (nI_ge hi (by omega)), fun _ => ?_⟩
    refine lpn3 T.1 (fun r x y => x = nI 1 ∧ y = knN T i r) ?_ ?_ (Nat.zero_le _) ⟨rfl, rfl⟩
    · rintro K2 r x y hr ⟨rfl, rfl⟩ hk2
      refine N_roads H ?_
      refine ⟨fun q => absurd q (nI_ge hr (by omega)), fun _ => ?_⟩
      refine N_see H hi hr (by omega) ?_
      refine N_see H hi hr (by omega) ?_
      refine N_inn H hr (by omega) (by omega) ?_
      refine jn_v (nI (plN T r i)) ?_ (fun J hJ => hl_place H hi hr hJ)
      refine jn_v (biN (seN T i r 0)) ?_ (fun J hJ => bi_jn hJ)
      refine jn_v (biN (seN T i r 1)) ?_ (fun J hJ => bi_jn hJ)
      refine jn_v (nI 1) ?_ (fun J hJ => jn_n (fun J2 => ⟨fun q => absurd q (by decide), fun _ => ?_⟩))
      · rw [nI_add]
        exact hk2 _ _ ⟨rfl, Int32.or_assoc _ _ _⟩
      · refine jn_v (seN T i r 0) ⟨fun q => absurd rfl q, fun _ => ?_⟩ (fun J5 hJ5 => hl_see0 H hi hr hJ5)
        exact jn_v (seN T i r 1) ⟨fun q => absurd rfl q, fun _ => hJ⟩ (fun J6 hJ6 => hl_see1 H hi hr hJ6)
    · rintro K2 x y ⟨rfl, rfl⟩
      refine N_roads H ?_
      refine ⟨fun _ => ?_, fun q => absurd (nI_le (Nat.le_refl _) (by omega)) q⟩
      refine jn_v (nI 1) ?_ (fun J hJ => jn_n (fun J2 => ⟨fun q => absurd q (by decide), fun _ => ?_⟩))
      · refine lpnA 8 (fun j x => x = nI 1) ?_ ?_ (by omega) rfl
        · rintro K3 j x hj rfl hk3
          refine ⟨fun q => absurd q (nI_ge hj (by omega)), fun _ => ?_⟩
          refine jn_v (nI 1) ?_ (fun J hJ => jn_n (fun J2 => ⟨fun q => absurd q (by decide), fun _ => ?_⟩))
          · rw [nI_add]
            exact hk3 _ rfl
          · refine N_known H hi ?_
            refine N_known H hj ?_
            rw [zopv (by omega), zopv (by omega), kn_sym V D hi hj T.1 (Nat.le_refl _)]
            exact ⟨fun q => absurd rfl q, fun _ => hJ⟩
        · rintro K3 x rfl
          refine ⟨fun _ => ?_, fun q => absurd (nI_le (Nat.le_refl _) (by omega)) q⟩
          rw [nI_add]
          exact hk _ rfl
      · refine N_known H hi ?_
        refine ⟨fun q => absurd rfl q, fun _ => ?_⟩
        rw [zopv (by omega), kn_self V D hi T.1 (Nat.le_refl _), bI_f]
        refine ⟨fun q => absurd rfl q, fun _ => ?_⟩
        refine N_isOpen H hi ?_
        refine jn_p (N_lostIfClosed H hi ?_) (fun J4 hJ4 => ⟨fun _ => hJ4, fun q => N_lostIfClosed H hi ?_⟩)
        · have hm := lsN_B (T := T) (i := i) (op := T.2.2.1) T.2.1 (fun j hj => ev_4 V hj)
          have hl := lsN_le T (opB T.2.2.1 i) T.2.1
          exact ⟨fun q => absurd q (nI_nlt hm (by omega)), fun _ => hJ⟩
        · rw [opB_same (by rw [bI_0] at q; exact q)]
          exact ⟨fun q => absurd rfl q, fun _ => hJ4⟩
  rintro K x rfl
  refine ⟨fun _ => ?_, fun q => absurd (nI_le (Nat.le_refl _) (by omega)) q⟩
  refine lpnA T.1 (fun r x => x = nI 1) ?_ ?_ (Nat.zero_le _) rfl
  · rintro K2 r x hr rfl hk
    refine N_roads H ?_
    refine ⟨fun q => absurd q (nI_ge hr (by omega)), fun _ => ?_⟩
    refine jn_v (nI 1) ?_ (fun J hJ => jn_n (fun J2 => ⟨fun q => absurd q (by decide), fun _ => ?_⟩))
    · rw [nI_add]
      exact hk _ rfl
    · refine N_stands H hr ?_
      refine N_inn H hr (by omega) (by omega) ?_
      refine N_isOpen H (v_ri V hr (by omega) (by omega)) ?_
      exact jn_v (bI (stN T r)) ⟨fun q => absurd rfl q, fun _ => hJ⟩ (fun J6 hJ6 => hl_stand H hr hJ6)
  · rintro K2 x rfl
    refine N_roads H ?_
    refine ⟨fun _ => ?_, fun q => absurd (nI_le (Nat.le_refl _) (by omega)) q⟩
    refine N_leastWork H (by omega) (by omega) ?_
    refine N_leastWork H (by omega) (by omega) ?_
    refine N_leastWork H (by omega) (by omega) ?_
    rcases least3 T with ⟨e1, e2, e3⟩ | ⟨i, hi, oi, e1, e2, e3⟩ | ⟨i, j, hi, hj, hij, oi, oj, e1, e2, e3⟩ | ⟨i, j, k, hi, hj, hk, hij, hik, hjk, oi, oj, ok, e1, e2, e3⟩
    · rw [e1, e2, e3]
      simp (disch := omega) only [jn, Nat.reduceAdd, Nat.reduceSub, Nat.reduceMul, z0, z1, z2, z3, z4, z5, z6, z7, z8, z9, z10, z12, z16, z18, z24, z31, z33, z48, z49, z51, z53, z55, z57, z59, z60, z61, z63, z66, z97, z99, z111, z114, z115, z116, z118, z122, z126, z255, z854, z1000, z1111, z7143, z9999, z10000, zM, zMn, nI_add, pk_mul, zsub, zlt_t, zlt_f, zle_t, zle_f, zeq_t, zeq_f, zeM1, zeM2, zeM3, zltM, zleM, nI_clamp, zin, false_or, or_false, true_and, and_true, false_and, and_false, not_true_eq_false, not_false_eq_true, true_imp_iff, false_imp_iff, implies_true, if_true, if_false]
      exact hp
    · rw [e1, e2, e3]
      simp (disch := omega) only [jn, Nat.reduceAdd, Nat.reduceSub, Nat.reduceMul, z0, z1, z2, z3, z4, z5, z6, z7, z8, z9, z10, z12, z16, z18, z24, z31, z33, z48, z49, z51, z53, z55, z57, z59, z60, z61, z63, z66, z97, z99, z111, z114, z115, z116, z118, z122, z126, z255, z854, z1000, z1111, z7143, z9999, z10000, zM, zMn, nI_add, pk_mul, zsub, zlt_t, zlt_f, zle_t, zle_f, zeq_t, zeq_f, zeM1, zeM2, zeM3, zltM, zleM, nI_clamp, zin, false_or, or_false, true_and, and_true, false_and, and_false, not_true_eq_false, not_false_eq_true, true_imp_iff, false_imp_iff, implies_true, if_true, if_false, N_open_e H, oi, bI_t]
      exact hp
    · rw [e1, e2, e3]
      simp (disch := omega) only [jn, Nat.reduceAdd, Nat.reduceSub, Nat.reduceMul, z0, z1, z2, z3, z4, z5, z6, z7, z8, z9, z10, z12, z16, z18, z24, z31, z33, z48, z49, z51, z53, z55, z57, z59, z60, z61, z63, z66, z97, z99, z111, z114, z115, z116, z118, z122, z126, z255, z854, z1000, z1111, z7143, z9999, z10000, zM, zMn, nI_add, pk_mul, zsub, zlt_t, zlt_f, zle_t, zle_f, zeq_t, zeq_f, zeM1, zeM2, zeM3, zltM, zleM, nI_clamp, zin, false_or, or_false, true_and, and_true, false_and, and_false, not_true_eq_false, not_false_eq_true, true_imp_iff, false_imp_iff, implies_true, if_true, if_false, N_open_e H, oi, oj, bI_t]
      exact hp
    · rw [e1, e2, e3]
      simp (disch := omega) only [jn, Nat.reduceAdd, Nat.reduceSub, Nat.reduceMul, z0, z1, z2, z3, z4, z5, z6, z7, z8, z9, z10, z12, z16, z18, z24, z31, z33, z48, z49, z51, z53, z55, z57, z59, z60, z61, z63, z66, z97, z99, z111, z114, z115, z116, z118, z122, z126, z255, z854, z1000, z1111, z7143, z9999, z10000, zM, zMn, nI_add, pk_mul, zsub, zlt_t, zlt_f, zle_t, zle_f, zeq_t, zeq_f, zeM1, zeM2, zeM3, zltM, zleM, nI_clamp, zin, false_or, or_false, true_and, and_true, false_and, and_false, not_true_eq_false, not_false_eq_true, true_imp_iff, false_imp_iff, implies_true, if_true, if_false, N_open_e H, oi, oj, ok, bI_t]
      exact hp
end
