/-! isBrought -/
theorem jn_u {A B9 : Type} {K : A → B9 → Prop} {B : (A → B9 → Prop) → Prop} (P : A → B9 → Prop) (hk : ∀ v w, P v w → K v w) (hB : ∀ J : A → B9 → Prop, (∀ v w, P v w → J v w) → B J) : jn K B := hB K hk
theorem jn_q {A : Type} {K : A → Prop} {B : (A → Prop) → Prop} (P : A → Prop) (hk : ∀ v, P v → K v) (hB : ∀ J : A → Prop, (∀ v, P v → J v) → B J) : jn K B := hB K hk
theorem cmp_self {a : Int64} : lg_cmp a a = nI 0 := by
  have h : (lg_cmp a a = nI 0) = True := zcmp
  rw [h]
  exact trivial
section
variable {N : Ne} {T : AT} {S : List AT} {t : Nat}
set_option maxHeartbeats 4000000 in
set_option maxRecDepth 100000 in
theorem L_isBrought (H : NR N T S) (Q : QB T g0 t) {r b a : Nat} (hr : r < T.1) (hb : b < 10000) (ha : a < 10000) {post : Int32 → Ne → Prop} (hp : ∀ N' S', NR N' T S' → post (nI 1) N') : wp_L_isBrought N (nI r) (nI b) (nI a) post := by
  have V := H.1
  have hn := v_n V
  have he := v_e V
  have c2 := v_ri V hr (p := 2) (by omega) (by omega)
  have hh := v_rh V hr
  unfold wp_L_isBrought
  simp (disch := omega) only [Nat.reduceAdd, Nat.reduceSub, Nat.reduceMul, z0, z1, z2, z3, z4, z5, z6, z7, z8, z9, z10, z12, z16, z18, z24, z31, z33, z48, z49, z51, z53, z55, z57, z59, z60, z61, z63, z66, z97, z99, z111, z114, z115, z116, z118, z122, z126, z255, z854, z1000, z1111, z7143, z9999, z10000, zM, zMn, nI_add, pk_mul, zsub, zlt_t, zlt_f, zle_t, zle_f, zeq_t, zeq_f, zeM1, zeM2, zeM3, zltM, zleM, nI_clamp, zin, false_or, or_false, true_and, and_true, false_and, and_false, not_true_eq_false, not_false_eq_true, true_imp_iff, false_imp_iff, implies_true, if_true, if_false]
  refine N_stands H hr ?_
  cases hst : stN T r
  · exact ⟨fun _ => hp N S H, fun q => absurd rfl q⟩
  refine ⟨fun q => absurd q (by decide), fun _ => ?_⟩
  refine N_envelopes H ?_
  by_cases h12 : T.2.1 = 12
  · rw [h12]
    exact ⟨fun q => absurd rfl q, fun _ => hp N S H⟩
  refine ⟨fun _ => ?_, fun q => absurd q (by rw [zeq_i (by omega) (by omega)]; exact h12)⟩
  refine N_digest H ?_
  refine N_hall H hr ?_
  refine N_send H (by omega) hr hb (fun N1 H1 => ?_)
  obtain ⟨T1, e1⟩ : ∃ T1, T1 = tKey (tPut T 0 r 0 (nest T r b) 0) (T.2.2.2.2.1 r 2) a := ⟨_, rfl⟩
  obtain ⟨T2, e2⟩ : ∃ T2, T2 = tPass T1 4 := ⟨_, rfl⟩
  obtain ⟨T3, e3⟩ : ∃ T3, T3 = tPut T2 2 r 4 a 1 := ⟨_, rfl⟩
  obtain ⟨T4, e4⟩ : ∃ T4, T4 = tPass T3 3 := ⟨_, rfl⟩
  obtain ⟨T0', e0'⟩ : ∃ T0', T0' = tPut T 0 r 0 (nest T r b) 0 := ⟨_, rfl⟩
  obtain ⟨V1, hdue, z2, hlt, hon, hn2, p3, p4, han⟩ := brought V Q hr hst (by omega) hb ha e1 e2 e3 e4
  have hrow : T0'.2.2.2.2.2.2.2.1 T.2.1 = fun w => sel4 r 0 (nest T r b) 0 w := by rw [e0']; funext w; exact if_pos rfl
  have hrn : T0'.1 = T.1 := by rw [e0']; rfl
  have hre : T0'.2.1 = T.2.1 + 1 := by rw [e0']; rfl
  have hop : T0'.2.2.1 = T.2.2.1 := by rw [e0']; rfl
  have hri : T0'.2.2.2.2.1 = T.2.2.2.2.1 := by rw [e0']; rfl
  rw [← e0'] at H1 e1
  refine N_envelopes H1 ?_
  rw [hre]
  refine jn_v (nI 1) ?_ (fun J hJ => jn_n (fun J2 => ?_))
  rotate_left
  · simp (disch := omega) only [Nat.reduceAdd, Nat.reduceSub, Nat.reduceMul, z0, z1, z2, z3, z4, z5, z6, z7, z8, z9, z10, z12, z16, z18, z24, z31, z33, z48, z49, z51, z53, z55, z57, z59, z60, z61, z63, z66, z97, z99, z111, z114, z115, z116, z118, z122, z126, z255, z854, z1000, z1111, z7143, z9999, z10000, zM, zMn, nI_add, pk_mul, zsub, zlt_t, zlt_f, zle_t, zle_f, zeq_t, zeq_f, zeM1, zeM2, zeM3, zltM, zleM, nI_clamp, zin, false_or, or_false, true_and, and_true, false_and, and_false, not_true_eq_false, not_false_eq_true, true_imp_iff, false_imp_iff, implies_true, if_true, if_false]
    refine N_envelope H1 (by omega) (by omega) ?_
    rw [hrow]
    refine ⟨fun q => absurd rfl q, fun _ => ?_⟩
    refine N_envelope H1 (by omega) (by omega) ?_
    rw [hrow]
    refine ⟨fun q => absurd rfl q, fun _ => ?_⟩
    refine N_ticksTo H1 (by omega) ?_
    have har : arN T0' T0'.2.2.1 T.2.1 = nI 4 := by
      unfold stN at hst
      obtain ⟨h1, h2⟩ := (Bool.and_eq_true _ _).mp hst
      obtain ⟨h3, h4⟩ := (Bool.and_eq_true _ _).mp h1
      unfold arN blk
      rw [hrow, hop, hri]
      simp [sel4, h2, h3, h4]
    rw [har]
    exact ⟨fun q => absurd rfl q, fun _ => hJ⟩
  refine N_inn H1 (by omega) (by omega) (by omega) ?_
  rw [hri]
  refine N_setKey H1 c2 ha (fun N2 H2 => ?_)
  rw [← e1] at H2
  have hky := v_key H1.1 c2
  have he1 := v_e H2.1
  refine lpnA T1.2.1 (fun j x => x = nI (cnt (fOk T1.2.2.1 T1.2.2.2.2.1) T1.2.2.2.2.2.2.2.1 g0 j)) ?_ ?_ (Nat.zero_le _) rfl
  · rintro K j x hj rfl hk
    have h4 := ev_4 H2.1 hj
    refine N_envelopes H2 ?_
    refine ⟨fun q => absurd q (nI_ge hj (by omega)), fun _ => ?_⟩
    refine N_ticksTo H2 hj ?_
    rw [arN_ok h4]
    refine jn_v (nI (if g0 j = false ∧ fOk T1.2.2.1 T1.2.2.2.2.1 (T1.2.2.2.2.2.2.2.1 j) = true then 1 else 0)) ?_ (fun J hJ => ?_)
    · rw [nI_add, nI_add]
      exact hk _ rfl
    · cases hq : fOk T1.2.2.1 T1.2.2.2.2.1 (T1.2.2.2.2.2.2.2.1 j)
      · rw [hq, if_neg (by simp)] at hJ
        exact ⟨fun q => absurd rfl q, fun _ => hJ⟩
      · rw [hq, if_pos ⟨rfl, rfl⟩] at hJ
        exact ⟨fun _ => hJ, fun q => absurd q (by decide)⟩
  rintro K x rfl
  refine N_envelopes H2 ?_
  refine ⟨fun _ => ?_, fun q => absurd (nI_le (Nat.le_refl _) (by omega)) q⟩
  refine jn_u (fun x u => x = nI 1 ∧ NR u (tPass T4 1) [T4, T3, T2, T1, T0', T]) ?_ (fun J hJ => ?_)
  rotate_left
  · refine jn_x (fun J2 => ⟨fun q => absurd q (by decide), fun _ => ⟨fun q => absurd q (nI_nlt (Nat.zero_le _) (by omega)), fun _ => ?_⟩⟩)
    refine N_pass H2 (by omega) (by omega) (fun N3 H3 => ?_)
    rw [← e2] at H3
    rw [hdue]
    refine ⟨fun q => absurd rfl q, fun _ => ?_⟩
    refine N_envelopes H3 ?_
    rw [z2]
    refine ⟨fun q => absurd rfl q, fun _ => ?_⟩
    refine N_letter H3 hh ?_
    rw [hlt]
    refine ⟨fun q => absurd rfl q, fun _ => ?_⟩
    refine N_answer H3 (by omega) hh ha (by omega) hon (fun N4 H4 => ?_)
    rw [← e3] at H4
    rw [z2]
    refine ⟨fun q => absurd rfl q, fun _ => ?_⟩
    refine N_pass H4 (by omega) (by omega) (fun N5 H5 => ?_)
    rw [← e4] at H5
    rw [p3]
    refine ⟨fun q => absurd rfl q, fun _ => ?_⟩
    refine N_pass H5 (by omega) (by omega) (fun N6 H6 => ?_)
    rw [p4]
    refine ⟨fun q => absurd rfl q, fun _ => ?_⟩
    refine N_lastAnswer H6 ?_
    rw [han]
    exact ⟨fun q => absurd rfl q, fun _ => hJ _ _ ⟨rfl, H6⟩⟩
  rintro v w ⟨rfl, hw⟩
  refine lpnM 6 (fun k x u => x = nI 1 ∧ NR u (([tPass T4 1, T4, T3, T2, T1, T0', T] : List AT).getD k T0) (([tPass T4 1, T4, T3, T2, T1, T0', T] : List AT).drop (k + 1))) ?_ ?_ (by omega) ⟨rfl, hw⟩
  · rintro K2 k x u hk ⟨rfl, hu⟩ hK
    have hd : ([tPass T4 1, T4, T3, T2, T1, T0', T] : List AT).drop (k + 1) = ([tPass T4 1, T4, T3, T2, T1, T0', T] : List AT).getD (k + 1) T0 :: ([tPass T4 1, T4, T3, T2, T1, T0', T] : List AT).drop (k + 2) := by
      rcases (show k = 0 ∨ k = 1 ∨ k = 2 ∨ k = 3 ∨ k = 4 ∨ k = 5 by omega) with rfl | rfl | rfl | rfl | rfl | rfl <;> rfl
    rw [hd] at hu
    have hl : (([tPass T4 1, T4, T3, T2, T1, T0', T] : List AT).drop (k + 2)).length < 2147483648 := by
      rw [List.length_drop]
      show 7 - (k + 2) < 2147483648
      omega
    refine jn_n (fun J => ⟨fun q => absurd q (nI_ge hk (by omega)), fun _ => ⟨fun q => absurd q (by decide), fun _ => ?_⟩⟩)
    refine N_undo hu (fun N' H' => ?_)
    refine jn_v (nI 1) ?_ (fun J2 h2 => ⟨fun q => absurd q (nI_nlt (Nat.zero_le _) hl), fun _ => h2⟩)
    rw [nI_add]
    exact hK _ _ ⟨rfl, H'⟩
  · rintro K2 x u ⟨rfl, hu⟩
    have hu : NR u T [] := hu
    refine jn_p ⟨fun q => absurd q (by decide), fun _ => N_digest hu ⟨fun q => absurd cmp_self q, fun _ => hp _ _ hu⟩⟩ (fun J hJ => ⟨fun _ => hJ, fun q => absurd (nI_le (Nat.le_refl _) (by omega)) q⟩)
end
