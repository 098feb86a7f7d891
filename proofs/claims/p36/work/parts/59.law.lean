/-! the law -/
theorem QB_0 : QB T0 g0 0 := ⟨fun _ => 0, fun k hk => rfl, rfl, Nat.le_refl _, Nat.le_refl _, Nat.le_refl _⟩
theorem DI_0 : DI T0 := fun r hr => absurd hr (Nat.not_lt_zero _)
theorem z72 : (72 : Int32) = nI 72 := rfl
theorem push_c {T : AT} {S : List AT} : push T S = T :: S.take 5 := rfl
set_option maxHeartbeats 4000000 in
set_option maxRecDepth 100000 in
theorem L_law {xs : Nat → Int32} {L : Nat} {N : Ne} {f k : Nat → Int32} {S0 : List AT} (H : NR N T0 S0) : wp_L_law xs L N f k (fun r => r = 1) := by
  unfold wp_L_law
  simp (disch := omega) only [Nat.reduceAdd, Nat.reduceSub, Nat.reduceMul, z0, z1, z2, z3, z4, z5, z6, z7, z8, z9, z10, z12, z16, z18, z24, z31, z33, z48, z49, z51, z53, z55, z57, z59, z60, z61, z63, z66, z97, z99, z111, z114, z115, z116, z118, z122, z126, z255, z854, z1000, z1111, z7143, z9999, z10000, zM, zMn, nI_add, pk_mul, zsub, zlt_t, zlt_f, zle_t, zle_f, zeq_t, zeq_f, zeM1, zeM2, zeM3, zltM, zleM, nI_clamp, zin, false_or, or_false, true_and, and_true, false_and, and_false, not_true_eq_false, not_false_eq_true, true_imp_iff, false_imp_iff, implies_true, if_true, if_false, z72]
  refine L_holds H QB_0 (by omega) DI_0 ?_
  refine lpnB 4 (fun j (u : Ne × (Nat → Int32) × (Nat → Int32)) => u.1 = N ∧ ∀ h, h < j → u.2.1 h = nM) ?_ ?_ (by omega) ⟨rfl, fun h hh => absurd hh (Nat.not_lt_zero _)⟩
  · rintro K j ⟨N2, f2, k2⟩ hj ⟨rfl, hu⟩ hk
    have hu : ∀ h, h < j → f2 h = nM := hu
    refine ⟨fun q => absurd q (nI_ge hj (by omega)), fun _ => ⟨vp_in_nI hj (by omega), ?_⟩⟩
    rw [nI_add, nI_clamp (by omega)]
    refine hk _ ⟨rfl, fun h hh => ?_⟩
    show upd f2 j nM h = nM
    by_cases e : h = j
    · rw [upd_t e]
    · rw [upd_f e]; exact hu h (by omega)
  rintro K ⟨N2, f2, k2⟩ ⟨rfl, hu⟩
  have hu : ∀ h, h < 4 → f2 h = nM := hu
  refine ⟨fun _ => ?_, fun q => absurd (nI_le (Nat.le_refl _) (by omega)) q⟩
  refine lpnM 72 (fun j x (u : Ne × (Nat → Int32) × (Nat → Int32)) => x = nI 1 ∧ ∃ T S, NR u.1 T S ∧ OnR u.2.1 T ∧ DI T ∧ QB T g0 j) ?_ ?_ (by omega) ⟨rfl, T0, S0, H, hu, DI_0, QB_0⟩
  rotate_left
  · rintro K2 x u ⟨rfl, -⟩
    exact ⟨fun _ => rfl, fun q => absurd (nI_le (Nat.le_refl _) (by omega)) q⟩
  rintro K2 j x ⟨N3, f3, k3⟩ hj ⟨rfl, T, S, HN, hf, D, Q⟩ hK
  have HN : NR N3 T S := HN
  have hf : OnR f3 T := hf
  have V := HN.1
  have hS := HN.2.2.1
  refine ⟨fun q => absurd q (nI_ge hj (by omega)), fun _ => ⟨fun q => absurd q (by decide), fun _ => ?_⟩⟩
  refine ⟨2 * j, ⟨pk_mul 2 j, by omega⟩, 2 * j + 1, ⟨by rw [pk_mul, nI_add], by omega⟩, ?_⟩
  generalize cellV xs L (2 * j) = x
  generalize cellV xs L (2 * j + 1) = y
  refine N_digest HN ?_
  refine N_savedStates HN ?_
  refine lpnB 4 (fun i (u : Ne × (Nat → Int32) × (Nat → Int32)) => u.1 = N3 ∧ u.2.1 = f3 ∧ ∀ h, h < i → u.2.2 h = f3 h) ?_ ?_ (by omega) ⟨rfl, rfl, fun h hh => absurd hh (Nat.not_lt_zero _)⟩
  · rintro K3 i ⟨N4, f4, k4⟩ hi ⟨hN4, hf4, hu4⟩ hk
    have hN4 : N4 = N3 := hN4
    have hf4 : f4 = f3 := hf4
    have hu4 : ∀ h, h < i → k4 h = f3 h := hu4
    subst hN4
    subst hf4
    refine ⟨fun q => absurd q (nI_ge hi (by omega)), fun _ => ⟨vp_in_nI hi (by omega), vp_in_nI hi (by omega), ?_⟩⟩
    rw [nI_add, nI_clamp (by omega)]
    refine hk _ ⟨rfl, rfl, fun h hh => ?_⟩
    show upd k4 i (f4 i) h = f4 h
    by_cases e : h = i
    · rw [upd_t e, e]
    · rw [upd_f e]; exact hu4 h (by omega)
  rintro K3 ⟨N4, f4, k4⟩ ⟨hN4, hf4, hu4⟩
  have hN4 : N4 = N3 := hN4
  have hf4 : f4 = f3 := hf4
  have hu4 : ∀ h, h < 4 → k4 h = f3 h := hu4
  subst hN4
  subst hf4
  refine ⟨fun _ => ?_, fun q => absurd (nI_le (Nat.le_refl _) (by omega)) q⟩
  obtain ⟨T', gv, hgv, V', D', Q', hact⟩ := act_ok V D Q x y
  refine hact N4 S f4 HN hf _ (fun N5 f5 H5 hf5 => ?_)
  have hlen : (push T S).length = (S.take 5).length + 1 := rfl
  have hpl : (push T S).length ≤ 6 := H5.2.2.1
  refine jn_v (nI 1) ?_ (fun J hJ => jn_n (fun J2 => ⟨fun q => absurd q (nI_nlt (Nat.zero_le _) hgv), fun _ => N_savedStates H5 ?_⟩))
  rotate_left
  · refine jn_v (nI (push T S).length) ⟨fun q => absurd rfl q, fun _ => hJ⟩ (fun J3 h3 => ?_)
    rw [push_len] at h3
    by_cases z : S.length < 6
    · rw [if_pos z] at h3
      refine ⟨fun q => absurd q (nI_ge z (by omega)), fun _ => ?_⟩
      rw [nI_add]
      exact h3
    · rw [if_neg z] at h3
      exact ⟨fun _ => h3, fun q => absurd (nI_le (by omega) (by omega)) q⟩
  refine jn_u (fun v (w : Ne × (Nat → Int32) × (Nat → Int32)) => v = nI 1 ∧ ∃ S1, NR w.1 T' S1 ∧ OnR w.2.1 T') ?_ (fun J hJ => ?_)
  rotate_left
  · refine ⟨fun q => absurd q (by decide), fun _ => ⟨fun _ => hJ _ _ ⟨rfl, _, H5, hf5⟩, fun _ => ?_⟩⟩
    refine N_digest H5 ?_
    refine N_savedStates H5 ?_
    refine lpnB 4 (fun i (u : Ne × (Nat → Int32) × (Nat → Int32)) => u.1 = N5 ∧ u.2.2 = k4 ∧ ∀ h, h < i → u.2.1 h = k4 h) ?_ ?_ (by omega) ⟨rfl, rfl, fun h hh => absurd hh (Nat.not_lt_zero _)⟩
    · rintro K4 i ⟨N6, f6, k6⟩ hi ⟨hN6, hk6, hu6⟩ hk
      have hN6 : N6 = N5 := hN6
      have hk6 : k6 = k4 := hk6
      have hu6 : ∀ h, h < i → f6 h = k4 h := hu6
      subst hN6
      subst hk6
      refine ⟨fun q => absurd q (nI_ge hi (by omega)), fun _ => ⟨vp_in_nI hi (by omega), vp_in_nI hi (by omega), ?_⟩⟩
      rw [nI_add, nI_clamp (by omega)]
      refine hk _ ⟨rfl, rfl, fun h hh => ?_⟩
      show upd f6 i (k6 i) h = k6 h
      by_cases e : h = i
      · rw [upd_t e, e]
      · rw [upd_f e]; exact hu6 h (by omega)
    · rintro K4 ⟨N6, f6, k6⟩ ⟨hN6, hk6, hu6⟩
      have hN6 : N6 = N5 := hN6
      have hk6 : k6 = k4 := hk6
      have hu6 : ∀ h, h < 4 → f6 h = k4 h := hu6
      subst hN6
      subst hk6
      refine ⟨fun _ => ?_, fun q => absurd (nI_le (Nat.le_refl _) (by omega)) q⟩
      have hf6 : OnR f6 T := fun h hh => ((hu6 h hh).trans (hu4 h hh)).trans (hf h hh)
      refine N_undo (T1 := T) (S := S.take 5) H5 (fun N7 H7 => ?_)
      refine jn_u (fun v (w : Ne × (Nat → Int32) × (Nat → Int32)) => v = nI 1 ∧ ∃ S1, NR w.1 T' S1 ∧ OnR w.2.1 T') (fun v w h => hJ _ _ h) (fun J3 hJ3 => ?_)
      refine jn_x (fun J4 => ⟨fun q => absurd (by rw [hlen, zsub (by omega), Nat.add_sub_cancel]) q, fun _ => ?_⟩)
      refine N_digest H7 ?_
      refine ⟨fun q => absurd cmp_self q, fun _ => ?_⟩
      refine hact N7 (S.take 5) f6 H7 hf6 _ (fun N8 f8 H8 hf8 => ?_)
      refine ⟨fun q => absurd rfl q, fun _ => ?_⟩
      refine N_digest H8 ?_
      exact ⟨fun q => absurd cmp_self q, fun _ => hJ3 _ _ ⟨rfl, _, H8, hf8⟩⟩
  rintro v ⟨N6, f6, k6⟩ ⟨rfl, S1, H6, hf6⟩
  have H6 : NR N6 T' S1 := H6
  have hf6 : OnR f6 T' := hf6
  have hn' := v_n V'
  refine jn_u (fun v (w : Ne × (Nat → Int32) × (Nat → Int32)) => v = nI 1 ∧ ∃ S1, NR w.1 T' S1 ∧ OnR w.2.1 T') ?_ (fun J hJ => ?_)
  · rintro v w ⟨rfl, S2, H2, hf2⟩
    rw [nI_add]
    exact hK _ _ ⟨rfl, T', S2, H2, hf2, D', Q'⟩
  refine jn_x (fun J2 => ⟨fun q => absurd q (by decide), fun _ => ?_⟩)
  refine L_holds H6 Q' (by omega) D' ?_
  refine ⟨fun q => absurd q (by decide), fun _ => ?_⟩
  refine L_up (by decide) (by decide) ?_
  refine L_up (by decide) (by decide) ?_
  refine L_isCovered H6 (upN_lt (by decide)) (upN_lt (by decide)) ?_
  refine ⟨fun q => absurd q (by decide), fun _ => ?_⟩
  refine jn_q (fun (w : Ne × (Nat → Int32) × (Nat → Int32)) => ∃ S1, NR w.1 T' S1 ∧ OnR w.2.1 T') (fun w h => hJ _ _ ⟨rfl, h⟩) (fun J3 hJ3 => ?_)
  refine ⟨fun _ => hJ3 _ ⟨S1, H6, hf6⟩, fun _ => ?_⟩
  refine N_roads H6 ?_
  by_cases z : T'.1 = 0
  · rw [z]
    exact ⟨fun _ => hJ3 _ ⟨S1, H6, hf6⟩, fun q => absurd rfl q⟩
  refine ⟨fun q => absurd q (by rw [zeq_i (by omega) (by omega)]; exact z), fun _ => ?_⟩
  refine N_roads H6 ?_
  refine L_up (by omega) (by omega) ?_
  refine L_up (by decide) (by decide) ?_
  refine L_up (by decide) (by decide) ?_
  refine L_isBrought H6 Q' (upN_lt (by omega)) (upN_lt (by decide)) (upN_lt (by decide)) (fun N9 S9 H9 => ?_)
  exact ⟨fun q => absurd q (by decide), fun _ => hJ3 _ ⟨S9, H9, hf6⟩⟩
