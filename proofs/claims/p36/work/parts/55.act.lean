/-! a deed: passes, act -/
/-- what the law bears in mind of the halls is what the object does -/
def OnR (f : Nat → Int32) (T : AT) : Prop := ∀ h, h < 4 → f h = T.2.2.2.2.2.2.2.2.2.1 h
section
variable {T : AT} {g : Nat → Bool} {t : Nat}
theorem QB_mono {t2 : Nat} (Q : QB T g t) (h : t ≤ t2) : QB T g t2 := by
  obtain ⟨c, h1, h2, h3, h4, h5⟩ := Q
  exact ⟨c, h1, h2, h3, by omega, by omega⟩
theorem put_cnt {φ : (Nat → Nat) → Bool} {c r p b d : Nat} : cnt φ (tPut T c r p b d).2.2.2.2.2.2.2.1 g0 (T.2.1 + 1) = cnt φ T.2.2.2.2.2.2.2.1 g0 T.2.1 + (if φ (fun w => sel4 r p b d w) = true then 1 else 0) := by
  have e0 : (tPut T c r p b d).2.2.2.2.2.2.2.1 T.2.1 = fun w => sel4 r p b d w := by funext w; exact if_pos rfl
  show cnt φ (tPut T c r p b d).2.2.2.2.2.2.2.1 g0 T.2.1 + (if g0 T.2.1 = false ∧ φ ((tPut T c r p b d).2.2.2.2.2.2.2.1 T.2.1) = true then 1 else 0) = _
  rw [e0, cnt_congr (ev' := T.2.2.2.2.2.2.2.1) (g' := g0) T.2.1 (fun j hj => ⟨rfl, by funext w; exact if_neg (by omega)⟩)]
  have e1 : (g0 T.2.1 = false ∧ φ (fun w => sel4 r p b d w) = true) = (φ (fun w => sel4 r p b d w) = true) := by simp [g0]
  simp only [e1]
theorem QB_put0 (Q : QB T g0 t) {r p b : Nat} : QB (tPut T 0 r p b 0) g0 (t + 1) := by
  obtain ⟨c, hc, hb, ho, h0, h2⟩ := Q
  refine ⟨fun k => if k = 0 then c k + 1 else c k, ct_up hc, ?_, ?_, ?_, ?_⟩
  · show cnt fAll (tPut T 0 r p b 0).2.2.2.2.2.2.2.1 g0 (T.2.1 + 1) + c 1 + c 3 + c 4 = c 0 + 1 + c 2
    rw [put_cnt, if_pos (show fAll _ = true from rfl)]
    omega
  · show cnt fOut (tPut T 0 r p b 0).2.2.2.2.2.2.2.1 g0 (T.2.1 + 1) + c 1 ≤ c 0 + 1
    rw [put_cnt, if_pos (by simp [fOut, sel4])]
    omega
  · show c 0 + 1 ≤ t + 1
    omega
  · show c 2 ≤ t + 1
    omega
theorem QB_put2 (Q : QB T g0 t) {r p b : Nat} : QB (tPut T 2 r p b 1) g0 (t + 1) := by
  obtain ⟨c, hc, hb, ho, h0, h2⟩ := Q
  refine ⟨fun k => if k = 2 then c k + 1 else c k, ct_up hc, ?_, ?_, ?_, ?_⟩
  · show cnt fAll (tPut T 2 r p b 1).2.2.2.2.2.2.2.1 g0 (T.2.1 + 1) + c 1 + c 3 + c 4 = c 0 + (c 2 + 1)
    rw [put_cnt, if_pos (show fAll _ = true from rfl)]
    omega
  · show cnt fOut (tPut T 2 r p b 1).2.2.2.2.2.2.2.1 g0 (T.2.1 + 1) + c 1 ≤ c 0
    rw [put_cnt, if_neg (by simp [fOut, sel4])]
    omega
  · show c 0 ≤ t + 1
    omega
  · show c 2 + 1 ≤ t + 1
    omega
theorem DI_same {T2 : AT} (D : DI T) (hn : T2.1 ≤ T.1) (hr : T2.2.2.2.2.1 = T.2.2.2.2.1) : DI T2 := by
  intro r h
  rw [hr]
  exact D r (by omega)
theorem DI_lay (D : DI T) {a b c h : Nat} (hab : a ≠ b) (hac : a ≠ c) (hbc : b ≠ c) : DI (tLay T a b c h) := by
  intro r hr
  have hr : r < T.1 + 1 := hr
  by_cases e : r = T.1
  · have q : ∀ p, (tLay T a b c h).2.2.2.2.1 r p = sel3 a b c p := fun p => if_pos e
    rw [q, q, q]
    exact ⟨hab, hac, hbc⟩
  · have q : ∀ p, (tLay T a b c h).2.2.2.2.1 r p = T.2.2.2.2.1 r p := fun p => if_neg e
    rw [q, q, q]
    exact D r (by omega)
theorem DI_pass (D : DI T) (k : Nat) : DI (tPass T k) := by
  obtain ⟨h1, -, -, h4, -, -⟩ := pass_same (T := T) k
  exact DI_same D (by omega) h4
theorem mvS_P (j : Nat) : mvP (mvS T j) j = mvP T j := by
  unfold mvP
  rw [mvS_ev j j (Nat.le_refl _)]
theorem on_mv {i h : Nat} : (tMv T i).2.2.2.2.2.2.2.2.2.1 h = if mvP T i = 4 then (if h = T.2.2.2.2.2.2.1 (T.2.2.2.2.2.2.2.1 i 0) then nI (T.2.2.2.2.2.2.2.1 i 0) else T.2.2.2.2.2.2.2.2.2.1 h) else T.2.2.2.2.2.2.2.2.2.1 h := by
  unfold tMv
  by_cases h4 : mvP T i = 4
  · rw [if_pos h4, if_pos h4]; rfl
  · rw [if_neg h4, if_neg h4]
    split
    · rfl
    · split <;> rfl
theorem on_mvS {j h : Nat} : (mvS T (j + 1)).2.2.2.2.2.2.2.2.2.1 h = if mvP T j = 4 then (if h = T.2.2.2.2.2.2.1 (T.2.2.2.2.2.2.2.1 j 0) then nI (T.2.2.2.2.2.2.2.1 j 0) else (mvS T j).2.2.2.2.2.2.2.2.2.1 h) else (mvS T j).2.2.2.2.2.2.2.2.2.1 h := by
  obtain ⟨-, -, -, -, -, h6⟩ := mvS_same (T := T) j
  show (tMv (mvS T j) j).2.2.2.2.2.2.2.2.2.1 h = _
  rw [on_mv, mvS_P, h6, mvS_ev j j (Nat.le_refl _)]
end
section
variable {N : Ne} {T : AT} {S : List AT} {f : Nat → Int32}
theorem ps_let (H : NR N T S) {j : Nat} (hj : j < T.2.1) {J : Int32 → Prop} (h : J (bI (decide (mvP T j = 4)))) : jn (J (nI 0)) (fun (J23 : Prop) => (¬ arN T T.2.2.1 j = nI 1 → J23) ∧ (arN T T.2.2.1 j = nI 1 → wp_X3_envelope N (nI j) (nI 3) (fun r27 => (¬ r27 = nI 0 → J23) ∧ (r27 = nI 0 → J (nI 1))))) := by
  have hv := v_ev H.1 hj rfl
  unfold envOk at hv
  obtain ⟨-, -, vd⟩ := hv
  have hP : mvP T j = if T.2.2.2.2.2.2.2.1 j 3 = 0 then T.2.2.2.2.2.2.2.1 j 1 + 1 else T.2.2.2.2.2.2.2.1 j 1 - 1 := rfl
  show (¬ arN T T.2.2.1 j = nI 1 → J (nI 0)) ∧ _
  by_cases h4 : mvP T j = 4
  · rw [decide_eq_true h4] at h
    have d3 : T.2.2.2.2.2.2.2.1 j 3 = 0 := by
      rcases vd with vd | vd
      · exact vd.1
      · rw [if_neg (by omega)] at hP; omega
    have d1 : T.2.2.2.2.2.2.2.1 j 1 = 3 := by rw [if_pos d3] at hP; omega
    have e : arN T T.2.2.1 j = nI 1 := by simp [arN, blk, d3, d1]
    refine ⟨fun q => absurd e q, fun _ => N_envelope H hj (by omega) ?_⟩
    rw [d3]
    exact ⟨fun q => absurd rfl q, fun _ => h⟩
  · rw [decide_eq_false h4] at h
    refine ⟨fun _ => h, fun q => N_envelope H hj (by omega) ⟨fun _ => h, fun z => ?_⟩⟩
    exfalso
    rw [zeq_i (by rcases vd with vd | vd <;> omega) (by omega)] at z
    rw [if_pos z] at hP
    unfold arN at q
    split at q
    · exact absurd q (by decide)
    · rw [zeq_i (by omega) (by omega)] at q
      omega
theorem L_passes (H : NR N T S) (hf : OnR f T) {post : Int32 → Ne × (Nat → Int32) → Prop} (hp : ∀ N' f', NR N' (tPass T 1) (push T S) → OnR f' (tPass T 1) → post (nI (paN T 1)) (N', f')) : wp_L_passes (N, f) post := by
  have V := H.1
  have hn := v_n V
  have he := v_e V
  unfold wp_L_passes
  simp (disch := omega) only [Nat.reduceAdd, Nat.reduceSub, Nat.reduceMul, z0, z1, z2, z3, z4, z5, z6, z7, z8, z9, z10, z12, z16, z18, z24, z31, z33, z48, z49, z51, z53, z55, z57, z59, z60, z61, z63, z66, z97, z99, z111, z114, z115, z116, z118, z122, z126, z255, z854, z1000, z1111, z7143, z9999, z10000, zM, zMn, nI_add, pk_mul, zsub, zlt_t, zlt_f, zle_t, zle_f, zeq_t, zeq_f, zeM1, zeM2, zeM3, zltM, zleM, nI_clamp, zin, false_or, or_false, true_and, and_true, false_and, and_false, not_true_eq_false, not_false_eq_true, true_imp_iff, false_imp_iff, implies_true, if_true, if_false]
  refine lpnB T.2.1 (fun j (u : Ne × (Nat → Int32)) => u.1 = N ∧ ∀ h, h < 4 → u.2 h = (mvS T j).2.2.2.2.2.2.2.2.2.1 h) ?_ ?_ (Nat.zero_le _) ⟨rfl, hf⟩
  · rintro K j ⟨N2, f2⟩ hj ⟨rfl, hu⟩ hk
    have hu : ∀ h, h < 4 → f2 h = (mvS T j).2.2.2.2.2.2.2.2.2.1 h := hu
    have hv := v_ev V hj rfl
    unfold envOk at hv
    obtain ⟨v0, -, vd⟩ := hv
    have hh := v_rh V v0
    refine N_envelopes H ?_
    refine ⟨fun q => absurd q (nI_ge hj (by omega)), fun _ => ?_⟩
    refine N_envelope H hj (by omega) ?_
    refine N_ticksTo H hj ?_
    refine jn_v (bI (decide (mvP T j = 4))) ?_ (fun J hJ => ps_let H hj hJ)
    refine N_hall H v0 ?_
    refine jn_v (if mvP T j = 4 then nI (T.2.2.2.2.2.2.2.1 j 0) else f2 (T.2.2.2.2.2.2.1 (T.2.2.2.2.2.2.2.1 j 0))) ?_ (fun J hJ => ?_)
    · refine ⟨vp_in_nI hh (by omega), ?_⟩
      rw [nI_add, nI_clamp (by omega)]
      refine hk _ ⟨rfl, fun h h4 => ?_⟩
      show upd f2 (T.2.2.2.2.2.2.1 (T.2.2.2.2.2.2.2.1 j 0)) _ h = _
      rw [on_mvS]
      by_cases q4 : mvP T j = 4
      · rw [if_pos q4, if_pos q4]
        by_cases e : h = T.2.2.2.2.2.2.1 (T.2.2.2.2.2.2.2.1 j 0)
        · rw [upd_t e, if_pos e]
        · rw [upd_f e, if_neg e]; exact hu h h4
      · rw [if_neg q4, if_neg q4]
        by_cases e : h = T.2.2.2.2.2.2.1 (T.2.2.2.2.2.2.2.1 j 0)
        · rw [upd_t e, ← e]; exact hu h h4
        · rw [upd_f e]; exact hu h h4
    · by_cases q4 : mvP T j = 4
      · rw [if_pos q4] at hJ
        rw [decide_eq_true q4]
        exact ⟨fun q => absurd q (by decide), fun _ => hJ⟩
      · rw [if_neg q4] at hJ
        rw [decide_eq_false q4]
        refine ⟨fun _ => N_hall H v0 ⟨vp_in_nI hh (by omega), ?_⟩, fun q => absurd rfl q⟩
        rw [nI_clamp (by omega)]
        exact hJ
  · rintro K ⟨N2, f2⟩ ⟨rfl, hu⟩
    have hu : ∀ h, h < 4 → f2 h = (mvS T T.2.1).2.2.2.2.2.2.2.2.2.1 h := hu
    refine N_envelopes H ?_
    refine ⟨fun _ => ?_, fun q => absurd (nI_le (Nat.le_refl _) (by omega)) q⟩
    exact N_pass H (by omega) (by omega) (fun N' H' => hp N' f2 H' hu)
end
