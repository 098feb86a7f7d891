/-! the start; what holds between the two -/
def T0 : AT := (0, 0, (fun _ => true), (fun i => 1111 * (i + 1)), (fun _ _ => 0), (fun _ _ => 0), (fun _ => 0), (fun _ _ => 0), (fun _ => nM), (fun _ => nM), nM, (fun _ => nI 0))
theorem AV_0 : AV T0 g0 := by
  refine ⟨by decide, by decide, ?_, ?_, ?_, ?_, ?_, ?_⟩
  · intro i hi
    show 1111 * (i + 1) < 10000
    omega
  · intro r p hr; exact absurd hr (Nat.not_lt_zero _)
  · intro r p hr; exact absurd hr (Nat.not_lt_zero _)
  · intro r hr; exact absurd hr (Nat.not_lt_zero _)
  · intro j hj; exact absurd hj (Nat.not_lt_zero _)
  · intro h hh; exact Or.inl rfl
theorem J_fill {n : Nat} (hn : n < 2147483648) {f : Nat → Int32} {x : Int32} {post : (Nat → Int32) → Prop} (hp : ∀ h, (∀ j, j < n → h j = x) → post h) : wp_J7_fill_53178 n f x post := by
  unfold wp_J7_fill_53178
  rw [z0]
  refine lpnB n (fun j h => ∀ k, k < j → h k = x) ?_ ?_ (Nat.zero_le _) (fun k hk => absurd hk (Nat.not_lt_zero _))
  · intro K j h hj hP hk
    simp (disch := omega) only [jn, Nat.reduceAdd, Nat.reduceSub, Nat.reduceMul, z0, z1, z2, z3, z4, z5, z6, z7, z8, z9, z10, z12, z16, z18, z24, z31, z33, z48, z49, z51, z53, z55, z57, z59, z60, z61, z63, z66, z97, z99, z111, z114, z115, z116, z118, z122, z126, z255, z854, z1000, z1111, z7143, z9999, z10000, zM, zMn, nI_add, pk_mul, zsub, zlt_t, zlt_f, zle_t, zle_f, zeq_t, zeq_f, zeM1, zeM2, zeM3, zltM, zleM, nI_clamp, zin, false_or, or_false, true_and, and_true, false_and, and_false, not_true_eq_false, not_false_eq_true, true_imp_iff, false_imp_iff, implies_true, if_true, if_false]
    refine hk _ (fun k hk2 => ?_)
    by_cases e : k = j
    · rw [upd_t e]
    · rw [upd_f e]; exact hP k (by omega)
  · intro K h hP
    simp (disch := omega) only [jn, Nat.reduceAdd, Nat.reduceSub, Nat.reduceMul, z0, z1, z2, z3, z4, z5, z6, z7, z8, z9, z10, z12, z16, z18, z24, z31, z33, z48, z49, z51, z53, z55, z57, z59, z60, z61, z63, z66, z97, z99, z111, z114, z115, z116, z118, z122, z126, z255, z854, z1000, z1111, z7143, z9999, z10000, zM, zMn, nI_add, pk_mul, zsub, zlt_t, zlt_f, zle_t, zle_f, zeq_t, zeq_f, zeM1, zeM2, zeM3, zltM, zleM, nI_clamp, zin, false_or, or_false, true_and, and_true, false_and, and_false, not_true_eq_false, not_false_eq_true, true_imp_iff, false_imp_iff, implies_true, if_true, if_false]
    exact hp h hP
theorem X2_init {post : St → Prop} (hp : ∀ u, CR u T0 g0 → post u) : wp_X2_init post := by
  unfold wp_X2_init
  rw [z0]
  refine lpnB 8 (fun j h => ∀ k, k < j → h k = nI (1111 * (k + 1))) ?_ ?_ (by omega) (fun k hk => absurd hk (Nat.not_lt_zero _))
  · intro K j h hj hP hk
    simp (disch := omega) only [jn, Nat.reduceAdd, Nat.reduceSub, Nat.reduceMul, z0, z1, z2, z3, z4, z5, z6, z7, z8, z9, z10, z12, z16, z18, z24, z31, z33, z48, z49, z51, z53, z55, z57, z59, z60, z61, z63, z66, z97, z99, z111, z114, z115, z116, z118, z122, z126, z255, z854, z1000, z1111, z7143, z9999, z10000, zM, zMn, nI_add, pk_mul, zsub, zlt_t, zlt_f, zle_t, zle_f, zeq_t, zeq_f, zeM1, zeM2, zeM3, zltM, zleM, nI_clamp, zin, false_or, or_false, true_and, and_true, false_and, and_false, not_true_eq_false, not_false_eq_true, true_imp_iff, false_imp_iff, implies_true, if_true, if_false]
    refine hk _ (fun k hk2 => ?_)
    by_cases e : k = j
    · rw [upd_t e, e]
    · rw [upd_f e]; exact hP k (by omega)
  · intro K h hP
    simp (disch := omega) only [jn, Nat.reduceAdd, Nat.reduceSub, Nat.reduceMul, z0, z1, z2, z3, z4, z5, z6, z7, z8, z9, z10, z12, z16, z18, z24, z31, z33, z48, z49, z51, z53, z55, z57, z59, z60, z61, z63, z66, z97, z99, z111, z114, z115, z116, z118, z122, z126, z255, z854, z1000, z1111, z7143, z9999, z10000, zM, zMn, nI_add, pk_mul, zsub, zlt_t, zlt_f, zle_t, zle_f, zeq_t, zeq_f, zeM1, zeM2, zeM3, zltM, zleM, nI_clamp, zin, false_or, or_false, true_and, and_true, false_and, and_false, not_true_eq_false, not_false_eq_true, true_imp_iff, false_imp_iff, implies_true, if_true, if_false]
    refine J_fill (by decide) (fun h1 e1 => ?_)
    refine J_fill (by decide) (fun h2 e2 => ?_)
    refine hp _ ⟨rfl, rfl, ?_, hP, ?_, ?_, ?_, ?_, e1, e2, rfl, fun k hk => rfl⟩
    · intro i hi
      show bt (nI 255) i = true
      have := b_255 i
      rw [decide_eq_true hi] at this
      exact this
    · intro r p hr; exact absurd hr (Nat.not_lt_zero _)
    · intro r p hr; exact absurd hr (Nat.not_lt_zero _)
    · intro r hr; exact absurd hr (Nat.not_lt_zero _)
    · intro j hj; exact absurd hj (Nat.not_lt_zero _)
theorem X4_init {post : Md → Prop} (hp : ∀ v : Md, RR v.2.1 T0 g0 → v.2.2.1 = nI 0 → v.2.2.2.2.1 = nI 0 → post v) : wp_X4_init post := by
  unfold wp_X4_init
  refine ⟨by rw [z2, zin (by decide) (by decide)]; exact trivial, ?_⟩
  rw [z0]
  refine lpnB 8 (fun j h => (∀ k, k < j → h (8 + k) = nI 1) ∧ (∀ k, k < j → h (16 + k) = nI (1111 * (k + 1))) ∧ h 2 = nM ∧ h 0 = nI 0 ∧ h 1 = nI 0 ∧ (∀ k, k < 5 → h (3 + k) = nI 0)) ?_ ?_ (by omega) ?_
  · rintro K j h hj ⟨p1, p2, p3, p4, p5, p6⟩ hk
    simp (disch := omega) only [jn, Nat.reduceAdd, Nat.reduceSub, Nat.reduceMul, z0, z1, z2, z3, z4, z5, z6, z7, z8, z9, z10, z12, z16, z18, z24, z31, z33, z48, z49, z51, z53, z55, z57, z59, z60, z61, z63, z66, z97, z99, z111, z114, z115, z116, z118, z122, z126, z255, z854, z1000, z1111, z7143, z9999, z10000, zM, zMn, nI_add, pk_mul, zsub, zlt_t, zlt_f, zle_t, zle_f, zeq_t, zeq_f, zeM1, zeM2, zeM3, zltM, zleM, nI_clamp, zin, false_or, or_false, true_and, and_true, false_and, and_false, not_true_eq_false, not_false_eq_true, true_imp_iff, false_imp_iff, implies_true, if_true, if_false]
    refine hk _ ⟨?_, ?_, ?_, ?_, ?_, ?_⟩
    · intro k hk2
      by_cases e : k = j
      · subst e; simp (disch := omega) only [upd_t, upd_f]
      · simp (disch := omega) only [upd_f]; exact p1 k (by omega)
    · intro k hk2
      by_cases e : k = j
      · subst e; simp (disch := omega) only [upd_t, upd_f]
      · simp (disch := omega) only [upd_f]; exact p2 k (by omega)
    · simp (disch := omega) only [upd_f]; exact p3
    · simp (disch := omega) only [upd_f]; exact p4
    · simp (disch := omega) only [upd_f]; exact p5
    · intro k hk2
      simp (disch := omega) only [upd_f]; exact p6 k hk2
  · rintro K h ⟨p1, p2, p3, p4, p5, p6⟩
    simp (disch := omega) only [jn, Nat.reduceAdd, Nat.reduceSub, Nat.reduceMul, z0, z1, z2, z3, z4, z5, z6, z7, z8, z9, z10, z12, z16, z18, z24, z31, z33, z48, z49, z51, z53, z55, z57, z59, z60, z61, z63, z66, z97, z99, z111, z114, z115, z116, z118, z122, z126, z255, z854, z1000, z1111, z7143, z9999, z10000, zM, zMn, nI_add, pk_mul, zsub, zlt_t, zlt_f, zle_t, zle_f, zeq_t, zeq_f, zeM1, zeM2, zeM3, zltM, zleM, nI_clamp, zin, false_or, or_false, true_and, and_true, false_and, and_false, not_true_eq_false, not_false_eq_true, true_imp_iff, false_imp_iff, implies_true, if_true, if_false]
    refine lpnB 4 (fun j f => (∀ k, k < j → f (114 + k) = nM) ∧ (∀ k, k < j → f (118 + k) = nM) ∧ (∀ k, k < 114 → f k = h k)) ?_ ?_ (by omega) ⟨fun k hk => absurd hk (Nat.not_lt_zero _), fun k hk => absurd hk (Nat.not_lt_zero _), fun k _ => rfl⟩
    · rintro K2 j f hj ⟨q1, q2, q3⟩ hk
      simp (disch := omega) only [jn, Nat.reduceAdd, Nat.reduceSub, Nat.reduceMul, z0, z1, z2, z3, z4, z5, z6, z7, z8, z9, z10, z12, z16, z18, z24, z31, z33, z48, z49, z51, z53, z55, z57, z59, z60, z61, z63, z66, z97, z99, z111, z114, z115, z116, z118, z122, z126, z255, z854, z1000, z1111, z7143, z9999, z10000, zM, zMn, nI_add, pk_mul, zsub, zlt_t, zlt_f, zle_t, zle_f, zeq_t, zeq_f, zeM1, zeM2, zeM3, zltM, zleM, nI_clamp, zin, false_or, or_false, true_and, and_true, false_and, and_false, not_true_eq_false, not_false_eq_true, true_imp_iff, false_imp_iff, implies_true, if_true, if_false]
      refine hk _ ⟨?_, ?_, ?_⟩
      · intro k hk2
        by_cases e : k = j
        · subst e; simp (disch := omega) only [upd_t, upd_f]
        · simp (disch := omega) only [upd_f]; exact q1 k (by omega)
      · intro k hk2
        by_cases e : k = j
        · subst e; simp (disch := omega) only [upd_t, upd_f]
        · simp (disch := omega) only [upd_f]; exact q2 k (by omega)
      · intro k hk2
        simp (disch := omega) only [upd_f]; exact q3 k hk2
    · rintro K2 f ⟨q1, q2, q3⟩
      simp (disch := omega) only [jn, Nat.reduceAdd, Nat.reduceSub, Nat.reduceMul, z0, z1, z2, z3, z4, z5, z6, z7, z8, z9, z10, z12, z16, z18, z24, z31, z33, z48, z49, z51, z53, z55, z57, z59, z60, z61, z63, z66, z97, z99, z111, z114, z115, z116, z118, z122, z126, z255, z854, z1000, z1111, z7143, z9999, z10000, zM, zMn, nI_add, pk_mul, zsub, zlt_t, zlt_f, zle_t, zle_f, zeq_t, zeq_f, zeM1, zeM2, zeM3, zltM, zleM, nI_clamp, zin, false_or, or_false, true_and, and_true, false_and, and_false, not_true_eq_false, not_false_eq_true, true_imp_iff, false_imp_iff, implies_true, if_true, if_false]
      refine hp _ ⟨?_, ?_, ?_, ?_, ?_, ?_, ?_, ?_, ?_, ?_, q1, q2⟩ rfl rfl
      · exact (q3 0 (by omega)).trans p4
      · exact (q3 1 (by omega)).trans p5
      · exact (q3 2 (by omega)).trans p3
      · intro k hk; exact (q3 _ (by omega)).trans (p6 k hk)
      · intro k hk; exact (q3 _ (by omega)).trans (p1 k hk)
      · intro k hk; exact (q3 _ (by omega)).trans (p2 k hk)
      · intro r p hr; exact absurd hr (Nat.not_lt_zero _)
      · intro r p hr; exact absurd hr (Nat.not_lt_zero _)
      · intro r hr; exact absurd hr (Nat.not_lt_zero _)
      · intro j hj; exact absurd hj (Nat.not_lt_zero _)
  · refine ⟨fun k hk => absurd hk (Nat.not_lt_zero _), fun k hk => absurd hk (Nat.not_lt_zero _), ?_, ?_, ?_, ?_⟩
    · rfl
    · rfl
    · rfl
    · intro k hk
      simp only [z2]
      rw [nI_clamp (by decide), upd_f (by omega)]
def TX (t : Ot) (v : Md) (L : Nat) : Prop := L ≤ 60 ∧ t.2 = nI L ∧ v.2.2.2.2.1 = nI L ∧ ∀ i, i < L → ∃ c, 33 ≤ c ∧ c ≤ 126 ∧ t.1 i = nI c ∧ v.2.2.2.1 i = nI c
def ST (U : St) (S : Sv) (v : Md) (T : AT) (z nx : Nat) (Ts : Nat → AT) : Prop := AV T g0 ∧ CR U T g0 ∧ RR v.2.1 T g0 ∧ z ≤ 6 ∧ nx < 6 ∧ S.2.2 = nI z ∧ S.2.1 = nI nx ∧ v.2.2.1 = nI z ∧ SR S v.2.1 z nx Ts
def Inv (N : Ne) (v : Md) : Prop := (∃ T z nx Ts, ST N.1 N.2.2 v T z nx Ts) ∧ ∃ L, TX N.2.1 v L
theorem Inv_0 : wp_X2_init (fun u => ∀ S : Nat → St, wp_X0_init (fun t => wp_X4_init (fun M => Inv (u, t, S, 0, 0) M))) := by
  refine X2_init (fun u hu S => ?_)
  unfold wp_X0_init
  refine X4_init (fun v h1 h2 h3 => ?_)
  exact ⟨⟨T0, 0, 0, fun _ => T0, AV_0, hu, h1, by omega, by omega, rfl, rfl, h2, fun j hj => absurd hj (Nat.not_lt_zero _)⟩, 0, by omega, rfl, h3, fun i hi => absurd hi (Nat.not_lt_zero _)⟩
theorem Inv_w : wp_X2_init (fun _ => True) := X2_init (fun _ _ => trivial)
