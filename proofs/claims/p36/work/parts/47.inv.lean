/-! the start; what holds between the two -/
def T0 : AT := (0, 0, (fun _ => true), (fun i => 1111 * (i + 1)), (fun _ _ => 0), (fun _ _ => 0), (fun _ => 0), (fun _ _ => 0), (fun _ => nM), (fun _ => nM), nM, (fun _ => nI 0))
theorem AV_0 : AV T0 g0 := by
  refine ⟨by decide, by decide, ?_, ?_, ?_, ?_, ?_, ?_⟩
  · intro i hi
    show 1111 * (i + 1) < 10000
    omega
  · intro r p hr; exact absurd hr (Nat.not_lt_zero _)
  · intro r p hr; exact absurd hr (Nat.not_lt_zero _)
  · intro r hr; exact absurd hr (Nat.not_lt_zero _)
  · intro j hj; exact absurd hj (Nat.not_lt_zero _)
  · intro h hh; exact Or.inl rfl
theorem J_fill {n : Nat} (hn : n < 2147483648) {f : Nat → Int32} {x : Int32} {post : (Nat → Int32) → Prop} (hp : ∀ h, (∀ j, j < n → h j = x) → post h) : wp_J7_fill_53178 n f x post := by
  unfold wp_J7_fill_53178
  rw [z0]
  refine lpnB n (fun j h => ∀ k, k < j → h k = x) ?_ ?_ (Nat.zero_le _) (fun k hk => absurd hk (Nat.not_lt_zero _))
  · intro K j h hj hP hk
    simp (disch := omega) only [jn, Nat.reduceAdd, Nat.reduceSub, Nat.reduceMul, z0, z1, z2, z3, z4, z5, z6, z7, z8, z9, z10, z12, z16, z18, z24, z31, z33, z48, z49, z51, z53, z55, z57, z59, z60, z61, z63, z66, z97, z99, z111, z114, z115, z116, z118, z122, z126, z255, z854, z1000, z1111, z7143, z9999, z10000, zM, zMn, nI_add, pk_mul, zsub, zlt_t, zlt_f, zle_t, zle_f, zeq_t, zeq_f, zeM1, zeM2, zeM3, zltM, zleM, nI_clamp, zin, false_or, or_false, true_and, and_true, false_and, and_false, not_true_eq_false, not_false_eq_true, true_imp_iff, false_imp_iff, implies_true, if_true, if_false]
    refine hk _ (fun k hk2 => ?_)
    by_cases e : k = j
    · rw [upd_t e]
    · rw [upd_f e]; exact hP k (by omega)
  · intro K h hP
    simp (disch := omega) only [jn, Nat.reduceAdd, Nat.reduceSub, Nat.reduceMul, z0, z1, z2, z3, z4, z5, z6, z7, z8, z9, z10, z12, z16, z18, z24, z31, z33, z48, z49, z51, z53, z55, z57, z59, z60, z61, z63, z66, z97, z99, z111, z114, z115, z116, z118, z122, z126, z255, z854, z1000, z1111, z7143, z9999, z10000, zM, zMn, nI_add, pk_mul, zsub, zlt_t, zlt_f, zle_t, zle_f, zeq_t, zeq_f, zeM1, zeM2, zeM3, zltM, zleM, nI_clamp, zin, false_or, or_false, true_and, and_true, false_and, and_false, not_true_eq_false, not_false_eq_true, true_imp_iff, false_imp_iff, implies_true, if_true, if_false]
    exact hp h hP
theorem X2_init {post : St → Prop} (hp : ∀ u, CR u T0 g0 → post u) : wp_X2_init post := by
  unfold wp_X2_init
  rw [z0]
  refine lpnB 8 (fun j h => ∀ k, k < j → h k = nI (1111 * (k + 1))) ?_ ?_ (by omega) (fun k hk => absurd hk (Nat.not_lt_zero _))
  · intro K j h hj hP hk
    simp (disch := omega) only [jn, Nat.reduceAdd, Nat.reduceSub, Nat.reduceMul, z0, z1, z2, z3, z4, z5, z6, z7, z8, z9, z10, z12, z16, z18, z24, z31, z33, z48, z49, z51, z53, z55, z57, z59, z60, z61, z63, z66, z97, z99, z111, z114, z115, z116, z118, z122, z126, z255, z854, z1000, z1111, z7143, z9999, z10000, zM, zMn, nI_add, pk_mul, zsub, zlt_t, zlt_f, zle_t, zle_f, zeq_t, zeq_f, zeM1, zeM2, zeM3, zltM, zleM, nI_clamp, zin, false_or, or_false, true_and, and_true, false_and, and_false, not_true_eq_false, not_false_eq_true, true_imp_iff, false_imp_iff, implies_true, if_true, if_false]
    refine hk _ (fun k hk2 => ?_)
    by_cases e : k = j
    · rw [upd_t e, e]
    · rw [upd_f e]; exact hP k (by omega)
  · intro K h hP
    simp (disch := omega) only [jn, Nat.reduceAdd, Nat.reduceSub, Nat.reduceMul, z0, z1, z2, z3, z4, z5, z6, z7, z8, z9, z10, z12, z16, z18, z24, z31, z33, z48, z49, z51, z53, z55, z57, z59, z60, z61, z63, z66, z97, z99, z111, z114, z115, z116, z118, z122, z126, z255, z854, z1000, z1111, z7143, z9999, z10000, zM, zMn, nI_add, pk_mul, zsub, zlt_t, zlt_f, zle_t, zle_f, zeq_t, zeq_f, zeM1, zeM2, zeM3, zltM, zleM, nI_clamp, zin, false_or, or_false, true_and, and_true, false_and, and_false, not_true_eq_false, not_false_eq_true, true_imp_iff, false_imp_iff, implies_true, if_true, if_false]
    refine J_fill (by decide) (fun h1 e1 => ?_)
    refine J_fill (by decide) (fun h2 e2 => ?_)
    refine hp _ ⟨rfl, rfl, ?_, hP, ?_, ?_, ?_, ?_, e1, e2, rfl, fun k hk => rfl⟩
    · intro i hi
      show bt (nI 255) i = true
      have := b_255 i
      rw [decide_eq_true hi] at this
      exact this
    · intro r p hr; exact absurd hr (Nat.not_lt_zero _)
    · intro r p hr; exact absurd hr (Nat.not_lt_zero _)
    · intro r hr; exact absurd hr (Nat.not_lt_zero _)
    · intro j hj; exact absurd hj (Nat.not_lt_zero _)
theorem Inv_w : wp_X2_init (fun _ => True) := X2_init (fun _ _ => trivial)

