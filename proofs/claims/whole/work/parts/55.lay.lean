/-! laying a road -/
theorem jn_v {A : Type} {K : A → Prop} {B : (A → Prop) → Prop} (x : A) (hB : ∀ J : A → Prop, J x → B J) (hK : K x) : jn K B := hB K hK
theorem jn_p {K : Prop} {B : Prop → Prop} (hB : ∀ J : Prop, J → B J) (hK : K) : jn K B := hB K hK
section
variable {xs : Nat → Int32} {i : Int32} {N : Ne} {O : Nat → Int64} {M : Md} {T : AT}
theorem X3_lay_out {p1 p2 p3 p4 : Int32} (hout : ¬ ((¬ p1 < nI 0 ∧ ¬ nI 7 < p1) ∧ (¬ p2 < nI 0 ∧ ¬ nI 7 < p2) ∧ (¬ p3 < nI 0 ∧ ¬ nI 7 < p3) ∧ (¬ p4 < nI 0 ∧ ¬ nI 3 < p4))) {post : Int32 → Prop} (hp : post (nI 1)) : wp_X3_layFault N p1 p2 p3 p4 post := by
  unfold wp_X3_layFault wp_X3_innFault wp_X3_hallFault
  simp only [X3_between, z0, z7, z3, z1]
  by_cases h1 : ¬ p1 < nI 0 ∧ ¬ nI 7 < p1
  · by_cases h2 : ¬ p2 < nI 0 ∧ ¬ nI 7 < p2
    · by_cases h3 : ¬ p3 < nI 0 ∧ ¬ nI 7 < p3
      · have h4 : ¬ (¬ p4 < nI 0 ∧ ¬ nI 3 < p4) := fun h4 => hout ⟨h1, h2, h3, h4⟩
        rw [decide_eq_true h1, decide_eq_true h2, decide_eq_true h3, decide_eq_false h4, bI_t, bI_f]
        have e : (nI 1 = nI 0) = False := zeq_f (by decide) (by decide) (by decide)
        have e2 : (nI 0 = nI 0) = True := eq_true rfl
        simp only [e, e2, not_false_eq_true, not_true_eq_false, true_imp_iff, false_imp_iff, and_true, true_and]
        exact hp
      · rw [decide_eq_true h1, decide_eq_true h2, decide_eq_false h3, bI_t, bI_f]
        have e : (nI 1 = nI 0) = False := zeq_f (by decide) (by decide) (by decide)
        have e2 : (nI 0 = nI 0) = True := eq_true rfl
        simp only [e, e2, not_false_eq_true, not_true_eq_false, true_imp_iff, false_imp_iff, and_true, true_and]
        exact hp
    · rw [decide_eq_true h1, decide_eq_false h2, bI_t, bI_f]
      have e : (nI 1 = nI 0) = False := zeq_f (by decide) (by decide) (by decide)
      have e2 : (nI 0 = nI 0) = True := eq_true rfl
      simp only [e, e2, not_false_eq_true, not_true_eq_false, true_imp_iff, false_imp_iff, and_true, true_and]
      exact hp
  · rw [decide_eq_false h1, bI_f]
    have e : (nI 1 = nI 0) = False := zeq_f (by decide) (by decide) (by decide)
    have e2 : (nI 0 = nI 0) = True := eq_true rfl
    simp only [e, e2, not_false_eq_true, not_true_eq_false, true_imp_iff, false_imp_iff, and_true, true_and]
    exact hp
end
