/-! the calls that change nothing -/
theorem zcmp {a : Int64} : (lg_cmp a a = nI 0) = True := by
  unfold lg_cmp
  rw [if_neg (by simp), if_pos rfl]
  exact eq_true rfl
theorem rng {x : Int32} {b : Nat} (hb : b < 2147483648) (h : ¬ x < nI 0 ∧ ¬ nI b < x) : ∃ i, i ≤ b ∧ x = nI i := by
  obtain ⟨j, h1, h2⟩ := nI_of (x := x) h.1
  refine ⟨j, ?_, h2⟩
  have h3 := h.2
  rw [h2] at h3
  rcases Nat.lt_or_ge b j with q | q
  · exact absurd (nI_lt q (by omega)) h3
  · exact q
theorem rngS {x : Int32} {n : Nat} (hn : n < 2147483648) (h : ¬ x < nI 0 ∧ ¬ (nI n - nI 1) < x) : ∃ i, i < n ∧ x = nI i := by
  cases n with
  | zero =>
    obtain ⟨j, h1, h2⟩ := nI_of (x := x) h.1
    have h3 := h.2
    rw [h2] at h3
    exact absurd (show (nI 0 - nI 1) < nI j from by rw [show nI 0 - nI 1 = nM from rfl, zltM (by omega)]; exact trivial) h3
  | succ n =>
    rw [zsub (by omega)] at h
    obtain ⟨i, h1, h2⟩ := rng (by omega) h
    exact ⟨i, by omega, h2⟩
theorem rngS' {n i : Nat} (hn : n < 2147483648) (h : i < n) : decide (¬ nI i < nI 0 ∧ ¬ (nI n - nI 1) < nI i) = true := by
  rw [zsub (by omega)]
  simp (disch := omega) only [zlt_f, not_false_eq_true, and_self, decide_true]
section
variable {xs : Nat → Int32} {i : Int32} {N : Ne} {O : Nat → Int64}
end

