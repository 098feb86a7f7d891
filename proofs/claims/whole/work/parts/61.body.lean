section
variable {x0 : Int32} {f : Nat → Int32} {sv : Int32} {tx : Nat → Int32} {ln le fi se ti fo : Int32} {hs : Int64} {w : Nat → Nat} {L : Nat}
theorem bd1 {a : Nat} : bdV w a 1 = w (a + 3) - 48 := by
  show 10 * 0 + (w (a + 3 + 0) - 48) = _
  rw [Nat.mul_zero, Nat.zero_add, Nat.add_zero]
theorem bdS {a k : Nat} : bdV w a (k + 1) = 10 * bdV w a k + (w (a + 3 + k) - 48) := rfl
/-- the digits of a body, j + 1 of them: what they are worth -/
def DG (w : Nat → Nat) (a j : Nat) : Prop := (∀ p, 3 ≤ p → p < 4 + j → 48 ≤ w (a + p) ∧ w (a + p) ≤ 57) ∧ (1 ≤ j → w (a + 3) ≠ 48)
theorem DG_b {a : Nat} : ∀ j, DG w a j → bdV w a (j + 1) < 10 ^ (j + 1) ∧ (w (a + 3) ≠ 48 → 10 ^ j ≤ bdV w a (j + 1))
  | 0, h => by
    have := h.1 3 (by omega) (by omega)
    rw [bd1]
    exact ⟨by omega, fun _ => by omega⟩
  | j + 1, h => by
    have h1 := h.1 (3 + (j + 1)) (by omega) (by omega)
    have h2 := DG_b j ⟨fun p q1 q2 => h.1 p q1 (by omega), fun _ => h.2 (by omega)⟩
    rw [bdS, show a + 3 + (j + 1) = a + (3 + (j + 1)) by omega, Nat.pow_succ, Nat.pow_succ]
    rw [Nat.pow_succ] at h2
    exact ⟨by omega, fun q => by have := h2.2 q; omega⟩
theorem bd_y {a p : Nat} (hp : 3 ≤ p) (hp6 : p ≤ 6) (r : 48 ≤ w (a + p) ∧ w (a + p) ≤ 57) (z : 4 ≤ p → w (a + 3) ≠ 48) : bdB w a p = true := by
  unfold bdB dgB
  rw [if_neg (by omega), decide_eq_true r, decide_eq_true ⟨hp6, fun q => z (by omega) q.2⟩]
  rfl
theorem bd_n {a p : Nat} (hp : 3 ≤ p) (r : ¬ (48 ≤ w (a + p) ∧ w (a + p) ≤ 57) ∨ 6 < p ∨ (3 < p ∧ w (a + 3) = 48)) : bdB w a p = false := by
  unfold bdB dgB
  rw [if_neg (by omega)]
  rcases r with r | r | r
  · rw [decide_eq_false r, Bool.and_false]
  · rw [decide_eq_false (fun q => by have := q.1; omega)]; rfl
  · rw [decide_eq_false (fun q => q.2 r)]; rfl
theorem X4_body (H : MW tx ln w L) {a : Nat} (ha : a + 2 ≤ L) {post : Int32 → Md → Prop} (hp : ∀ (q : Nat) (ok : Bool) (se : Int32), 2 ≤ q → a + q ≤ L → (∀ p, 2 ≤ p → p < q → bdB w a p = true ∧ w (a + p) ≠ 59) → ok = decide (4 ≤ q) → (a + q < L → bdB w a q = false) → (ok = true → se = nI (bdV w a (q - 3))) → post (bI ok) (x0, f, sv, tx, ln, nI (a + q), le, fi, se, ti, fo, hs)) : wp_X4_readsBody (x0, f, sv, tx, ln, nI (a + 2), le, fi, se, ti, fo, hs) post := by
  have h60 := H.1
  have l2 : w (a + 2) ≠ 0 → a + 2 < L := m_lt H
  have l3 : w (a + 3) ≠ 0 → a + 3 < L := m_lt H
  unfold wp_X4_readsBody
  simp only [M_thrown, M_s, M_saved, M_text, M_length, M_at, M_letter, M_first, M_second, M_third, M_fourth, M_hash, sM_thrown, sM_saved, sM_length, sM_at, sM_letter, sM_first, sM_second, sM_third, sM_fourth, sM_hash, aM_s, wM_s, aM_text, wM_text, z10, z0, z1, z3, z5, z7, z9, z48, z57, z59, z61, z97, z99, z111, z114, z115, z116, z1000, zM, zMn]
  have bad : ∀ q, 2 ≤ q → q ≤ 3 → a + q ≤ L → (∀ p, 2 ≤ p → p < q → bdB w a p = true ∧ w (a + p) ≠ 59) → bdB w a q = false → post (nI 0) (x0, f, sv, tx, ln, nI (a + q), le, fi, nM, ti, fo, hs) := fun q h1 h2 h3 h4 h5 => hp q false nM h1 h3 h4 (by rw [decide_eq_false (by omega)]) (fun _ => h5) (fun n => Bool.noConfusion n)
  by_cases c2 : w (a + 2) = 61
  · rw [X4_tk_y H (by omega) c2]
    have b2 : bdB w a 2 = true ∧ w (a + 2) ≠ 59 := ⟨by unfold bdB; rw [if_pos rfl]; exact decide_eq_true c2, by omega⟩
    unfold jn
    refine ⟨fun n => absurd n (by decide), fun _ => ?_⟩
    by_cases c3 : 48 ≤ w (a + 3) ∧ w (a + 3) ≤ 57
    · rw [X4_fig_y H (by omega) (by omega) (show 48 + 0 ≤ w (a + 2 + 1) ∧ w (a + 2 + 1) ≤ 48 + 9 from c3)]
      have stop : ∀ j, j ≤ 3 → a + (4 + j) ≤ L → DG w a j → (a + (4 + j) < L → bdB w a (4 + j) = false) → (nI (bdV w a (j + 1)) = nM → post (nI 0) (x0, f, sv, tx, ln, nI (a + (4 + j)), le, fi, nI (bdV w a (j + 1)), ti, fo, hs)) ∧ (¬ nI (bdV w a (j + 1)) = nM → post (nI 1) (x0, f, sv, tx, ln, nI (a + (4 + j)), le, fi, nI (bdV w a (j + 1)), ti, fo, hs)) := by
        intro j hj hL hD hno
        have hb := (DG_b j hD).1
        have hb2 : 10 ^ (j + 1) ≤ 10 ^ 4 := Nat.pow_le_pow_right (by decide) (by omega)
        refine ⟨fun n => absurd n (by rw [zeM1 (by omega)]; exact not_false), fun _ => ?_⟩
        refine hp (4 + j) true _ (by omega) hL (fun p h1 h2 => ?_) (by rw [decide_eq_true (by omega)]) hno (fun _ => by rw [show 4 + j - 3 = j + 1 by omega])
        by_cases e : p = 2
        · rw [e]; exact b2
        · have := hD.1 p (by omega) (by omega)
          exact ⟨bd_y (by omega) (by omega) this (fun q => hD.2 (by omega)), by omega⟩
      refine lpnS 3 (fun j u => u = (x0, f, sv, tx, ln, nI (a + (4 + j)), le, fi, nI (bdV w a (j + 1)), ti, fo, hs) ∧ a + (4 + j) ≤ L ∧ DG w a j) ?_ ?_ (j := 0) (by omega) ⟨?_, by omega, ?_⟩
      · rintro K j u hj ⟨rfl, hL, hD⟩ hk
        have hb := DG_b j hD
        have hb2 : 10 ^ (j + 1) ≤ 10 ^ 3 := Nat.pow_le_pow_right (by decide) (by omega)
        have hdn := stop j (by omega) hL hD
        have hw4 := m_le H (a + (4 + j))
        by_cases z : bdV w a (j + 1) = 0
        · have h48 : w (a + 3) = 48 := by
            rcases Nat.decEq (w (a + 3)) 48 with q | q
            · have q1 := hb.2 q
              have q2 : 0 < 10 ^ j := Nat.pow_pos (by decide)
              omega
            · exact q
          exact ⟨fun _ => hdn (fun _ => bd_n (by omega) (Or.inr (Or.inr ⟨by omega, h48⟩))), fun n => absurd (nI_le (by omega) (by decide)) n⟩
        have ne : w (a + 3) ≠ 48 := by
          intro q
          by_cases j0 : j = 0
          · subst j0
            apply z
            rw [bd1, q]
          · exact hD.2 (by omega) q
        refine ⟨fun n => absurd n (nI_ge (by omega) (by omega)), fun _ => ⟨fun n => absurd n (nI_ge (by omega) (by omega)), fun _ => ?_⟩⟩
        dsimp only
        rw [X4_sign H (by omega), X4_in, btw (by decide) (by decide) (by omega)]
        by_cases c : 48 ≤ w (a + (4 + j)) ∧ w (a + (4 + j)) ≤ 57
        · have l4 : a + (4 + j) < L := m_lt H (by omega)
          have ed : dgB 48 57 (w (a + (4 + j))) = true := decide_eq_true c
          rw [ed]
          refine ⟨fun n => absurd n (by decide), fun _ => ?_⟩
          rw [X4_fig_y H (by omega) (by omega) (show 48 + 0 ≤ w (a + (4 + j)) ∧ w (a + (4 + j)) ≤ 48 + 9 from c)]
          have e : nI 10 * nI (bdV w a (j + 1)) + nI (w (a + (4 + j)) - 48) = nI (bdV w a (j + 1 + 1)) := by
            rw [pk_mul, nI_add, bdS (k := j + 1), show a + 3 + (j + 1) = a + (4 + j) by omega]
          have := hk (x0, f, sv, tx, ln, nI (a + (4 + (j + 1))), le, fi, nI (bdV w a (j + 1 + 1)), ti, fo, hs) ⟨rfl, by omega, fun p h1 h2 => by
            by_cases e : p = 4 + j
            · rw [e]; exact c
            · exact hD.1 p h1 (by omega), fun _ => ne⟩
          rw [← e] at this
          exact this
        · have ed : dgB 48 57 (w (a + (4 + j))) = false := decide_eq_false c
          rw [ed]
          exact ⟨fun _ => hdn (fun _ => bd_n (by omega) (Or.inl c)), fun n => absurd (by first | exact rfl | exact trivial) n⟩
      · rintro K u ⟨rfl, hL, hD⟩
        have hb := DG_b 3 hD
        have h3 := hb.2 (hD.2 (by omega))
        exact ⟨fun _ => stop 3 (by omega) hL hD (fun _ => bd_n (by omega) (Or.inr (Or.inl (by omega)))), fun _ => ⟨fun _ => stop 3 (by omega) hL hD (fun _ => bd_n (by omega) (Or.inr (Or.inl (by omega)))), fun n => absurd (nI_le (by omega) (by omega)) n⟩⟩
      · show (x0, f, sv, tx, ln, nI (a + 4), le, fi, nI (w (a + 3) - 48), ti, fo, hs) = (x0, f, sv, tx, ln, nI (a + 4), le, fi, nI (bdV w a 1), ti, fo, hs)
        rw [bd1]
      · refine ⟨fun p h1 h2 => ?_, fun q => by omega⟩
        obtain rfl : p = 3 := by omega
        exact c3
    · rw [X4_fig_n H (by omega) (by omega) (show ¬ (48 + 0 ≤ w (a + 2 + 1) ∧ w (a + 2 + 1) ≤ 48 + 9) from c3)]
      refine ⟨2, ?_⟩
      refine ⟨fun _ => ⟨fun _ => ?_, fun n => absurd (by first | exact rfl | exact trivial) n⟩, fun n => absurd (of_eq_true zleM0) n⟩
      refine bad 3 (by omega) (by omega) (by omega) (fun p h1 h2 => ?_) (bd_n (by omega) (Or.inl c3))
      obtain rfl : p = 2 := by omega
      exact b2
  · rw [X4_tk_n H (by omega) (by omega) c2]
    unfold jn
    refine ⟨fun _ => ?_, fun n => absurd (by first | exact rfl | exact trivial) n⟩
    refine ⟨2, ?_⟩
    refine ⟨fun _ => ⟨fun _ => ?_, fun n => absurd (by first | exact rfl | exact trivial) n⟩, fun n => absurd (of_eq_true zleM0) n⟩
    refine bad 2 (by omega) (by omega) ha (fun p h1 h2 => by omega) ?_
    unfold bdB
    rw [if_pos rfl, decide_eq_false c2]
end
