section
variable {x0 : Int32} {f : Nat → Int32} {sv : Int32} {tx : Nat → Int32} {ln le fi se ti fo : Int32} {hs : Int64} {w : Nat → Nat} {L : Nat}
theorem RO_0 (H : MW tx ln w L) {a : Nat} (ha : a ≤ L) (hs : sgB (w a) = false) : RO w L a 0 false := by
  refine ⟨ha, fun p hp => absurd hp (Nat.not_lt_zero _), ?_, fun _ => Or.inr hs⟩
  unfold enB
  split
  · rfl
  · split
    · rfl
    · split <;> rfl
theorem X4_order (H : MW tx ln w L) {a : Nat} (ha : a ≤ L) {post : Int32 → Md → Prop} (hp : ∀ (q : Nat) (ok : Bool) (fi se ti fo : Int32), RO w L a q ok → (ok = true → RF w a q fi se ti fo) → post (bI ok) (x0, f, sv, tx, ln, nI (a + q), nI (w a), fi, se, ti, fo, hs)) : wp_X4_readsOrder (x0, f, sv, tx, ln, nI a, le, fi, se, ti, fo, hs) post := by
  have h60 := H.1
  have hw0 := m_le H a
  have hw1 := m_le H (a + 1)
  have l0 : w a ≠ 0 → a < L := m_lt H
  have l1 : w (a + 1) ≠ 0 → a + 1 < L := m_lt H
  have hf0 : sgB (w a) = true → fiB w a 0 = true ∧ w (a + 0) ≠ 59 := fun h => ⟨fi_0 h, by
    have := of_decide_eq_true h
    rw [Nat.add_zero]
    omega⟩
  -- one figure: c, o, t
  have en2 : (w a = 99 ∨ w a = 111 ∨ w a = 116) → ∀ q, enB (w a) q = decide (q = 2) := by
    intro h q
    unfold enB
    rw [if_neg (by omega), if_neg (by omega), if_neg (by omega)]
  have pos2 : (w a = 99 ∨ w a = 111 ∨ w a = 116) → ∀ p, 2 ≤ p → fiB w a p = false ∨ w (a + p) = 59 := by
    intro h p h2
    by_cases h59 : w (a + p) = 59
    · exact Or.inr h59
    · left
      unfold fiB
      rw [if_neg (by omega), if_neg h59, if_neg (by omega), if_neg (by omega), if_neg (by omega), decide_eq_false (by omega), Bool.false_and, Bool.false_and]
      split <;> rfl
  have sg2 : (w a = 99 ∨ w a = 111 ∨ w a = 116) → sgB (w a) = true := fun h => decide_eq_true (by omega)
  have yes2 : (w a = 99 ∨ w a = 111 ∨ w a = 116) → w (a + 1) ≠ 59 → fiB w a 1 = true → a + 1 < L → ∀ se ti fo, post (nI 1) (x0, f, sv, tx, ln, nI (a + 2), nI (w a), nI (w (a + 1) - 48), se, ti, fo, hs) := by
    intro h h59 hfit hL se ti fo
    refine hp 2 true _ se ti fo ⟨by omega, fun p hp2 => ?_, ?_, fun _ => (pos2 h 2 (by omega)).symm⟩ (fun _ => ⟨fun q => absurd q (by omega), rfl, fun q => absurd q (by omega)⟩)
    · rcases (show p = 0 ∨ p = 1 by omega) with rfl | rfl
      · exact hf0 (sg2 h)
      · exact ⟨hfit, h59⟩
    · rw [en2 h] <;> rfl
  have no2 : (w a = 99 ∨ w a = 111 ∨ w a = 116) → (w (a + 1) = 59 ∨ fiB w a 1 = false) → ∀ fi se ti fo, post (nI 0) (x0, f, sv, tx, ln, nI (a + 1), nI (w a), fi, se, ti, fo, hs) := by
    intro h hno fi se ti fo
    refine hp 1 false fi se ti fo ⟨by have := l0 (by omega); omega, fun p hp2 => ?_, ?_, fun _ => hno⟩ (fun n => Bool.noConfusion n)
    · obtain rfl : p = 0 := by omega
      exact hf0 (sg2 h)
    · rw [en2 h] <;> rfl
  unfold wp_X4_readsOrder jn
  simp only [M_thrown, M_s, M_saved, M_text, M_length, M_at, M_letter, M_first, M_second, M_third, M_fourth, M_hash, sM_thrown, sM_saved, sM_length, sM_at, sM_letter, sM_first, sM_second, sM_third, sM_fourth, sM_hash, aM_s, wM_s, aM_text, wM_text, z0, z1, z3, z5, z7, z9, z48, z57, z59, z61, z97, z99, z111, z114, z115, z116, z1000, zM, zMn]
  rw [X4_sign H (by omega)]
  by_cases h114 : w a = 114
  · rw [X4_tk_y H (by omega) h114]
    refine ⟨fun n => absurd n (by decide), fun _ => ?_⟩
    exact X4_road H h114 hp
  rw [X4_tk_n H (by omega) (by decide) h114]
  refine ⟨fun _ => ?_, fun n => absurd (by first | exact rfl | exact trivial) n⟩
  -- a road or a hall, and a body
  have sb : ∀ (b : Nat), (w a = 115 ∧ b = 5 ∨ w a = 97 ∧ b = 3) → wp_X4_figure (x0, f, sv, tx, ln, nI (a + 1), nI (w a), fi, se, ti, fo, hs) (nI 0) (nI b) (fun r17 u18 => (r17 = nM → post (nI 0) (u18.1, u18.2.1, u18.2.2.1, u18.2.2.2.1, u18.2.2.2.2.1, u18.2.2.2.2.2.1, u18.2.2.2.2.2.2.1, r17, u18.2.2.2.2.2.2.2.2.1, u18.2.2.2.2.2.2.2.2.2.1, u18.2.2.2.2.2.2.2.2.2.2.1, u18.2.2.2.2.2.2.2.2.2.2.2)) ∧ (¬ r17 = nM → wp_X4_readsBody (u18.1, u18.2.1, u18.2.2.1, u18.2.2.2.1, u18.2.2.2.2.1, u18.2.2.2.2.2.1, u18.2.2.2.2.2.2.1, r17, u18.2.2.2.2.2.2.2.2.1, u18.2.2.2.2.2.2.2.2.2.1, u18.2.2.2.2.2.2.2.2.2.2.1, u18.2.2.2.2.2.2.2.2.2.2.2) (fun r20 u22 => (r20 = nI 0 → post (nI 0) u22) ∧ (¬ r20 = nI 0 → post (nI 1) u22)))) := by
    intro b hb
    have haL : a < L := l0 (by omega)
    have sg : sgB (w a) = true := decide_eq_true (by omega)
    have en : ∀ q, enB (w a) q = decide (4 ≤ q) := by
      intro q
      unfold enB
      rcases hb with ⟨h, -⟩ | ⟨h, -⟩
      · rw [if_neg (by omega), if_neg (by omega), if_pos h]
      · rw [if_pos h]
    have f1 : w (a + 1) ≠ 59 → fiB w a 1 = dgB 48 (48 + b) (w (a + 1)) := by
      intro h59
      unfold fiB
      rcases hb with ⟨h, rfl⟩ | ⟨h, rfl⟩
      · rw [if_neg (by omega), if_neg h59, if_neg (by omega), if_neg (by omega), if_pos h, if_pos rfl] <;> rfl
      · rw [if_neg (by omega), if_neg h59, if_pos h, if_pos rfl] <;> rfl
    have f2 : ∀ p, 2 ≤ p → w (a + p) ≠ 59 → fiB w a p = bdB w a p := by
      intro p h2 h59
      unfold fiB
      rcases hb with ⟨h, -⟩ | ⟨h, -⟩
      · rw [if_neg (by omega), if_neg h59, if_neg (by omega), if_neg (by omega), if_pos h, if_neg (by omega)]
      · rw [if_neg (by omega), if_neg h59, if_pos h, if_neg (by omega)]
    have hb10 : b < 10 := by omega
    by_cases c1 : 48 ≤ w (a + 1) ∧ w (a + 1) ≤ 48 + b
    · rw [X4_fig_y H (by omega) ⟨by omega, hb10⟩ (show 48 + 0 ≤ w (a + 1) ∧ w (a + 1) ≤ 48 + b from c1)]
      have a1L : a + 1 < L := l1 (by omega)
      have n59 : w (a + 1) ≠ 59 := by omega
      refine ⟨fun n => absurd n (by rw [zeM1 (by omega)]; exact not_false), fun _ => ?_⟩
      dsimp only
      refine X4_body H (a := a) (by omega) (fun q ok se h2 hL hfit hok hno hse => ?_)
      have fin : RO w L a q ok := by
        refine ⟨hL, fun p hp2 => ?_, by rw [en]; exact hok, fun hlt => ?_⟩
        · by_cases e0 : p = 0
          · rw [e0]; exact hf0 sg
          by_cases e1 : p = 1
          · rw [e1]; exact ⟨by rw [f1 n59]; exact decide_eq_true c1, n59⟩
          have := hfit p (by omega) hp2
          exact ⟨by rw [f2 p (by omega) this.2]; exact this.1, this.2⟩
        · by_cases h59 : w (a + q) = 59
          · exact Or.inl h59
          · exact Or.inr (by rw [f2 q h2 h59]; exact hno hlt)
      have rf : ok = true → RF w a q (nI (w (a + 1) - 48)) se ti fo := fun h => ⟨fun q => absurd q (by omega), rfl, fun _ => hse h⟩
      have main := hp q ok (nI (w (a + 1) - 48)) se ti fo fin rf
      cases ok
      · exact ⟨fun _ => main, fun n => absurd (by first | exact rfl | exact trivial) n⟩
      · exact ⟨fun n => absurd n (by decide), fun _ => main⟩
    · rw [X4_fig_n H (by omega) ⟨by omega, hb10⟩ (show ¬ (48 + 0 ≤ w (a + 1) ∧ w (a + 1) ≤ 48 + b) from c1)]
      refine ⟨fun _ => ?_, fun n => absurd (by first | exact rfl | exact trivial) n⟩
      refine hp 1 false nM se ti fo ⟨by omega, fun p hp2 => ?_, by rw [en] <;> rfl, fun _ => ?_⟩ (fun n => Bool.noConfusion n)
      · obtain rfl : p = 0 := by omega
        exact hf0 sg
      · by_cases h59 : w (a + 1) = 59
        · exact Or.inl h59
        · exact Or.inr (by rw [f1 h59]; exact decide_eq_false c1)
  by_cases h115 : w a = 115
  · rw [X4_tk_y H (by omega) h115]
    refine ⟨fun _ => ⟨fun n => absurd (by show nI (w a) = nI 115; rw [h115]) n, fun _ => ?_⟩, fun n => absurd n (by decide)⟩
    exact sb 5 (Or.inl ⟨h115, rfl⟩)
  rw [X4_tk_n H (by omega) (by decide) h115]
  refine ⟨fun n => absurd (by first | exact rfl | exact trivial) n, fun _ => ?_⟩
  by_cases h97 : w a = 97
  · rw [X4_tk_y H (by omega) h97]
    refine ⟨fun n => absurd n (by decide), fun _ => ⟨fun _ => ?_, fun n => absurd n (by show ¬ nI (w a) = nI 115; rw [h97]; decide)⟩⟩
    exact sb 3 (Or.inr ⟨h97, rfl⟩)
  rw [X4_tk_n H (by omega) (by decide) h97]
  refine ⟨fun _ => ?_, fun n => absurd (by first | exact rfl | exact trivial) n⟩
  by_cases h116 : w a = 116
  · have g : w a = 99 ∨ w a = 111 ∨ w a = 116 := Or.inr (Or.inr h116)
    have haL : a < L := l0 (by omega)
    have f1 : w (a + 1) ≠ 59 → fiB w a 1 = dgB 49 57 (w (a + 1)) := by
      intro h59
      unfold fiB
      rw [if_neg (by omega), if_neg h59, if_neg (by omega), if_neg (by omega), if_neg (by omega), if_pos h116] <;> rfl
    rw [X4_tk_y H (by omega) h116]
    refine ⟨fun n => absurd n (by decide), fun _ => ?_⟩
    by_cases c1 : 48 + 1 ≤ w (a + 1) ∧ w (a + 1) ≤ 48 + 9
    · rw [X4_fig_y H (by omega) (by omega) c1]
      refine ⟨fun n => absurd n (by rw [zeM1 (by omega)]; exact not_false), fun _ => ?_⟩
      exact yes2 g (by omega) (by rw [f1 (by omega)]; exact decide_eq_true c1) (l1 (by omega)) _ _ _
    · rw [X4_fig_n H (by omega) (by omega) c1]
      refine ⟨fun _ => ?_, fun n => absurd (by first | exact rfl | exact trivial) n⟩
      refine no2 g ?_ _ _ _ _
      by_cases h59 : w (a + 1) = 59
      · exact Or.inl h59
      · exact Or.inr (by rw [f1 h59]; exact decide_eq_false c1)
  rw [X4_tk_n H (by omega) (by decide) h116]
  refine ⟨fun _ => ?_, fun n => absurd (by first | exact rfl | exact trivial) n⟩
  have co : (w a = 99 ∨ w a = 111) → wp_X4_figure (x0, f, sv, tx, ln, nI (a + 1), nI (w a), fi, se, ti, fo, hs) (nI 0) (nI 7) (fun r47 u48 => (r47 = nM → post (nI 0) (u48.1, u48.2.1, u48.2.2.1, u48.2.2.2.1, u48.2.2.2.2.1, u48.2.2.2.2.2.1, u48.2.2.2.2.2.2.1, r47, u48.2.2.2.2.2.2.2.2.1, u48.2.2.2.2.2.2.2.2.2.1, u48.2.2.2.2.2.2.2.2.2.2.1, u48.2.2.2.2.2.2.2.2.2.2.2)) ∧ (¬ r47 = nM → post (nI 1) (u48.1, u48.2.1, u48.2.2.1, u48.2.2.2.1, u48.2.2.2.2.1, u48.2.2.2.2.2.1, u48.2.2.2.2.2.2.1, r47, u48.2.2.2.2.2.2.2.2.1, u48.2.2.2.2.2.2.2.2.2.1, u48.2.2.2.2.2.2.2.2.2.2.1, u48.2.2.2.2.2.2.2.2.2.2.2))) := by
    intro hco
    have g : w a = 99 ∨ w a = 111 ∨ w a = 116 := by omega
    have haL : a < L := l0 (by omega)
    have f1 : w (a + 1) ≠ 59 → fiB w a 1 = dgB 48 55 (w (a + 1)) := by
      intro h59
      unfold fiB
      rw [if_neg (by omega), if_neg h59, if_neg (by omega), if_neg (by omega), if_neg (by omega), if_neg (by omega)] <;> rfl
    by_cases c1 : 48 + 0 ≤ w (a + 1) ∧ w (a + 1) ≤ 48 + 7
    · rw [X4_fig_y H (by omega) (by omega) c1]
      refine ⟨fun n => absurd n (by rw [zeM1 (by omega)]; exact not_false), fun _ => ?_⟩
      exact yes2 g (by omega) (by rw [f1 (by omega)]; exact decide_eq_true c1) (l1 (by omega)) _ _ _
    · rw [X4_fig_n H (by omega) (by omega) c1]
      refine ⟨fun _ => ?_, fun n => absurd (by first | exact rfl | exact trivial) n⟩
      refine no2 g ?_ _ _ _ _
      by_cases h59 : w (a + 1) = 59
      · exact Or.inl h59
      · exact Or.inr (by rw [f1 h59]; exact decide_eq_false c1)
  by_cases h99 : w a = 99
  · rw [X4_tk_y H (by omega) h99]
    refine ⟨fun _ => ?_, fun n => absurd n (by decide)⟩
    exact co (Or.inl h99)
  rw [X4_tk_n H (by omega) (by decide) h99]
  refine ⟨fun n => absurd (by first | exact rfl | exact trivial) n, fun _ => ?_⟩
  by_cases h111 : w a = 111
  · rw [X4_tk_y H (by omega) h111]
    refine ⟨fun n => absurd n (by decide), fun _ => ?_⟩
    exact co (Or.inr h111)
  rw [X4_tk_n H (by omega) (by decide) h111]
  refine ⟨fun _ => ⟨fun _ => ?_, fun n => absurd (by first | exact rfl | exact trivial) n⟩, fun n => absurd (by first | exact rfl | exact trivial) n⟩
  exact hp 0 false nM se ti fo (RO_0 H ha (decide_eq_false (by omega))) (fun n => Bool.noConfusion n)
end
