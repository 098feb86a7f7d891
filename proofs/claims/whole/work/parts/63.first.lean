/-! the reference reads the whole text -/
section
variable {x0 : Int32} {f : Nat → Int32} {sv : Int32} {tx : Nat → Int32} {ln le fi se ti fo : Int32} {hs : Int64} {w : Nat → Nat} {L : Nat}
/-- all before a fits, and an order begins at a -/
def AO (w : Nat → Nat) (L a : Nat) : Prop := a ≤ L ∧ lsS w a = a ∧ ∀ j, j < a → fiB w (lsS w j) (j - lsS w j) = true
theorem AO_fit {a q : Nat} {ok : Bool} (hA : AO w L a) (hr : RO w L a q ok) : lsS w (a + q) = a ∧ ∀ j, j < a + q → fiB w (lsS w j) (j - lsS w j) = true := by
  obtain ⟨r1, r2, r3, r4⟩ := hr
  refine ⟨lsS_run w a hA.2.1 q (fun p hp => (r2 p hp).2), fun j hj => ?_⟩
  by_cases h : j < a
  · exact hA.2.2 j h
  · have e : j = a + (j - a) := by omega
    have e2 : lsS w j = a := by
      rw [e]
      exact lsS_run w a hA.2.1 (j - a) (fun p hp => (r2 p (by omega)).2)
    rw [e2]
    exact (r2 (j - a) (by omega)).1
theorem X4_are (H : MW tx ln w L) {post : Int32 → Md → Prop} (hp : ∀ (E : Nat) (ok : Bool) (le fi se ti fo : Int32), EI w L E → (ok = true ↔ CT w L) → post (bI ok) (x0, f, sv, tx, ln, nI E, le, fi, se, ti, fo, hs)) {at1 : Int32} : wp_X4_areOrders (x0, f, sv, tx, ln, at1, le, fi, se, ti, fo, hs) post := by
  have h60 := H.1
  have hln : ln = nI L := H.2.1
  unfold wp_X4_areOrders
  simp only [M_thrown, M_s, M_saved, M_text, M_length, M_at, M_letter, M_first, M_second, M_third, M_fourth, M_hash, sM_thrown, sM_saved, sM_length, sM_at, sM_letter, sM_first, sM_second, sM_third, sM_fourth, sM_hash, aM_s, wM_s, aM_text, wM_text, z0, z1, z59]
  refine lpi1 (fun u => ∃ (a : Nat) (le fi se ti fo : Int32), u = (x0, f, sv, tx, ln, nI a, le, fi, se, ti, fo, hs) ∧ AO w L a) (fun u => 100 - (M_at u).toNatClampNeg) ?_ _ ⟨0, _, _, _, _, _, rfl, Nat.zero_le _, rfl, fun j hj => absurd hj (Nat.not_lt_zero _)⟩
  rintro K u ⟨a, le, fi, se, ti, fo, rfl, hA⟩ hk
  have haL := hA.1
  refine X4_order H haL (fun q ok fi se ti fo hr hf => ?_)
  obtain ⟨s1, s2⟩ := AO_fit hA hr
  obtain ⟨r1, r2, r3, r4⟩ := hr
  have hEI : (a + q < L → fiB w a q = false) → EI w L (a + q) := by
    intro h
    refine ⟨r1, s2, fun hlt => ?_⟩
    rw [s1, show a + q - a = q by omega]
    exact h hlt
  have sgs : ∀ p, 0 < p → w (a + p) = 59 → fiB w a p = enB (w a) p := by
    intro p h0 h59
    unfold fiB
    rw [if_neg (by omega), if_pos h59]
  cases ok
  · refine ⟨fun _ => ?_, fun n => absurd rfl n⟩
    have hno : a + q < L → fiB w a q = false := by
      intro hlt
      rcases r4 hlt with h59 | h
      · by_cases q0 : q = 0
        · subst q0
          rw [Nat.add_zero] at h59
          unfold fiB sgB
          rw [if_pos rfl, h59]
          rfl
        · rw [sgs q (by omega) h59]
          exact r3.symm
      · exact h
    refine hp (a + q) false _ _ _ _ _ (hEI hno) ⟨fun n => Bool.noConfusion n, fun hc => ?_⟩
    have e := EI_one (hEI hno) hc.1
    have h2 := hc.2
    rw [← e, s1, show a + q - a = q by omega, ← r3] at h2
    exact h2
  · refine ⟨fun n => absurd n (by decide), fun _ => ?_⟩
    by_cases e : a + q = L
    · refine ⟨fun n => absurd (show nI (a + q) = ln by rw [hln, e]) n, fun _ => ?_⟩
      refine hp (a + q) true _ _ _ _ _ (hEI (fun hlt => absurd hlt (by omega))) ⟨fun _ => ⟨?_, ?_⟩, fun _ => rfl⟩
      · have := hEI (fun hlt => absurd hlt (by omega))
        rw [e] at this
        exact this
      · rw [← e, s1, show a + q - a = q by omega]
        exact r3.symm
    · refine ⟨fun _ => ?_, fun n => absurd ((nI_eq (by omega) (by omega)).mp ((show nI (a + q) = ln from n).trans hln)) e⟩
      by_cases h59 : w (a + q) = 59
      · rw [X4_tk_y H (by omega) h59]
        refine ⟨fun _ => hk _ ⟨a + q + 1, _, _, _, _, _, rfl, by omega, ?_, fun j hj => ?_⟩ ?_, fun n => absurd n (by decide)⟩
        · show (if w (a + q) = 59 then a + q + 1 else lsS w (a + q)) = a + q + 1
          rw [if_pos h59]
        · by_cases ej : j = a + q
          · rw [ej, s1, show a + q - a = q by omega]
            by_cases q0 : q = 0
            · subst q0
              have h3 : enB (w a) 0 = true := r3.symm
              unfold enB at h3
              split at h3
              · exact absurd (of_decide_eq_true h3) (by omega)
              · split at h3
                · exact absurd (of_decide_eq_true h3) (by omega)
                · split at h3
                  · exact absurd (of_decide_eq_true h3) (by omega)
                  · exact absurd (of_decide_eq_true h3) (by omega)
            · rw [sgs q (by omega) h59]
              exact r3.symm
          · exact s2 j (by omega)
        · show 100 - (nI (a + q + 1)).toNatClampNeg < 100 - (nI a).toNatClampNeg
          rw [nI_clamp (by omega), nI_clamp (by omega)]
          omega
      · rw [X4_tk_n H (by omega) (by decide) h59]
        refine ⟨fun n => absurd rfl n, fun _ => ?_⟩
        have hno : a + q < L → fiB w a q = false := fun hlt => (r4 hlt).resolve_left h59
        refine hp (a + q) false _ _ _ _ _ (hEI hno) ⟨fun n => Bool.noConfusion n, fun hc => ?_⟩
        exact absurd (EI_one (hEI hno) hc.1) e
end
theorem TX_w {t : Ot} {v : Md} {L : Nat} (H : TX t v L) : ∃ w, TW t w L ∧ MW v.2.2.2.1 v.2.2.2.2.1 w L := by
  obtain ⟨h60, h1, h2, h3⟩ := H
  have key : ∀ i, i < L → t.1 i = nI (t.1 i).toNatClampNeg ∧ v.2.2.2.1 i = nI (t.1 i).toNatClampNeg ∧ 33 ≤ (t.1 i).toNatClampNeg ∧ (t.1 i).toNatClampNeg ≤ 126 := by
    intro i hi
    obtain ⟨c, c1, c2, c3, c4⟩ := h3 i hi
    rw [c3, nI_clamp (by omega)]
    exact ⟨rfl, c4, c1, c2⟩
  refine ⟨fun i => if i < L then (t.1 i).toNatClampNeg else 0, ⟨h60, h1, fun i hi => ?_, fun i hi => if_neg (by omega)⟩, ⟨h60, h2, fun i hi => ?_, fun i hi => if_neg (by omega)⟩⟩
  · have k := key i hi
    dsimp only
    rw [if_pos hi]
    exact ⟨k.1, k.2.2.1, k.2.2.2⟩
  · have k := key i hi
    dsimp only
    rw [if_pos hi]
    exact ⟨k.2.1, k.2.2.1, k.2.2.2⟩
section
variable {xs : Nat → Int32} {i : Int32} {N : Ne} {O : Nat → Int64} {M : Md}
theorem law_28 (H : Inv N M) : wp_law_28 xs i N O M (fun N _ M => Inv N M) := by
  obtain ⟨x0, f, sv, tx, ln, at1, le, fi, se, ti, fo, hs⟩ := M
  obtain ⟨HS, L, hT⟩ := id H
  obtain ⟨w, h1, h2⟩ := TX_w hT
  unfold wp_law_28 wp_X3_firstError wp_X4_firstError
  refine X0_error h1 (fun E hE => ?_)
  refine X4_are (x0 := 0) (f := f) (sv := sv) (hs := hs) (le := le) (fi := fi) (se := se) (ti := ti) (fo := fo) h2 (fun F ok le fi se ti fo hF _ => ?_)
  obtain rfl := EI_one hE hF
  exact ⟨fun _ => ⟨HS, L, hT⟩, fun n => absurd rfl n⟩
end
