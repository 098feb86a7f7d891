/-! the order text: its characters, the grammar place by place -/
def TW (t : Ot) (w : Nat → Nat) (L : Nat) : Prop := L ≤ 60 ∧ t.2 = nI L ∧ (∀ i, i < L → t.1 i = nI (w i) ∧ 33 ≤ w i ∧ w i ≤ 126) ∧ (∀ i, L ≤ i → w i = 0)
def dgB (a b c : Nat) : Bool := decide (a ≤ c ∧ c ≤ b)
def sgB (c : Nat) : Bool := decide (c = 97 ∨ c = 99 ∨ c = 111 ∨ c = 114 ∨ c = 115 ∨ c = 116)
/-- an order of q characters that begins with c: is it whole -/
def enB (c q : Nat) : Bool := if c = 97 then decide (4 ≤ q) else if c = 114 then decide (q = 5) else if c = 115 then decide (4 ≤ q) else decide (q = 2)
def bdB (w : Nat → Nat) (s p : Nat) : Bool := if p = 2 then decide (w (s + p) = 61) else decide (p ≤ 6 ∧ ¬ (3 < p ∧ w (s + 3) = 48)) && dgB 48 57 (w (s + p))
def lyB (w : Nat → Nat) (s p : Nat) : Bool := if p ≤ 3 then decide (¬ (2 ≤ p ∧ w (s + 1) = w (s + p)) ∧ ¬ (3 ≤ p ∧ w (s + 2) = w (s + p))) && dgB 48 55 (w (s + p)) else decide (p = 4) && dgB 48 51 (w (s + p))
def fiB (w : Nat → Nat) (s p : Nat) : Bool := if p = 0 then sgB (w s) else if w (s + p) = 59 then enB (w s) p else if w s = 97 then (if p = 1 then dgB 48 51 (w (s + p)) else bdB w s p) else if w s = 114 then lyB w s p else if w s = 115 then (if p = 1 then dgB 48 53 (w (s + p)) else bdB w s p) else if w s = 116 then decide (p = 1) && dgB 49 57 (w (s + p)) else decide (p = 1) && dgB 48 55 (w (s + p))
def bdV (w : Nat → Nat) (s : Nat) : Nat → Nat
  | 0 => 0
  | k + 1 => 10 * bdV w s k + (w (s + 3 + k) - 48)
/-- where the order begins that stands before i -/
def lsS (w : Nat → Nat) : Nat → Nat
  | 0 => 0
  | i + 1 => if w i = 59 then i + 1 else lsS w i
theorem lsS_le (w : Nat → Nat) : ∀ i, lsS w i ≤ i
  | 0 => Nat.le_refl _
  | i + 1 => by
    have := lsS_le w i
    show (if w i = 59 then i + 1 else lsS w i) ≤ i + 1
    split <;> omega
theorem lsS_mid (w : Nat → Nat) : ∀ i j, lsS w i ≤ j → j ≤ i → lsS w j = lsS w i
  | 0, j, _, h => by
    obtain rfl : j = 0 := by omega
    rfl
  | i + 1, j, h1, h2 => by
    have e : lsS w (i + 1) = if w i = 59 then i + 1 else lsS w i := rfl
    by_cases h : w i = 59
    · rw [if_pos h] at e
      obtain rfl : j = i + 1 := by omega
      rfl
    · rw [if_neg h] at e
      by_cases h3 : j = i + 1
      · rw [h3]
      · rw [e] at h1 ⊢
        exact lsS_mid w i j h1 (by omega)
theorem lsS_no (w : Nat → Nat) : ∀ i j, lsS w i ≤ j → j < i → w j ≠ 59
  | 0, j, _, h => absurd h (Nat.not_lt_zero _)
  | i + 1, j, h1, h2 => by
    have e : lsS w (i + 1) = if w i = 59 then i + 1 else lsS w i := rfl
    by_cases h : w i = 59
    · rw [if_pos h] at e
      omega
    · rw [if_neg h] at e
      by_cases h3 : j = i
      · rw [h3]; exact h
      · exact lsS_no w i j (by omega) (by omega)
theorem lsS_run (w : Nat → Nat) (a : Nat) (ha : lsS w a = a) : ∀ q, (∀ p, p < q → w (a + p) ≠ 59) → lsS w (a + q) = a
  | 0, _ => ha
  | q + 1, h => by
    show (if w (a + q) = 59 then a + q + 1 else lsS w (a + q)) = a
    rw [if_neg (h q (by omega))]
    exact lsS_run w a ha q (fun p hp => h p (by omega))
/-- E is the first error -/
def EI (w : Nat → Nat) (L E : Nat) : Prop := E ≤ L ∧ (∀ j, j < E → fiB w (lsS w j) (j - lsS w j) = true) ∧ (E < L → fiB w (lsS w E) (E - lsS w E) = false)
theorem EI_one {w : Nat → Nat} {L E F : Nat} (h1 : EI w L E) (h2 : EI w L F) : E = F := by
  have key : ∀ A B, EI w L A → EI w L B → ¬ A < B := by
    intro A B hA hB h
    have q := hB.2.1 A h
    rw [hA.2.2 (by have := hB.1; omega)] at q
    cases q
  have k1 := key E F h1 h2
  have k2 := key F E h2 h1
  omega
section
variable {t : Ot} {w : Nat → Nat} {L : Nat}
theorem X0_codeAt (H : TW t w L) {i : Nat} (hi : i < 2147483648) {post : Int32 → Prop} : wp_X0_codeAt t (nI i) post = post (nI (w i)) := by
  obtain ⟨h60, h1, h2, h3⟩ := H
  unfold wp_X0_codeAt
  by_cases h : i < L
  · have e := (h2 i h).1
    simp (disch := omega) only [jn, Nat.reduceAdd, Nat.reduceSub, Nat.reduceMul, z0, z1, z2, z3, z4, z5, z6, z7, z8, z9, z10, z12, z16, z18, z24, z31, z33, z48, z49, z51, z53, z55, z57, z59, z60, z61, z63, z66, z97, z99, z111, z114, z115, z116, z118, z122, z126, z255, z854, z1000, z1111, z7143, z9999, z10000, zM, zMn, nI_add, pk_mul, zsub, zlt_t, zlt_f, zle_t, zle_f, zeq_t, zeq_f, zeM1, zeM2, zeM3, zltM, zleM, nI_clamp, zin, false_or, or_false, true_and, and_true, false_and, and_false, not_true_eq_false, not_false_eq_true, true_imp_iff, false_imp_iff, implies_true, if_true, if_false, O_length, O_codes, h1, e]
  · have e := h3 i (by omega)
    rw [e]
    simp (disch := omega) only [jn, Nat.reduceAdd, Nat.reduceSub, Nat.reduceMul, z0, z1, z2, z3, z4, z5, z6, z7, z8, z9, z10, z12, z16, z18, z24, z31, z33, z48, z49, z51, z53, z55, z57, z59, z60, z61, z63, z66, z97, z99, z111, z114, z115, z116, z118, z122, z126, z255, z854, z1000, z1111, z7143, z9999, z10000, zM, zMn, nI_add, pk_mul, zsub, zlt_t, zlt_f, zle_t, zle_f, zeq_t, zeq_f, zeM1, zeM2, zeM3, zltM, zleM, nI_clamp, zin, false_or, or_false, true_and, and_true, false_and, and_false, not_true_eq_false, not_false_eq_true, true_imp_iff, false_imp_iff, implies_true, if_true, if_false, O_length, O_codes, h1]
theorem X0_digitAt (H : TW t w L) {i : Nat} (hi : i < 2147483648) {post : Int32 → Prop} : wp_X0_digitAt t (nI i) post = post (nI (w i) - nI 48) := by
  unfold wp_X0_digitAt
  rw [X0_codeAt H hi, z48]
theorem w_le (H : TW t w L) (i : Nat) : w i ≤ 126 := by
  rcases Nat.lt_or_ge i L with h | h
  · exact (H.2.2.1 i h).2.2
  · rw [H.2.2.2 i h]; omega
theorem btw {a b c : Nat} (ha : a < 1000) (hb : b < 1000) (hc : c < 1000) : decide (¬ nI c < nI a ∧ ¬ nI b < nI c) = dgB a b c := by
  unfold dgB
  rw [decide_eq_decide, zlt_i (by omega) (by omega), zlt_i (by omega) (by omega)]
  omega
theorem bI_re {b : Bool} {post : Int32 → Prop} : ((bI b = nI 0 → post (nI 0)) ∧ (¬ bI b = nI 0 → post (nI 1))) = post (bI b) := by
  cases b
  · exact propext ⟨fun h => h.1 rfl, fun h => ⟨fun _ => h, fun q => absurd rfl q⟩⟩
  · exact propext ⟨fun h => h.2 (by decide), fun h => ⟨fun q => absurd q (by decide), fun _ => h⟩⟩
theorem br_lt {q k : Nat} (hq : q < 1000) (hk : k < 1000) {post : Int32 → Prop} : ((nI q < nI k → post (nI 0)) ∧ (¬ nI q < nI k → post (nI 1))) = post (bI (decide (k ≤ q))) := by
  rw [zlt_i (by omega) (by omega)]
  by_cases h : q < k
  · rw [decide_eq_false (by omega)]
    exact propext ⟨fun g => g.1 h, fun g => ⟨fun _ => g, fun n => absurd h n⟩⟩
  · rw [decide_eq_true (by omega)]
    exact propext ⟨fun g => g.2 h, fun g => ⟨fun n => absurd n h, fun _ => g⟩⟩
theorem br_eq {q k : Nat} (hq : q < 1000) (hk : k < 1000) {post : Int32 → Prop} : ((¬ nI q = nI k → post (nI 0)) ∧ (nI q = nI k → post (nI 1))) = post (bI (decide (q = k))) := by
  rw [zeq_i (by omega) (by omega)]
  by_cases h : q = k
  · rw [decide_eq_true h]
    exact propext ⟨fun g => g.2 h, fun g => ⟨fun n => absurd h n, fun _ => g⟩⟩
  · rw [decide_eq_false h]
    exact propext ⟨fun g => g.1 h, fun g => ⟨fun _ => g, fun n => absurd n h⟩⟩
theorem bq {a b : Nat} (ha : a < 1000) (hb : b < 1000) : (nI a = nI b) = (a = b) := zeq_i (by omega) (by omega)
theorem X0_sign {c : Nat} (hc : c ≤ 126) {post : Int32 → Prop} (hq : post (bI (sgB c))) : wp_X0_isOrderSign (nI c) post := by
  unfold wp_X0_isOrderSign
  unfold sgB at hq
  simp (disch := omega) only [z0, z1, z97, z99, z111, z114, z115, z116, bq]
  have y : (c = 97 ∨ c = 99 ∨ c = 111 ∨ c = 114 ∨ c = 115 ∨ c = 116) → post (nI 1) := fun h => by rw [decide_eq_true h] at hq; exact hq
  have n : ¬ (c = 97 ∨ c = 99 ∨ c = 111 ∨ c = 114 ∨ c = 115 ∨ c = 116) → post (nI 0) := fun h => by rw [decide_eq_false h] at hq; exact hq
  exact ⟨fun h => y (by omega), fun h1 => ⟨fun h => y (by omega), fun h2 => ⟨fun h => y (by omega), fun h3 => ⟨fun h => y (by omega), fun h4 => ⟨fun h => y (by omega), fun h5 => ⟨fun h => y (by omega), fun h6 => n (by omega)⟩⟩⟩⟩⟩⟩
theorem sub_s {s p : Nat} : nI (s + p) - nI s = nI p := by
  rw [zsub (by omega), Nat.add_sub_cancel_left]
theorem X0_ends (H : TW t w L) {s q : Nat} (hs : s < 1000) (hq : q < 1000) {post : Int32 → Prop} (hp : post (bI (enB (w s) q))) : wp_X0_endsOrder t (nI s) (nI (s + q)) post := by
  have hc := w_le H s
  unfold wp_X0_endsOrder
  unfold enB at hp
  rw [X0_codeAt H (by omega)]
  simp (disch := omega) only [z0, z1, z2, z4, z5, z97, z114, z115, sub_s]
  rw [br_lt hq (by decide), br_eq hq (by decide), br_eq hq (by decide), bq (by omega) (by decide), bq (by omega) (by decide), bq (by omega) (by decide)]
  by_cases h1 : w s = 97
  · rw [if_pos h1] at hp
    exact ⟨fun _ => hp, fun n => absurd h1 n⟩
  rw [if_neg h1] at hp
  refine ⟨fun n => absurd n h1, fun _ => ?_⟩
  by_cases h2 : w s = 114
  · rw [if_pos h2] at hp
    exact ⟨fun _ => hp, fun n => absurd h2 n⟩
  rw [if_neg h2] at hp
  refine ⟨fun n => absurd n h2, fun _ => ?_⟩
  by_cases h3 : w s = 115
  · rw [if_pos h3] at hp
    exact ⟨fun _ => hp, fun n => absurd h3 n⟩
  rw [if_neg h3] at hp
  exact ⟨fun n => absurd n h3, fun _ => hp⟩
theorem X0_fitsLay (H : TW t w L) {s p : Nat} (hs : s < 1000) (hp1 : 1 ≤ p) (hp : p < 1000) {post : Int32 → Prop} (hq : post (bI (lyB w s p))) : wp_X0_fitsLay t (nI s) (nI (s + p)) post := by
  have hc := w_le H (s + p)
  have c1 := w_le H (s + 1)
  have c2 := w_le H (s + 2)
  unfold wp_X0_fitsLay
  rw [X0_codeAt H (by omega)]
  unfold lyB at hq
  simp (disch := omega) only [z0, z1, z3, z4, z48, z51, z55, sub_s]
  by_cases h3 : p ≤ 3
  · rw [if_pos h3] at hq
    refine ⟨fun _ => ?_, fun n => absurd (nI_le h3 (by decide)) n⟩
    have fin : (¬ (2 ≤ p ∧ w (s + 1) = w (s + p)) ∧ ¬ (3 ≤ p ∧ w (s + 2) = w (s + p))) → wp_X3_isBetween (nI (w (s + p))) (nI 48) (nI 55) (fun r7 => post r7) := by
      intro hh
      rw [X3_between, btw (by decide) (by decide) (by omega)]
      rw [decide_eq_true hh, Bool.true_and] at hq
      exact hq
    have bad : ¬ (¬ (2 ≤ p ∧ w (s + 1) = w (s + p)) ∧ ¬ (3 ≤ p ∧ w (s + 2) = w (s + p))) → post (nI 0) := by
      intro hh
      rw [decide_eq_false hh, Bool.false_and] at hq
      exact hq
    refine ⟨5, ?_⟩
    rcases (show p = 1 ∨ p = 2 ∨ p = 3 by omega) with rfl | rfl | rfl
    · simp (disch := omega) only [lpc, Nat.reduceAdd, z1, nI_add, zle_t, zle_f, true_imp_iff, false_imp_iff, not_true_eq_false, not_false_eq_true, true_and, and_true]
      exact fin ⟨by omega, by omega⟩
    · simp (disch := omega) only [lpc, Nat.reduceAdd, z1, nI_add, Nat.add_assoc, zle_t, zle_f, true_imp_iff, false_imp_iff, not_true_eq_false, not_false_eq_true, true_and, and_true, X0_codeAt H, bq]
      exact ⟨fun n => fin ⟨fun q => n q.2, by omega⟩, fun n => bad (fun q => q.1 ⟨by omega, n⟩)⟩
    · simp (disch := omega) only [lpc, Nat.reduceAdd, z1, nI_add, Nat.add_assoc, zle_t, zle_f, true_imp_iff, false_imp_iff, not_true_eq_false, not_false_eq_true, true_and, and_true, X0_codeAt H, bq]
      exact ⟨fun n => ⟨fun n2 => fin ⟨fun q => n q.2, fun q => n2 q.2⟩, fun n2 => bad (fun q => q.2 ⟨by omega, n2⟩)⟩, fun n => bad (fun q => q.1 ⟨by omega, n⟩)⟩
  · rw [if_neg h3] at hq
    refine ⟨fun n => absurd n (nI_ge (by omega) (by omega)), fun _ => ?_⟩
    by_cases h4 : p = 4
    · rw [decide_eq_true h4, Bool.true_and] at hq
      refine ⟨fun n => absurd (by rw [h4]) n, fun _ => ?_⟩
      rw [X3_between, btw (by decide) (by decide) (by omega), bI_re]
      exact hq
    · rw [decide_eq_false h4, Bool.false_and] at hq
      exact ⟨fun _ => hq, fun n => absurd ((nI_eq (by omega) (by omega)).mp n) h4⟩
theorem X0_fitsBody (H : TW t w L) {s p : Nat} (hs : s < 1000) (hp1 : 2 ≤ p) (hp : p < 1000) {post : Int32 → Prop} (hq : post (bI (bdB w s p))) : wp_X0_fitsBody t (nI s) (nI (s + p)) post := by
  have hc := w_le H (s + p)
  have c3 := w_le H (s + 3)
  unfold wp_X0_fitsBody
  rw [X0_codeAt H (by omega)]
  unfold bdB at hq
  simp (disch := omega) only [z0, z1, z2, z3, z6, z48, z57, z61, sub_s]
  by_cases h2 : p = 2
  · rw [if_pos h2] at hq
    refine ⟨fun n => absurd (by rw [h2]) n, fun _ => ?_⟩
    rw [br_eq (by omega) (by decide)]
    exact hq
  · rw [if_neg h2] at hq
    refine ⟨fun _ => ?_, fun n => absurd ((nI_eq (by omega) (by omega)).mp n) h2⟩
    have fin : ∀ x : Bool, (x = true ↔ (3 < p ∧ w (s + 3) = 48)) → (nI 6 < nI p → post (nI 0)) ∧ (¬ nI 6 < nI p → (¬ bI x = nI 0 → post (nI 0)) ∧ (bI x = nI 0 → wp_X3_isBetween (nI (w (s + p))) (nI 48) (nI 57) (fun r10 => (r10 = nI 0 → post (nI 0)) ∧ (¬ r10 = nI 0 → post (nI 1))))) := by
      intro x hx
      rw [X3_between, btw (by decide) (by decide) (by omega), bI_re]
      refine ⟨fun n => ?_, fun n => ⟨fun n2 => ?_, fun n2 => ?_⟩⟩
      · have h6 : 6 < p := (nI_ltI (by omega) (by omega)).mp n
        rw [decide_eq_false (fun q => absurd q.1 (by omega)), Bool.false_and] at hq
        exact hq
      · rw [decide_eq_false (fun q => q.2 (hx.mp (bI_ne n2))), Bool.false_and] at hq
        exact hq
      · have h6 : ¬ 6 < p := fun q => n (nI_lt q (by omega))
        have hb := bI_z n2
        rw [decide_eq_true ⟨by omega, fun q => by rw [hx.mpr q] at hb; cases hb⟩, Bool.true_and] at hq
        exact hq
    by_cases h3 : 3 < p ∧ w (s + 3) = 48
    · refine jn_v (bI true) (fun J hJ => ?_) (fin true ⟨fun _ => h3, fun _ => rfl⟩)
      have e9 : nI s + nI 3 = nI (s + 3) := nI_add _ _
      simp only [jn]
      rw [e9, X0_codeAt H (by omega)]
      exact ⟨fun n => absurd n (nI_ge (by omega) (by omega)), fun _ => ⟨fun n => absurd (by rw [h3.2]) n, fun _ => hJ⟩⟩
    · refine jn_v (bI false) (fun J hJ => ?_) (fin false ⟨fun q => Bool.noConfusion q, fun q => absurd q h3⟩)
      have e9 : nI s + nI 3 = nI (s + 3) := nI_add _ _
      simp only [jn]
      rw [e9, X0_codeAt H (by omega)]
      refine ⟨fun _ => hJ, fun n => ⟨fun _ => hJ, fun n2 => ?_⟩⟩
      exact absurd ⟨by
        rcases Nat.lt_or_ge 3 p with q | q
        · exact q
        · exact absurd (nI_le q (by decide)) n, (nI_eq (by omega) (by omega)).mp n2⟩ h3
theorem X0_fits (H : TW t w L) {s p : Nat} (hs : s < 1000) (hp : p < 1000) {post : Int32 → Prop} (hq : post (bI (fiB w s p))) : wp_X0_fits t (nI s) (nI (s + p)) post := by
  have hc := w_le H (s + p)
  have c0 := w_le H s
  unfold wp_X0_fits
  rw [X0_codeAt H (by omega)]
  unfold fiB at hq
  simp (disch := omega) only [z0, z1, z48, z49, z51, z53, z55, z57, z59, z97, z114, z115, z116, sub_s, X0_codeAt H, bq]
  by_cases hp0 : p = 0
  · subst hp0
    rw [if_pos rfl] at hq
    refine ⟨fun n => absurd rfl n, fun _ => ?_⟩
    rw [Nat.add_zero]
    exact X0_sign c0 hq
  rw [if_neg hp0] at hq
  refine ⟨fun _ => ?_, fun n => absurd n hp0⟩
  by_cases h59 : w (s + p) = 59
  · rw [if_pos h59] at hq
    refine ⟨fun n => absurd h59 n, fun _ => ?_⟩
    exact X0_ends H hs hp hq
  rw [if_neg h59] at hq
  refine ⟨fun _ => ?_, fun n => absurd n h59⟩
  have fb : ∀ a b : Nat, a < 1000 → b < 1000 → post (bI (if p = 1 then dgB a b (w (s + p)) else bdB w s p)) → (¬ p = 1 → wp_X0_fitsBody t (nI s) (nI (s + p)) (fun r => post r)) ∧ (p = 1 → wp_X3_isBetween (nI (w (s + p))) (nI a) (nI b) (fun r => post r)) := by
    intro a b ha hb q
    by_cases h1 : p = 1
    · rw [if_pos h1] at q
      refine ⟨fun n => absurd h1 n, fun _ => ?_⟩
      rw [X3_between, btw ha hb (by omega)]
      exact q
    · rw [if_neg h1] at q
      exact ⟨fun _ => X0_fitsBody H hs (by omega) hp q, fun n => absurd n h1⟩
  have f1 : ∀ a b : Nat, a < 1000 → b < 1000 → post (bI (decide (p = 1) && dgB a b (w (s + p)))) → (¬ p = 1 → post (nI 0)) ∧ (p = 1 → wp_X3_isBetween (nI (w (s + p))) (nI a) (nI b) (fun r => (r = nI 0 → post (nI 0)) ∧ (¬ r = nI 0 → post (nI 1)))) := by
    intro a b ha hb q
    by_cases h1 : p = 1
    · rw [decide_eq_true h1, Bool.true_and] at q
      refine ⟨fun n => absurd h1 n, fun _ => ?_⟩
      rw [X3_between, btw ha hb (by omega), bI_re]
      exact q
    · rw [decide_eq_false h1, Bool.false_and] at q
      exact ⟨fun _ => q, fun n => absurd n h1⟩
  by_cases h1 : w s = 97
  · rw [if_pos h1] at hq
    exact ⟨fun _ => fb 48 51 (by decide) (by decide) hq, fun n => absurd h1 n⟩
  rw [if_neg h1] at hq
  refine ⟨fun n => absurd n h1, fun _ => ?_⟩
  by_cases h2 : w s = 114
  · rw [if_pos h2] at hq
    exact ⟨fun _ => X0_fitsLay H hs (by omega) hp hq, fun n => absurd h2 n⟩
  rw [if_neg h2] at hq
  refine ⟨fun n => absurd n h2, fun _ => ?_⟩
  by_cases h3 : w s = 115
  · rw [if_pos h3] at hq
    exact ⟨fun _ => fb 48 53 (by decide) (by decide) hq, fun n => absurd h3 n⟩
  rw [if_neg h3] at hq
  refine ⟨fun n => absurd n h3, fun _ => ?_⟩
  by_cases h4 : w s = 116
  · rw [if_pos h4] at hq
    exact ⟨fun _ => f1 49 57 (by decide) (by decide) hq, fun n => absurd h4 n⟩
  rw [if_neg h4] at hq
  exact ⟨fun n => absurd n h4, fun _ => f1 48 55 (by decide) (by decide) hq⟩
theorem X0_error (H : TW t w L) {post : Int32 → Prop} (hp : ∀ E, EI w L E → post (nI E)) : wp_X0_errorIndex t post := by
  have h60 := H.1
  have hlen : t.2 = nI L := H.2.1
  unfold wp_X0_errorIndex
  simp only [z0, z1, z59, O_length, hlen]
  refine lpnA L (fun j x => x = nI (lsS w j) ∧ ∀ k, k < j → fiB w (lsS w k) (k - lsS w k) = true) ?_ ?_ (Nat.zero_le _) ⟨rfl, fun k hk => absurd hk (Nat.not_lt_zero _)⟩
  · rintro K j x hj ⟨rfl, hP⟩ hk
    have hle := lsS_le w j
    have hc := w_le H j
    refine ⟨fun n => absurd n (nI_ge hj (by omega)), fun _ => ?_⟩
    have e : nI j = nI (lsS w j + (j - lsS w j)) := by rw [show lsS w j + (j - lsS w j) = j by omega]
    have main := X0_fits H (s := lsS w j) (p := j - lsS w j) (by omega) (by omega) (post := fun r6 => (¬ r6 = nI 0 → wp_X0_codeAt t (nI j) (fun r9 => (¬ r9 = nI 59 → K (nI (lsS w j)) (nI j + nI 1)) ∧ (r9 = nI 59 → K (nI j + nI 1) (nI j + nI 1)))) ∧ (r6 = nI 0 → post (nI j)))
    rw [← e] at main
    refine main ?_
    refine ⟨fun n => ?_, fun n => hp j ⟨by omega, hP, fun _ => bI_z n⟩⟩
    have hf := bI_ne n
    have hP2 : ∀ k, k < j + 1 → fiB w (lsS w k) (k - lsS w k) = true := by
      intro k hk3
      by_cases e3 : k = j
      · rw [e3]; exact hf
      · exact hP k (by omega)
    rw [X0_codeAt H (by omega), nI_add, bq (by omega) (by decide)]
    refine ⟨fun n2 => hk _ ⟨?_, hP2⟩, fun n2 => hk _ ⟨?_, hP2⟩⟩
    · show nI (lsS w j) = nI (if w j = 59 then j + 1 else lsS w j)
      rw [if_neg n2]
    · show nI (j + 1) = nI (if w j = 59 then j + 1 else lsS w j)
      rw [if_pos n2]
  · rintro K x ⟨rfl, hP⟩
    exact ⟨fun _ => hp L ⟨Nat.le_refl _, hP, fun n => absurd n (Nat.lt_irrefl _)⟩, fun n => absurd (nI_le (Nat.le_refl _) (by omega)) n⟩
theorem X0_last (H : TW t w L) {post : Int32 → Prop} (hp : post (nI (lsS w L))) : wp_X0_lastStart t post := by
  have h60 := H.1
  have hlen : t.2 = nI L := H.2.1
  unfold wp_X0_lastStart
  simp only [z0, z1, z59, O_length, hlen]
  refine lpnA L (fun j x => x = nI (lsS w j)) ?_ ?_ (Nat.zero_le _) rfl
  · rintro K j x hj rfl hk
    have hc := w_le H j
    refine ⟨fun n => absurd n (nI_ge hj (by omega)), fun _ => ?_⟩
    rw [X0_codeAt H (by omega), nI_add, bq (by omega) (by decide)]
    refine ⟨fun n2 => hk _ ?_, fun n2 => hk _ ?_⟩
    · show nI (lsS w j) = nI (if w j = 59 then j + 1 else lsS w j)
      rw [if_neg n2]
    · show nI (j + 1) = nI (if w j = 59 then j + 1 else lsS w j)
      rw [if_pos n2]
  · rintro K x rfl
    exact ⟨fun _ => hp, fun n => absurd (nI_le (Nat.le_refl _) (by omega)) n⟩
/-- the text is complete -/
def CT (w : Nat → Nat) (L : Nat) : Prop := EI w L L ∧ enB (w (lsS w L)) (L - lsS w L) = true
theorem X0_complete (H : TW t w L) {post : Int32 → Prop} (h1 : CT w L → post (nI 1)) (h0 : ¬ CT w L → post (nI 0)) : wp_X0_isComplete t post := by
  have h60 := H.1
  have hlen : t.2 = nI L := H.2.1
  unfold wp_X0_isComplete
  simp only [z0, z1, O_length, hlen]
  refine X0_error H (fun E hE => ?_)
  have hEL := hE.1
  by_cases h : E = L
  · subst h
    refine ⟨fun n => absurd rfl n, fun _ => ?_⟩
    refine X0_last H ?_
    have hle := lsS_le w E
    have e : nI E = nI (lsS w E + (E - lsS w E)) := by rw [show lsS w E + (E - lsS w E) = E by omega]
    rw [e]
    refine X0_ends H (by omega) (by omega) ?_
    refine ⟨fun n => h0 (fun q => ?_), fun n => h1 ⟨hE, bI_ne n⟩⟩
    have := bI_z n
    rw [q.2] at this
    cases this
  · exact ⟨fun _ => h0 (fun q => h (EI_one hE q.1)), fun n => absurd ((nI_eq (by omega) (by omega)).mp n) h⟩
end
