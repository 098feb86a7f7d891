/-! the reference reads an order -/
def MW (tx : Nat → Int32) (ln : Int32) (w : Nat → Nat) (L : Nat) : Prop := L ≤ 60 ∧ ln = nI L ∧ (∀ i, i < L → tx i = nI (w i) ∧ 33 ≤ w i ∧ w i ≤ 126) ∧ (∀ i, L ≤ i → w i = 0)
theorem lpnS {A : Type} {body : (A → Prop) → A → Prop} (N : Nat) (P : Nat → A → Prop) (step : ∀ (K : A → Prop) (j : Nat) (x : A), j < N → P j x → (∀ y, P (j + 1) y → K y) → body K x) (last : ∀ (K : A → Prop) (x : A), P N x → body K x) {j : Nat} {x : A} (hj : j ≤ N) (h : P j x) : LP1 body x := by
  have key : ∀ (d j : Nat) (x : A), j + d = N → P j x → lpc (fun _ => False) body (d + 1) x := by
    intro d
    induction d with
    | zero => intro j x hd hp; obtain rfl : j = N := by omega
              exact last _ x hp
    | succ d ih => intro j x hd hp; exact step _ j x (by omega) hp (fun y q => ih (j + 1) y (by omega) q)
  exact ⟨_, key (N - j) j x (by omega) h⟩
theorem zleM0 : (nM ≤ nI 0) = True := eq_true (by decide)
section
variable {x0 : Int32} {f : Nat → Int32} {sv : Int32} {tx : Nat → Int32} {ln le fi se ti fo : Int32} {hs : Int64} {w : Nat → Nat} {L : Nat}
theorem m_le (H : MW tx ln w L) (i : Nat) : w i ≤ 126 := by
  rcases Nat.lt_or_ge i L with h | h
  · exact (H.2.2.1 i h).2.2
  · rw [H.2.2.2 i h]; omega
theorem m_lt (H : MW tx ln w L) {i : Nat} (h : w i ≠ 0) : i < L := by
  rcases Nat.lt_or_ge i L with q | q
  · exact q
  · exact absurd (H.2.2.2 i q) h
theorem X4_sign (H : MW tx ln w L) {a : Nat} (ha : a < 1000) {post : Int32 → Prop} : wp_X4_sign (x0, f, sv, tx, ln, nI a, le, fi, se, ti, fo, hs) post = post (nI (w a)) := by
  obtain ⟨h60, h1, h2, h3⟩ := H
  unfold wp_X4_sign
  by_cases h : a < L
  · have e := (h2 a h).1
    simp (disch := omega) only [jn, Nat.reduceAdd, Nat.reduceSub, Nat.reduceMul, z0, z1, z2, z3, z4, z5, z6, z7, z8, z9, z10, z12, z16, z18, z24, z31, z33, z48, z49, z51, z53, z55, z57, z59, z60, z61, z63, z66, z97, z99, z111, z114, z115, z116, z118, z122, z126, z255, z854, z1000, z1111, z7143, z9999, z10000, zM, zMn, nI_add, pk_mul, zsub, zlt_t, zlt_f, zle_t, zle_f, zeq_t, zeq_f, zeM1, zeM2, zeM3, zltM, zleM, nI_clamp, zin, false_or, or_false, true_and, and_true, false_and, and_false, not_true_eq_false, not_false_eq_true, true_imp_iff, false_imp_iff, implies_true, if_true, if_false, M_thrown, M_s, M_saved, M_text, M_length, M_at, M_letter, M_first, M_second, M_third, M_fourth, M_hash, sM_thrown, sM_saved, sM_length, sM_at, sM_letter, sM_first, sM_second, sM_third, sM_fourth, sM_hash, aM_s, wM_s, aM_text, wM_text, h1, e]
  · have e := h3 a (by omega)
    rw [e]
    simp (disch := omega) only [jn, Nat.reduceAdd, Nat.reduceSub, Nat.reduceMul, z0, z1, z2, z3, z4, z5, z6, z7, z8, z9, z10, z12, z16, z18, z24, z31, z33, z48, z49, z51, z53, z55, z57, z59, z60, z61, z63, z66, z97, z99, z111, z114, z115, z116, z118, z122, z126, z255, z854, z1000, z1111, z7143, z9999, z10000, zM, zMn, nI_add, pk_mul, zsub, zlt_t, zlt_f, zle_t, zle_f, zeq_t, zeq_f, zeM1, zeM2, zeM3, zltM, zleM, nI_clamp, zin, false_or, or_false, true_and, and_true, false_and, and_false, not_true_eq_false, not_false_eq_true, true_imp_iff, false_imp_iff, implies_true, if_true, if_false, M_thrown, M_s, M_saved, M_text, M_length, M_at, M_letter, M_first, M_second, M_third, M_fourth, M_hash, sM_thrown, sM_saved, sM_length, sM_at, sM_letter, sM_first, sM_second, sM_third, sM_fourth, sM_hash, aM_s, wM_s, aM_text, wM_text, h1]
theorem X4_tk_y (H : MW tx ln w L) {a c : Nat} (ha : a < 1000) (h : w a = c) {post : Int32 → Md → Prop} : wp_X4_takes (x0, f, sv, tx, ln, nI a, le, fi, se, ti, fo, hs) (nI c) post = post (nI 1) (x0, f, sv, tx, ln, nI (a + 1), le, fi, se, ti, fo, hs) := by
  unfold wp_X4_takes
  rw [X4_sign H ha, h]
  have e : (nI c = nI c) = True := eq_true rfl
  simp (disch := omega) only [jn, Nat.reduceAdd, Nat.reduceSub, Nat.reduceMul, z0, z1, z2, z3, z4, z5, z6, z7, z8, z9, z10, z12, z16, z18, z24, z31, z33, z48, z49, z51, z53, z55, z57, z59, z60, z61, z63, z66, z97, z99, z111, z114, z115, z116, z118, z122, z126, z255, z854, z1000, z1111, z7143, z9999, z10000, zM, zMn, nI_add, pk_mul, zsub, zlt_t, zlt_f, zle_t, zle_f, zeq_t, zeq_f, zeM1, zeM2, zeM3, zltM, zleM, nI_clamp, zin, false_or, or_false, true_and, and_true, false_and, and_false, not_true_eq_false, not_false_eq_true, true_imp_iff, false_imp_iff, implies_true, if_true, if_false, M_thrown, M_s, M_saved, M_text, M_length, M_at, M_letter, M_first, M_second, M_third, M_fourth, M_hash, sM_thrown, sM_saved, sM_length, sM_at, sM_letter, sM_first, sM_second, sM_third, sM_fourth, sM_hash, aM_s, wM_s, aM_text, wM_text, e]
theorem X4_tk_n (H : MW tx ln w L) {a c : Nat} (ha : a < 1000) (hc : c < 1000) (h : w a ≠ c) {post : Int32 → Md → Prop} : wp_X4_takes (x0, f, sv, tx, ln, nI a, le, fi, se, ti, fo, hs) (nI c) post = post (nI 0) (x0, f, sv, tx, ln, nI a, le, fi, se, ti, fo, hs) := by
  have hw := m_le H a
  unfold wp_X4_takes
  rw [X4_sign H ha]
  have e : (nI (w a) = nI c) = False := zeq_f h (by omega) (by omega)
  simp (disch := omega) only [jn, Nat.reduceAdd, Nat.reduceSub, Nat.reduceMul, z0, z1, z2, z3, z4, z5, z6, z7, z8, z9, z10, z12, z16, z18, z24, z31, z33, z48, z49, z51, z53, z55, z57, z59, z60, z61, z63, z66, z97, z99, z111, z114, z115, z116, z118, z122, z126, z255, z854, z1000, z1111, z7143, z9999, z10000, zM, zMn, nI_add, pk_mul, zsub, zlt_t, zlt_f, zle_t, zle_f, zeq_t, zeq_f, zeM1, zeM2, zeM3, zltM, zleM, nI_clamp, zin, false_or, or_false, true_and, and_true, false_and, and_false, not_true_eq_false, not_false_eq_true, true_imp_iff, false_imp_iff, implies_true, if_true, if_false, M_thrown, M_s, M_saved, M_text, M_length, M_at, M_letter, M_first, M_second, M_third, M_fourth, M_hash, sM_thrown, sM_saved, sM_length, sM_at, sM_letter, sM_first, sM_second, sM_third, sM_fourth, sM_hash, aM_s, wM_s, aM_text, wM_text, e, Nat.add_zero]
theorem X4_fig_y (H : MW tx ln w L) {a lo hi : Nat} (ha : a < 1000) (hh : lo < 10 ∧ hi < 10) (h : 48 + lo ≤ w a ∧ w a ≤ 48 + hi) {post : Int32 → Md → Prop} : wp_X4_figure (x0, f, sv, tx, ln, nI a, le, fi, se, ti, fo, hs) (nI lo) (nI hi) post = post (nI (w a - 48)) (x0, f, sv, tx, ln, nI (a + 1), le, fi, se, ti, fo, hs) := by
  have hw := m_le H a
  have e : dgB (48 + lo) (48 + hi) (w a) = true := decide_eq_true h
  unfold wp_X4_figure
  simp (disch := omega) only [z48, z0, z1, zM, nI_add, X4_sign H, X4_in, btw, e, bI_t]
  simp (disch := omega) only [jn, Nat.reduceAdd, Nat.reduceSub, Nat.reduceMul, z0, z1, z2, z3, z4, z5, z6, z7, z8, z9, z10, z12, z16, z18, z24, z31, z33, z48, z49, z51, z53, z55, z57, z59, z60, z61, z63, z66, z97, z99, z111, z114, z115, z116, z118, z122, z126, z255, z854, z1000, z1111, z7143, z9999, z10000, zM, zMn, nI_add, pk_mul, zsub, zlt_t, zlt_f, zle_t, zle_f, zeq_t, zeq_f, zeM1, zeM2, zeM3, zltM, zleM, nI_clamp, zin, false_or, or_false, true_and, and_true, false_and, and_false, not_true_eq_false, not_false_eq_true, true_imp_iff, false_imp_iff, implies_true, if_true, if_false, M_thrown, M_s, M_saved, M_text, M_length, M_at, M_letter, M_first, M_second, M_third, M_fourth, M_hash, sM_thrown, sM_saved, sM_length, sM_at, sM_letter, sM_first, sM_second, sM_third, sM_fourth, sM_hash, aM_s, wM_s, aM_text, wM_text]
theorem X4_fig_n (H : MW tx ln w L) {a lo hi : Nat} (ha : a < 1000) (hh : lo < 10 ∧ hi < 10) (h : ¬ (48 + lo ≤ w a ∧ w a ≤ 48 + hi)) {post : Int32 → Md → Prop} : wp_X4_figure (x0, f, sv, tx, ln, nI a, le, fi, se, ti, fo, hs) (nI lo) (nI hi) post = post nM (x0, f, sv, tx, ln, nI a, le, fi, se, ti, fo, hs) := by
  have hw := m_le H a
  have e : dgB (48 + lo) (48 + hi) (w a) = false := decide_eq_false h
  unfold wp_X4_figure
  simp (disch := omega) only [z48, z0, z1, zM, nI_add, X4_sign H, X4_in, btw, e, bI_f]
  simp (disch := omega) only [jn, Nat.reduceAdd, Nat.reduceSub, Nat.reduceMul, z0, z1, z2, z3, z4, z5, z6, z7, z8, z9, z10, z12, z16, z18, z24, z31, z33, z48, z49, z51, z53, z55, z57, z59, z60, z61, z63, z66, z97, z99, z111, z114, z115, z116, z118, z122, z126, z255, z854, z1000, z1111, z7143, z9999, z10000, zM, zMn, nI_add, pk_mul, zsub, zlt_t, zlt_f, zle_t, zle_f, zeq_t, zeq_f, zeM1, zeM2, zeM3, zltM, zleM, nI_clamp, zin, false_or, or_false, true_and, and_true, false_and, and_false, not_true_eq_false, not_false_eq_true, true_imp_iff, false_imp_iff, implies_true, if_true, if_false, M_thrown, M_s, M_saved, M_text, M_length, M_at, M_letter, M_first, M_second, M_third, M_fourth, M_hash, sM_thrown, sM_saved, sM_length, sM_at, sM_letter, sM_first, sM_second, sM_third, sM_fourth, sM_hash, aM_s, wM_s, aM_text, wM_text, Nat.add_zero]
theorem X4_ri_n (H : MW tx ln w L) {a : Nat} (ha : a < 1000) {p1 p2 : Int32} (h : ¬ (48 ≤ w a ∧ w a ≤ 55)) {post : Int32 → Md → Prop} (hp : post nM (x0, f, sv, tx, ln, nI a, le, fi, se, ti, fo, hs)) : wp_X4_readsInn (x0, f, sv, tx, ln, nI a, le, fi, se, ti, fo, hs) p1 p2 post := by
  unfold wp_X4_readsInn
  simp only [z0, z7, zM]
  rw [X4_sign H ha]
  refine ⟨fun _ => hp, fun _ => ?_⟩
  rw [X4_sign H ha]
  refine ⟨fun _ => ?_, fun _ => hp⟩
  rw [X4_fig_n H ha (by omega) (by omega)]
  exact hp
theorem X4_ri_e (H : MW tx ln w L) {a d : Nat} (ha : a < 1000) {p1 p2 : Int32} (h : w a = 48 + d) (h2 : nI d = p1 ∨ nI d = p2) {post : Int32 → Md → Prop} (hp : post nM (x0, f, sv, tx, ln, nI a, le, fi, se, ti, fo, hs)) : wp_X4_readsInn (x0, f, sv, tx, ln, nI a, le, fi, se, ti, fo, hs) p1 p2 post := by
  unfold wp_X4_readsInn
  simp only [z0, z7, z48, zM]
  rw [X4_sign H ha, zsub (by omega), show w a - 48 = d by omega]
  refine ⟨fun _ => hp, fun n => ?_⟩
  rw [X4_sign H ha, zsub (by omega), show w a - 48 = d by omega]
  refine ⟨fun n2 => ?_, fun _ => hp⟩
  rcases h2 with h2 | h2
  · exact absurd h2 n
  · exact absurd h2 n2
theorem X4_ri_y (H : MW tx ln w L) {a d : Nat} (ha : a < 1000) (hd : d ≤ 7) {p1 p2 : Int32} (h : w a = 48 + d) (h1 : ¬ nI d = p1) (h2 : ¬ nI d = p2) {post : Int32 → Md → Prop} (hp : post (nI d) (x0, f, sv, tx, ln, nI (a + 1), le, fi, se, ti, fo, hs)) : wp_X4_readsInn (x0, f, sv, tx, ln, nI a, le, fi, se, ti, fo, hs) p1 p2 post := by
  unfold wp_X4_readsInn
  simp only [z0, z7, z48, zM]
  rw [X4_sign H ha, zsub (by omega), show w a - 48 = d by omega]
  refine ⟨fun n => absurd n h1, fun _ => ?_⟩
  rw [X4_sign H ha, zsub (by omega), show w a - 48 = d by omega]
  refine ⟨fun _ => ?_, fun n => absurd n h2⟩
  rw [X4_fig_y H ha (by omega) (by omega), show w a - 48 = d by omega]
  exact hp
/-- what reading from a gives: q characters, a whole order or not -/
def RO (w : Nat → Nat) (L a q : Nat) (ok : Bool) : Prop := a + q ≤ L ∧ (∀ p, p < q → fiB w a p = true ∧ w (a + p) ≠ 59) ∧ ok = enB (w a) q ∧ (a + q < L → w (a + q) = 59 ∨ fiB w a q = false)
def RF (w : Nat → Nat) (a q : Nat) (fi se ti fo : Int32) : Prop := (w a = 114 → se = nI (w (a + 2) - 48) ∧ ti = nI (w (a + 3) - 48) ∧ fo = nI (w (a + 4) - 48)) ∧ fi = nI (w (a + 1) - 48) ∧ (w a = 97 ∨ w a = 115 → se = nI (bdV w a (q - 3)))
theorem fi_R {a p : Nat} (h : w a = 114) (hp : 1 ≤ p) (h59 : w (a + p) ≠ 59) : fiB w a p = lyB w a p := by
  unfold fiB
  rw [if_neg (by omega), if_neg h59, if_neg (by omega), if_pos h]
theorem ly_y {a p : Nat} (hp : p ≤ 3) (r : 48 ≤ w (a + p) ∧ w (a + p) ≤ 55) (d1 : 2 ≤ p → w (a + 1) ≠ w (a + p)) (d2 : 3 ≤ p → w (a + 2) ≠ w (a + p)) : lyB w a p = true := by
  unfold lyB dgB
  rw [if_pos hp, decide_eq_true r, decide_eq_true ⟨fun q => d1 q.1 q.2, fun q => d2 q.1 q.2⟩]
  rfl
theorem ly_n {a p : Nat} (hp : p ≤ 3) (r : ¬ (48 ≤ w (a + p) ∧ w (a + p) ≤ 55) ∨ (2 ≤ p ∧ w (a + 1) = w (a + p)) ∨ (3 ≤ p ∧ w (a + 2) = w (a + p))) : lyB w a p = false := by
  unfold lyB dgB
  rw [if_pos hp]
  rcases r with r | r | r
  · rw [decide_eq_false r, Bool.and_false]
  · rw [decide_eq_false (fun q => q.1 r)]; rfl
  · rw [decide_eq_false (fun q => q.2 r)]; rfl
theorem ly4_n {a : Nat} (r : ¬ (48 ≤ w (a + 4) ∧ w (a + 4) ≤ 51)) : lyB w a 4 = false := by
  unfold lyB dgB
  rw [if_neg (by omega), decide_eq_false r, Bool.and_false]
theorem ly4_y {a : Nat} (r : 48 ≤ w (a + 4) ∧ w (a + 4) ≤ 51) : lyB w a 4 = true := by
  unfold lyB dgB
  rw [if_neg (by omega), decide_eq_true r]
  rfl
theorem ly5_n {a : Nat} : lyB w a 5 = false := by
  unfold lyB
  rw [if_neg (by omega), decide_eq_false (by omega), Bool.false_and]
theorem nfR {a p : Nat} (h : w a = 114) (hp : 1 ≤ p) (hb : lyB w a p = false) : w (a + p) = 59 ∨ fiB w a p = false := by
  by_cases h59 : w (a + p) = 59
  · exact Or.inl h59
  · exact Or.inr (by rw [fi_R h hp h59]; exact hb)
theorem fi_0 {a : Nat} (h : sgB (w a) = true) : fiB w a 0 = true := by
  unfold fiB
  rw [if_pos rfl]
  exact h
theorem en_R {a q : Nat} (h : w a = 114) : enB (w a) q = decide (q = 5) := by
  unfold enB
  rw [if_neg (by omega), if_pos h]
theorem X4_road (H : MW tx ln w L) {a : Nat} (ha : w a = 114) {post : Int32 → Md → Prop} (hp : ∀ (q : Nat) (ok : Bool) (fi se ti fo : Int32), RO w L a q ok → (ok = true → RF w a q fi se ti fo) → post (bI ok) (x0, f, sv, tx, ln, nI (a + q), le, fi, se, ti, fo, hs)) : wp_X4_readsRoad (x0, f, sv, tx, ln, nI (a + 1), le, fi, se, ti, fo, hs) post := by
  have h60 := H.1
  have haL : a < L := m_lt H (by omega)
  have l1 : w (a + 1) ≠ 0 → a + 1 < L := m_lt H
  have l2 : w (a + 2) ≠ 0 → a + 2 < L := m_lt H
  have l3 : w (a + 3) ≠ 0 → a + 3 < L := m_lt H
  have l4 : w (a + 4) ≠ 0 → a + 4 < L := m_lt H
  have f0 : fiB w a 0 = true ∧ w (a + 0) ≠ 59 := ⟨fi_0 (by rw [ha]; decide), by rw [Nat.add_zero]; omega⟩
  have fail : ∀ (q : Nat) (fi se ti fo : Int32), 1 ≤ q → q ≤ 4 → a + q ≤ L → (∀ p, 1 ≤ p → p < q → lyB w a p = true ∧ w (a + p) ≠ 59) → lyB w a q = false → post (nI 0) (x0, f, sv, tx, ln, nI (a + q), le, fi, se, ti, fo, hs) := by
    intro q fi se ti fo h1 h4 hL hfit hno
    refine hp q false fi se ti fo ⟨hL, fun p hp2 => ?_, ?_, fun _ => nfR ha h1 hno⟩ (fun n => Bool.noConfusion n)
    · by_cases e : p = 0
      · rw [e]; exact f0
      · have := hfit p (by omega) hp2
        exact ⟨by rw [fi_R ha (by omega) this.2]; exact this.1, this.2⟩
    · rw [en_R ha, decide_eq_false (by omega)]
  unfold wp_X4_readsRoad jn
  simp only [M_thrown, M_s, M_saved, M_text, M_length, M_at, M_letter, M_first, M_second, M_third, M_fourth, M_hash, sM_thrown, sM_saved, sM_length, sM_at, sM_letter, sM_first, sM_second, sM_third, sM_fourth, sM_hash, aM_s, wM_s, aM_text, wM_text, z0, z1, z3, z5, z7, z9, z48, z57, z59, z61, z97, z99, z111, z114, z115, z116, z1000, zM, zMn]
  by_cases c1 : 48 ≤ w (a + 1) ∧ w (a + 1) ≤ 55
  · obtain ⟨d1, e1⟩ : ∃ d, w (a + 1) = 48 + d := ⟨w (a + 1) - 48, by omega⟩
    have m1 : ¬ nI d1 = nM := by rw [zeM1 (by omega)]; exact not_false
    have g1 : lyB w a 1 = true ∧ w (a + 1) ≠ 59 := ⟨ly_y (by omega) c1 (fun q => by omega) (fun q => by omega), by omega⟩
    refine X4_ri_y H (d := d1) (by omega) (by omega) e1 m1 m1 ?_
    refine ⟨fun _ => ?_, fun n => absurd n m1⟩
    dsimp only
    by_cases c2 : 48 ≤ w (a + 1 + 1) ∧ w (a + 1 + 1) ≤ 55
    · have c2' : 48 ≤ w (a + 2) ∧ w (a + 2) ≤ 55 := c2
      obtain ⟨d2, e2⟩ : ∃ d, w (a + 2) = 48 + d := ⟨w (a + 2) - 48, by omega⟩
      have m2 : ¬ nI d2 = nM := by rw [zeM1 (by omega)]; exact not_false
      by_cases q12 : d2 = d1
      · refine X4_ri_e H (d := d2) (by omega) e2 (Or.inl (by rw [q12])) ?_
        refine ⟨fun n => absurd (by first | exact rfl | exact trivial) n, fun _ => ⟨fun n => absurd (by first | exact rfl | exact trivial) n, fun _ => ⟨fun _ => ?_, fun n => absurd (by first | exact rfl | exact trivial) n⟩⟩⟩
        refine fail 2 _ _ _ _ (by omega) (by omega) (by omega) (fun p hp1 hp2 => ?_) (ly_n (by omega) (Or.inr (Or.inl ⟨by omega, by omega⟩)))
        obtain rfl : p = 1 := by omega
        exact g1
      have n12 : ¬ nI d2 = nI d1 := by rw [zeq_f q12 (by omega) (by omega)]; exact not_false
      have g2 : lyB w a 2 = true ∧ w (a + 2) ≠ 59 := ⟨ly_y (by omega) c2' (fun q => by omega) (fun q => by omega), by omega⟩
      refine X4_ri_y H (d := d2) (by omega) (by omega) e2 n12 m2 ?_
      refine ⟨fun _ => ?_, fun n => absurd n m2⟩
      dsimp only
      by_cases c3 : 48 ≤ w (a + 1 + 1 + 1) ∧ w (a + 1 + 1 + 1) ≤ 55
      · have c3' : 48 ≤ w (a + 3) ∧ w (a + 3) ≤ 55 := c3
        obtain ⟨d3, e3⟩ : ∃ d, w (a + 3) = 48 + d := ⟨w (a + 3) - 48, by omega⟩
        have m3 : ¬ nI d3 = nM := by rw [zeM1 (by omega)]; exact not_false
        by_cases q3 : d3 = d1 ∨ d3 = d2
        · refine X4_ri_e H (d := d3) (by omega) e3 (q3.elim (fun q => Or.inl (by rw [q])) (fun q => Or.inr (by rw [q]))) ?_
          refine ⟨fun n => absurd (by first | exact rfl | exact trivial) n, fun _ => ⟨fun _ => ?_, fun n => absurd (by first | exact rfl | exact trivial) n⟩⟩
          refine fail 3 _ _ _ _ (by omega) (by omega) (by omega) (fun p hp1 hp2 => ?_) (ly_n (by omega) (q3.elim (fun q => Or.inr (Or.inl ⟨by omega, by omega⟩)) (fun q => Or.inr (Or.inr ⟨by omega, by omega⟩))))
          rcases (show p = 1 ∨ p = 2 by omega) with rfl | rfl
          · exact g1
          · exact g2
        have n13 : ¬ nI d3 = nI d1 := by rw [zeq_f (fun q => q3 (Or.inl q)) (by omega) (by omega)]; exact not_false
        have n23 : ¬ nI d3 = nI d2 := by rw [zeq_f (fun q => q3 (Or.inr q)) (by omega) (by omega)]; exact not_false
        have g3 : lyB w a 3 = true ∧ w (a + 3) ≠ 59 := ⟨ly_y (by omega) c3' (fun q => by omega) (fun q => by omega), by omega⟩
        refine X4_ri_y H (d := d3) (by omega) (by omega) e3 n13 n23 ?_
        refine ⟨fun _ => ?_, fun n => absurd n m3⟩
        dsimp only
        by_cases c4 : 48 ≤ w (a + 4) ∧ w (a + 4) ≤ 51
        · rw [X4_fig_y H (by omega) (by omega) (show 48 + 0 ≤ w (a + 1 + 1 + 1 + 1) ∧ w (a + 1 + 1 + 1 + 1) ≤ 48 + 3 from c4)]
          have g4 : lyB w a 4 = true ∧ w (a + 4) ≠ 59 := ⟨ly4_y c4, by omega⟩
          have m4 : ¬ nI (w (a + 4) - 48) = nM := by rw [zeM1 (by omega)]; exact not_false
          refine ⟨fun n => absurd n m4, fun _ => ?_⟩
          refine hp 5 true _ _ _ _ ⟨by omega, fun p hp2 => ?_, ?_, fun _ => nfR ha (by omega) ly5_n⟩ (fun _ => ⟨fun _ => ⟨by rw [e2, Nat.add_sub_cancel_left], by rw [e3, Nat.add_sub_cancel_left], rfl⟩, by rw [e1, Nat.add_sub_cancel_left], fun q => absurd q (by omega)⟩)
          · rcases (show p = 0 ∨ p = 1 ∨ p = 2 ∨ p = 3 ∨ p = 4 by omega) with rfl | rfl | rfl | rfl | rfl
            · exact f0
            · exact ⟨by rw [fi_R ha (by omega) g1.2]; exact g1.1, g1.2⟩
            · exact ⟨by rw [fi_R ha (by omega) g2.2]; exact g2.1, g2.2⟩
            · exact ⟨by rw [fi_R ha (by omega) g3.2]; exact g3.1, g3.2⟩
            · exact ⟨by rw [fi_R ha (by omega) g4.2]; exact g4.1, g4.2⟩
          · rw [en_R ha]; rfl
        · rw [X4_fig_n H (by omega) (by omega) (show ¬ (48 + 0 ≤ w (a + 1 + 1 + 1 + 1) ∧ w (a + 1 + 1 + 1 + 1) ≤ 48 + 3) from c4)]
          refine ⟨fun _ => ?_, fun n => absurd (by first | exact rfl | exact trivial) n⟩
          refine fail 4 _ _ _ _ (by omega) (by omega) (by omega) (fun p hp1 hp2 => ?_) (ly4_n c4)
          rcases (show p = 1 ∨ p = 2 ∨ p = 3 by omega) with rfl | rfl | rfl
          · exact g1
          · exact g2
          · exact g3
      · refine X4_ri_n H (by omega) c3 ?_
        refine ⟨fun n => absurd (by first | exact rfl | exact trivial) n, fun _ => ⟨fun _ => ?_, fun n => absurd (by first | exact rfl | exact trivial) n⟩⟩
        refine fail 3 _ _ _ _ (by omega) (by omega) (by omega) (fun p hp1 hp2 => ?_) (ly_n (by omega) (Or.inl c3))
        rcases (show p = 1 ∨ p = 2 by omega) with rfl | rfl
        · exact g1
        · exact g2
    · refine X4_ri_n H (by omega) c2 ?_
      refine ⟨fun n => absurd (by first | exact rfl | exact trivial) n, fun _ => ⟨fun n => absurd (by first | exact rfl | exact trivial) n, fun _ => ⟨fun _ => ?_, fun n => absurd (by first | exact rfl | exact trivial) n⟩⟩⟩
      refine fail 2 _ _ _ _ (by omega) (by omega) (by omega) (fun p hp1 hp2 => ?_) (ly_n (by omega) (Or.inl c2))
      obtain rfl : p = 1 := by omega
      exact g1
  · refine X4_ri_n H (by omega) c1 ?_
    refine ⟨fun n => absurd (by first | exact rfl | exact trivial) n, fun _ => ⟨fun n => absurd (by first | exact rfl | exact trivial) n, fun _ => ⟨fun n => absurd (by first | exact rfl | exact trivial) n, fun _ => ⟨fun _ => ?_, fun n => absurd (by first | exact rfl | exact trivial) n⟩⟩⟩⟩
    exact fail 1 _ _ _ _ (by omega) (by omega) (by omega) (fun p hp1 hp2 => by omega) (ly_n (by omega) (Or.inl c1))
end
