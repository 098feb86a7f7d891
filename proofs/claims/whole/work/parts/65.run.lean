/-! run -/
def scN (w : Nat → Nat) (L : Nat) : Nat → Nat → Nat → Nat → AT → Nat × AT
  | 0, _, n, _, T => (n, T)
  | k + 1, e, n, s, T => if e = L ∨ w e = 59 then (if oxB w s T = true then scN w L k (e + 1) (n + 1) (e + 1) (oxT w s (e - s) T) else (n, T)) else scN w L k (e + 1) n s T
theorem sc_go {w : Nat → Nat} {L k e n s : Nat} {T : AT} (h : ¬ (e = L ∨ w e = 59)) : scN w L (k + 1) e n s T = scN w L k (e + 1) n s T := by
  show (if e = L ∨ w e = 59 then _ else _) = _
  exact if_neg h
theorem sc_do {w : Nat → Nat} {L k e n s : Nat} {T : AT} (h : e = L ∨ w e = 59) (h2 : oxB w s T = true) : scN w L (k + 1) e n s T = scN w L k (e + 1) (n + 1) (e + 1) (oxT w s (e - s) T) := by
  show (if e = L ∨ w e = 59 then _ else _) = _
  rw [if_pos h, if_pos h2]
theorem sc_st {w : Nat → Nat} {L k e n s : Nat} {T : AT} (h : e = L ∨ w e = 59) (h2 : oxB w s T = false) : scN w L (k + 1) e n s T = (n, T) := by
  show (if e = L ∨ w e = 59 then _ else _) = _
  rw [if_pos h, if_neg (fun q => by rw [h2] at q; cases q)]
theorem sc_skip {w : Nat → Nat} {L s n : Nat} {T : AT} : ∀ q k e, (∀ p, p < q → ¬ (e + p = L ∨ w (e + p) = 59)) → scN w L (k + q) e n s T = scN w L k (e + q) n s T
  | 0, k, e, _ => rfl
  | q + 1, k, e, h => by
    have h0 := h 0 (by omega)
    rw [Nat.add_zero] at h0
    have e1 : k + (q + 1) = (k + q) + 1 := by omega
    rw [e1, sc_go h0, sc_skip q k (e + 1) (fun p hp => by
      have := h (p + 1) (by omega)
      rw [show e + 1 + p = e + (p + 1) by omega]
      exact this), show e + 1 + q = e + (q + 1) by omega]
theorem sc_0 {w : Nat → Nat} {L e n s : Nat} {T : AT} : scN w L 0 e n s T = (n, T) := rfl
/-- in a whole text, what stands before a ';' or the end is an order -/
theorem CT_od {w : Nat → Nat} {L e : Nat} (hC : CT w L) (hz : w L = 0) (he : e ≤ L) (h : e = L ∨ w e = 59) : OD w (lsS w e) (e - lsS w e) := by
  have hle := lsS_le w e
  have hfit : ∀ j, j < L → fiB w (lsS w j) (j - lsS w j) = true := hC.1.2.1
  have en : enB (w (lsS w e)) (e - lsS w e) = true ∧ 0 < e - lsS w e := by
    by_cases h59 : w e = 59
    · have hlt : e < L := by
        rcases Nat.lt_or_ge e L with q | q
        · exact q
        · have : e = L := by omega
          rw [this, hz] at h59
          cases h59
      have hf := hfit e hlt
      by_cases q0 : e - lsS w e = 0
      · have es : lsS w e = e := by omega
        rw [q0, es] at hf
        unfold fiB sgB at hf
        rw [if_pos rfl, h59] at hf
        exact absurd (of_decide_eq_true hf) (by omega)
      · have hs : w (lsS w e + (e - lsS w e)) = 59 := by rw [show lsS w e + (e - lsS w e) = e by omega]; exact h59
        unfold fiB at hf
        rw [if_neg q0, if_pos hs] at hf
        exact ⟨hf, by omega⟩
    · have eL : e = L := h.resolve_right h59
      subst eL
      refine ⟨hC.2, ?_⟩
      rcases Nat.eq_zero_or_pos (e - lsS w e) with q0 | q0
      · have h2 := hC.2
        rw [q0] at h2
        unfold enB at h2
        split at h2
        · exact absurd (of_decide_eq_true h2) (by omega)
        · split at h2
          · exact absurd (of_decide_eq_true h2) (by omega)
          · split at h2
            · exact absurd (of_decide_eq_true h2) (by omega)
            · exact absurd (of_decide_eq_true h2) (by omega)
      · exact q0
  refine ⟨en.2, fun p hp => ?_, en.1⟩
  have em : lsS w (lsS w e + p) = lsS w e := lsS_mid w e _ (by omega) (by omega)
  have hf := hfit (lsS w e + p) (by omega)
  rw [em, Nat.add_sub_cancel_left] at hf
  exact ⟨hf, lsS_no w e _ (by omega) (by omega)⟩
theorem CT_pos {w : Nat → Nat} {L : Nat} (hC : CT w L) : 0 < L := by
  rcases Nat.eq_zero_or_pos L with h | h
  · subst h
    have h2 : enB (w 0) 0 = true := hC.2
    unfold enB at h2
    split at h2
    · exact absurd (of_decide_eq_true h2) (by omega)
    · split at h2
      · exact absurd (of_decide_eq_true h2) (by omega)
      · split at h2
        · exact absurd (of_decide_eq_true h2) (by omega)
        · exact absurd (of_decide_eq_true h2) (by omega)
  · exact h
theorem lpnR {Z : Type} {body : (Int32 → Int32 → Int32 → Z → Prop) → Int32 → Int32 → Int32 → Z → Prop} (N : Nat) (P : Nat → Int32 → Int32 → Z → Prop) (step : ∀ (K : Int32 → Int32 → Int32 → Z → Prop) (j : Nat) (x y : Int32) (z : Z), j < N → P j x y z → (∀ x y z, P (j + 1) x y z → K x y (nI (j + 1)) z) → body K x y (nI j) z) (last : ∀ (K : Int32 → Int32 → Int32 → Z → Prop) (x y : Int32) (z : Z), P N x y z → body K x y (nI N) z) {j : Nat} {x y : Int32} {z : Z} (hj : j ≤ N) (h : P j x y z) : LP4 body x y (nI j) z := by
  have key : ∀ (d j : Nat) (x y : Int32) (z : Z), j + d = N → P j x y z → lpc (fun _ _ _ _ => False) body (d + 1) x y (nI j) z := by
    intro d
    induction d with
    | zero => intro j x y z hd hp; obtain rfl : j = N := by omega
              exact last _ x y z hp
    | succ d ih => intro j x y z hd hp; exact step _ j x y z (by omega) hp (fun x y z q => ih (j + 1) x y z (by omega) q)
  exact ⟨_, key (N - j) j x y z (by omega) h⟩
section
variable {N : Ne} {T : AT} {w : Nat → Nat} {L : Nat}
theorem X3_run_loop (HC : CR N.1 T g0) (V : AV T g0) (HW : TW N.2.1 w L) (hC : CT w L) {post : Int32 → Ne → Prop} (hp : ∀ U', AV (scN w L L 1 0 0 T).2 g0 → CR U' (scN w L L 1 0 0 T).2 g0 → post (nI (scN w L L 1 0 0 T).1) (U', (N.2.1.1, nI 0), N.2.2)) :
    LP4 (fun (K10 : Int32 → Int32 → Int32 → Ne → Prop) (x6 : Int32) (x7 : Int32) (x8 : Int32) (u9 : Ne) => jn (fun (u12 : Ne) => wp_X0_empty (N_text u12) (fun r16 u17 => post x6 (sN_text u12 u17))) (fun (J13 : Ne → Prop) => ((O_length (N_text u9)) < x8 → J13 u9) ∧ (¬ (O_length (N_text u9)) < x8 → jn (wp_X3_executeOrder u9 x7 x8 (fun r22 u24 => (¬ r22 = 0 → K10 (x6 + 1) (x8 + (1 : Int32)) (x8 + 1) u24) ∧ (r22 = 0 → J13 u24))) (fun (J19 : Prop) => (x8 = (O_length (N_text u9)) → J19) ∧ (¬ x8 = (O_length (N_text u9)) → wp_X0_codeAt (N_text u9) x8 (fun r27 => (¬ r27 = (59 : Int32) → K10 x6 x7 (x8 + 1) u9) ∧ (r27 = (59 : Int32) → J19))))))) (0 : Int32) (0 : Int32) (1 : Int32) N := by
  have h60 := HW.1
  have hlen : N.2.1.2 = nI L := HW.2.1
  have hL := CT_pos hC
  generalize hR : scN w L L 1 0 0 T = R at hp
  simp only [z0, z1, z59]
  refine lpnR (L + 1) (fun e x y u => ∃ (n s : Nat) (T' : AT) (U' : St), x = nI n ∧ y = nI s ∧ u = (U', N.2.1, N.2.2) ∧ AV T' g0 ∧ CR U' T' g0 ∧ (e ≤ L → s = lsS w e) ∧ 1 ≤ e ∧ scN w L (L + 1 - e) e n s T' = R) ?_ ?_ (by omega) ⟨0, 0, T, N.1, rfl, rfl, rfl, V, HC, fun _ => ?_, Nat.le_refl _, ?_⟩
  · rintro K e x y u he ⟨n, s, T', U', rfl, rfl, rfl, V', HC', hs, h1, hsc⟩ hk
    have hse := hs (by omega)
    have hle := lsS_le w e
    have ek : L + 1 - e = (L - e) + 1 := by omega
    rw [ek] at hsc
    unfold jn
    refine ⟨fun q => absurd (show N.2.1.2 < nI e from q) (by rw [hlen]; exact nI_nlt (by omega) (by omega)), fun _ => ?_⟩
    have done : (e = L ∨ w e = 59) → wp_X3_executeOrder (U', N.2.1, N.2.2) (nI s) (nI e) (fun r22 u24 => (¬ r22 = nI 0 → K (nI n + nI 1) (nI e + nI 1) (nI e + nI 1) u24) ∧ (r22 = nI 0 → wp_X0_empty (N_text u24) (fun r16 u17 => post (nI n) (sN_text u24 u17)))) := by
      intro hd
      have hO := CT_od hC (HW.2.2.2 L (Nat.le_refl _)) (show e ≤ L by omega) hd
      rw [← hse] at hO
      have e1 : nI e = nI (s + (e - s)) := by rw [show s + (e - s) = e by omega]
      have main : wp_X3_executeOrder (U', N.2.1, N.2.2) (nI s) (nI (s + (e - s))) (fun r22 u24 => (¬ r22 = nI 0 → K (nI n + nI 1) (nI e + nI 1) (nI e + nI 1) u24) ∧ (r22 = nI 0 → wp_X0_empty (N_text u24) (fun r16 u17 => post (nI n) (sN_text u24 u17)))) := by
        refine X3_exec (N := (U', N.2.1, N.2.2)) HC' V' HW hO (by omega) (fun hx U2 hU2 => ?_) (fun hx => ?_)
        · refine ⟨fun _ => ?_, fun q => absurd q (by decide)⟩
          rw [nI_add, nI_add]
          rw [sc_do hd hx] at hsc
          exact hk _ _ _ ⟨n + 1, e + 1, _, U2, rfl, rfl, rfl, AV_ex V' hO hx, hU2, fun hlt => by
            show e + 1 = if w e = 59 then e + 1 else lsS w e
            rw [if_pos (hd.resolve_left (by omega))], by omega, by rw [show L + 1 - (e + 1) = L - e by omega]; exact hsc⟩
        · refine ⟨fun q => absurd rfl q, fun _ => ?_⟩
          rw [sc_st hd hx] at hsc
          subst hsc
          exact hp U' V' HC'
      rw [← e1] at main
      exact main
    by_cases hd : e = L ∨ w e = 59
    · refine ⟨fun _ => done hd, fun q => ?_⟩
      have h59 : w e = 59 := hd.resolve_left (fun q2 => q (by show nI e = N.2.1.2; rw [hlen, q2]))
      rw [X0_codeAt (t := N.2.1) HW (by omega), h59]
      exact ⟨fun q2 => absurd rfl q2, fun _ => done hd⟩
    · refine ⟨fun q => absurd (Or.inl ((nI_eq (by omega) (by omega)).mp ((show nI e = N.2.1.2 from q).trans hlen))) hd, fun _ => ?_⟩
      have hwe := w_le HW e
      rw [X0_codeAt (t := N.2.1) HW (by omega), bq (by omega) (by decide)]
      refine ⟨fun _ => ?_, fun q => absurd (Or.inr q) hd⟩
      rw [nI_add]
      rw [sc_go hd] at hsc
      exact hk _ _ _ ⟨n, s, T', U', rfl, rfl, rfl, V', HC', fun hlt => by
        show s = if w e = 59 then e + 1 else lsS w e
        rw [if_neg (fun q => hd (Or.inr q))]
        exact hse, by omega, by rw [show L + 1 - (e + 1) = L - e by omega]; exact hsc⟩
  · rintro K x y u ⟨n, s, T', U', rfl, rfl, rfl, V', HC', hs, h1, hsc⟩
    rw [Nat.sub_self] at hsc
    unfold jn
    refine ⟨fun _ => ?_, fun q => absurd (show N.2.1.2 < nI (L + 1) by rw [hlen]; exact nI_lt (by omega) (by omega)) q⟩
    have hsc2 : (n, T') = R := hsc
    subst hsc2
    exact hp U' V' HC'
  · show 0 = if w 0 = 59 then 0 + 1 else lsS w 0
    have hf := hC.1.2.1 0 hL
    have hsg : sgB (w 0) = true := by
      have : fiB w 0 0 = true := hf
      unfold fiB at this
      rw [if_pos rfl] at this
      exact this
    have := of_decide_eq_true hsg
    rw [if_neg (by omega)] <;> rfl
  · rw [Nat.add_sub_cancel]
    exact hR
end
