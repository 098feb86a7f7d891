section
variable {x0 : Int32} {f : Nat → Int32} {sv : Int32} {tx : Nat → Int32} {ln le fi se ti fo : Int32} {hs : Int64} {w : Nat → Nat} {L : Nat} {T : AT}
theorem en_0 : enB 0 0 = false := by decide
theorem X4_run_loop (HR : RR f T g0) (V : AV T g0) (H : MW tx ln w L) (hC : CT w L) {post : Int32 → Md → Prop} (hp : ∀ f' at1 le fi se ti fo, RR f' (scN w L L 1 0 0 T).2 g0 → (∀ k, 122 ≤ k → f' k = f k) → post (nI (scN w L L 1 0 0 T).1) (x0, f', sv, tx, nI 0, at1, le, fi, se, ti, fo, hs)) :
    LP2 (fun (K17 : Int32 → Md → Prop) (x15 : Int32) (u16 : Md) => wp_X4_readsOrder u16 (fun r19 u21 => jn (fun (u22 : Md) => post x15 (sM_length u22 (0 : Int32))) (fun (J23 : Md → Prop) => (r19 = 0 → J23 u21) ∧ (¬ r19 = 0 → wp_X4_isDone u21 (fun r27 u29 => (r27 = 0 → J23 u29) ∧ (¬ r27 = 0 → wp_X4_takes u29 (59 : Int32) (fun r31 u33 => K17 (x15 + 1) u33))))))) (0 : Int32) (x0, f, sv, tx, ln, nI 0, le, fi, se, ti, fo, hs) := by
  have h60 := H.1
  have hL := CT_pos hC
  have hz : w L = 0 := H.2.2.2 L (Nat.le_refl _)
  have hfit : ∀ j, j < L → fiB w (lsS w j) (j - lsS w j) = true := hC.1.2.1
  have od0 : ∀ e, e ≤ L → (e = L ∨ w e = 59) → OD w (lsS w e) (e - lsS w e) := fun e he h => CT_od hC hz he h
  have n0 : ¬ (0 = L ∨ w 0 = 59) := by
    have hf := hfit 0 hL
    have hsg : sgB (w 0) = true := by
      have : fiB w 0 0 = true := hf
      unfold fiB at this
      rw [if_pos rfl] at this
      exact this
    have := of_decide_eq_true hsg
    omega
  have hst : scN w L (L + 1) 0 0 0 T = scN w L L 1 0 0 T := sc_go n0
  generalize scN w L L 1 0 0 T = R at hp hst
  simp only [z0, z1, z59]
  refine lpi2 (fun x u => ∃ (n a : Nat) (T' : AT) (f' : Nat → Int32) (le fi se ti fo : Int32), x = nI n ∧ u = (x0, f', sv, tx, ln, nI a, le, fi, se, ti, fo, hs) ∧ AV T' g0 ∧ RR f' T' g0 ∧ (∀ k, 122 ≤ k → f' k = f k) ∧ ((a < L ∧ lsS w a = a ∧ scN w L (L + 1 - a) a n a T' = R) ∨ (a = L ∧ (n, T') = R))) (fun _ u => 100 - (M_at u).toNatClampNeg) ?_ _ _ ⟨0, 0, T, f, _, _, _, _, _, rfl, rfl, V, HR, fun k _ => rfl, Or.inl ⟨hL, rfl, hst⟩⟩
  rintro K x u ⟨n, a, T', f', le, fi, se, ti, fo, rfl, rfl, V', HR', hf', hc⟩ hk
  refine X4_order H (hc.elim (fun h => Nat.le_of_lt h.1) (fun h => Nat.le_of_eq h.1)) (fun q ok fi se ti fo hr hF => ?_)
  unfold jn
  have stop : (n, T') = R → ∀ le fi se ti fo : Int32, post (nI n) (x0, f', sv, tx, nI 0, nI (a + q), le, fi, se, ti, fo, hs) := by
    intro e le fi se ti fo
    subst e
    exact hp f' _ le fi se ti fo HR' hf'
  rcases hc with ⟨haL, hla, hsc⟩ | ⟨rfl, hR⟩
  · obtain ⟨r1, r2, r3, r4⟩ := hr
    have hle : lsS w (a + q) = a := lsS_run w a hla q (fun p hp => (r2 p hp).2)
    have hd : a + q = L ∨ w (a + q) = 59 := by
      by_cases e : a + q = L
      · exact Or.inl e
      · right
        rcases r4 (by omega) with h | h
        · exact h
        · have := hfit (a + q) (by omega)
          rw [hle, Nat.add_sub_cancel_left, h] at this
          cases this
    have hO := od0 (a + q) r1 hd
    rw [hle, Nat.add_sub_cancel_left] at hO
    have hok : ok = true := by rw [r3]; exact hO.2.2
    subst hok
    refine ⟨fun g => absurd g (by decide), fun _ => ?_⟩
    have hsk : scN w L (L + 1 - a) a n a T' = scN w L (L - (a + q) + 1) (a + q) n a T' := by
      rw [show L + 1 - a = (L - (a + q) + 1) + q by omega]
      exact sc_skip q _ a (fun p hp => by
        rintro (e | e)
        · omega
        · exact (r2 p hp).2 e)
    rw [hsk] at hsc
    have hwa : w a ≤ 126 := m_le H a
    refine X4_done HR' V' hwa hO (hF rfl) (fun hx f2 hR2 hf2 => ?_) (fun hx => ?_)
    · refine ⟨fun g => absurd g (by decide), fun _ => ?_⟩
      rw [sc_do hd hx, show a + q - a = q by omega] at hsc
      have hq := hO.1
      by_cases h59 : w (a + q) = 59
      · rw [X4_tk_y H (by omega) h59, nI_add]
        have hlt : a + q + 1 < L := by
          have h1 : a + q < L := m_lt H (by omega)
          by_cases e : a + q + 1 = L
          · have o2 := (od0 L (Nat.le_refl _) (Or.inl rfl)).1
            have e2 : lsS w L = L := by
              rw [← e]
              show (if w (a + q) = 59 then a + q + 1 else lsS w (a + q)) = a + q + 1
              rw [if_pos h59]
            omega
          · omega
        refine hk _ _ ⟨n + 1, a + q + 1, _, f2, _, _, _, _, _, rfl, rfl, AV_ex V' hO hx, hR2, fun k hk => (hf2 k hk).trans (hf' k hk), Or.inl ⟨hlt, ?_, ?_⟩⟩ ?_
        · show (if w (a + q) = 59 then a + q + 1 else lsS w (a + q)) = a + q + 1
          rw [if_pos h59]
        · rw [show L + 1 - (a + q + 1) = L - (a + q) by omega]
          exact hsc
        · show 100 - (nI (a + q + 1)).toNatClampNeg < 100 - (nI a).toNatClampNeg
          rw [nI_clamp (by omega), nI_clamp (by omega)]
          omega
      · rw [X4_tk_n H (by omega) (by decide) h59, nI_add]
        have eL : a + q = L := hd.resolve_right h59
        rw [show L - (a + q) = 0 by omega] at hsc
        refine hk _ _ ⟨n + 1, a + q, _, f2, _, _, _, _, _, rfl, rfl, AV_ex V' hO hx, hR2, fun k hk => (hf2 k hk).trans (hf' k hk), Or.inr ⟨eL, hsc⟩⟩ ?_
        show 100 - (nI (a + q)).toNatClampNeg < 100 - (nI a).toNatClampNeg
        rw [nI_clamp (by omega), nI_clamp (by omega)]
        omega
    · refine ⟨fun _ => ?_, fun g => absurd rfl g⟩
      rw [sc_st hd hx] at hsc
      exact stop hsc _ _ _ _ _
  · obtain ⟨r1, r2, r3, r4⟩ := hr
    obtain rfl : q = 0 := by omega
    rw [hz, en_0] at r3
    subst r3
    exact ⟨fun _ => stop hR _ _ _ _ _, fun g => absurd rfl g⟩
end
section
variable {N : Ne} {T : AT} {w : Nat → Nat} {L z nx : Nat}
theorem X3_run_y (HC : CR N.1 T g0) (V : AV T g0) (HW : TW N.2.1 w L) (hC : CT w L) (hz : z ≤ 6) (hnx : nx < 6) (hs1 : N.2.2.2.2 = nI z) (hs2 : N.2.2.2.1 = nI nx) {post : Int32 → Ne → Prop} {xp : Nat → Ne → Prop} (hp : ∀ u' U', (∀ T, AV T g0 → CR N.1 T g0 → CR u' T g0) → AV (scN w L L 1 0 0 T).2 g0 → CR U' (scN w L L 1 0 0 T).2 g0 → post (nI (scN w L L 1 0 0 T).1) (U', (N.2.1.1, nI 0), va_up N.2.2.1 nx u', nI ((nx + 1) % 6), nI (if z < 6 then z + 1 else 6))) : wp_X3_run N post xp := by
  unfold wp_X3_run
  refine X0_complete HW (fun _ => ?_) (fun h => absurd hC h)
  refine ⟨fun _ => ?_, fun n => absurd n (by decide)⟩
  refine X1_keep hz hnx hs1 hs2 (fun u' hu' => ?_)
  exact X3_run_loop (N := (N.1, N.2.1, va_up N.2.2.1 nx u', nI ((nx + 1) % 6), nI (if z < 6 then z + 1 else 6))) HC V HW hC (fun U' hV' hU' => hp u' U' hu' hV' hU')
theorem X3_run_n (HW : TW N.2.1 w L) (hC : ¬ CT w L) {post : Int32 → Ne → Prop} {xp : Nat → Ne → Prop} (hp : xp 2 N) : wp_X3_run N post xp := by
  unfold wp_X3_run
  refine X0_complete HW (fun h => absurd h hC) (fun _ => ?_)
  exact ⟨fun n => absurd rfl n, fun _ => hp⟩
end
section
variable {x0 : Int32} {f : Nat → Int32} {sv : Int32} {tx : Nat → Int32} {ln at0 le fi se ti fo : Int32} {hs : Int64} {w : Nat → Nat} {L z : Nat} {T : AT}
theorem X4_run_y (HR : RR f T g0) (V : AV T g0) (H : MW tx ln w L) (hC : CT w L) (hz : z ≤ 6) (hs3 : sv = nI z) {post : Int32 → Md → Prop} (hp : ∀ (f1 f2 : Nat → Int32) (at1 le fi se ti fo : Int32), (∀ k, k < 122 → f1 (122 * (if z < 6 then z + 1 else 6) + k) = f k) → (∀ j k, 1 ≤ j → j < (if z < 6 then z + 1 else 6) → k < 122 → f1 (122 * j + k) = f (122 * (j + (if z < 6 then 0 else 1)) + k)) → RR f2 (scN w L L 1 0 0 T).2 g0 → (∀ k, 122 ≤ k → f2 k = f1 k) → post (nI (scN w L L 1 0 0 T).1) (nI 0, f2, nI (if z < 6 then z + 1 else 6), tx, nI 0, at1, le, fi, se, ti, fo, hs)) : wp_X4_run (x0, f, sv, tx, ln, at0, le, fi, se, ti, fo, hs) post := by
  unfold wp_X4_run
  refine X4_are H (fun E ok le fi se ti fo hE hiff => ?_)
  obtain rfl : ok = true := hiff.mpr hC
  unfold jn
  refine ⟨fun n => absurd n (by decide), fun _ => ?_⟩
  unfold wp_X4_holds
  refine ⟨fun n => absurd rfl n, fun _ => ?_⟩
  refine ⟨fun _ => ?_, fun n => absurd n (by decide)⟩
  refine X4_save (v := (nI 0, f, sv, tx, ln, nI E, le, fi, se, ti, fo, hs)) hz hs3 (fun f1 q1 q2 q3 => ?_)
  have R1 : RR f1 T g0 := RR_congr V HR q1
  exact X4_run_loop R1 V H hC (fun f2 at2 le2 fi2 se2 ti2 fo2 hR2 hf2 => hp f1 f2 at2 le2 fi2 se2 ti2 fo2 q2 q3 hR2 hf2)
theorem X4_run_n (H : MW tx ln w L) (hC : ¬ CT w L) {post : Int32 → Md → Prop} (hp : ∀ at1 le fi se ti fo, post (nI 0) (nI 1, f, sv, tx, ln, at1, le, fi, se, ti, fo, hs)) : wp_X4_run (x0, f, sv, tx, ln, at0, le, fi, se, ti, fo, hs) post := by
  unfold wp_X4_run
  refine X4_are H (fun E ok le fi se ti fo hE hiff => ?_)
  cases ok
  · unfold jn
    refine ⟨fun _ => ?_, fun n => absurd rfl n⟩
    unfold wp_X4_holds
    refine ⟨fun _ => ?_, fun n => absurd n (by decide)⟩
    refine ⟨fun n => absurd rfl n, fun _ => ?_⟩
    exact hp _ _ _ _ _ _
  · exact absurd (hiff.mp rfl) hC
end
section
variable {xs : Nat → Int32} {i : Int32} {N : Ne} {O : Nat → Int64} {M : Md}
theorem run_end {a b : Int32} {c e : Int64} {X : Prop} (h1 : a = b) (h0 : b = nI 0) (h2 : c = e) (hx : X) : (a = b → (¬ b = 0 → X) ∧ (b = 0 → ((lg_cmp c e) = 0 → X) ∧ (¬ (lg_cmp c e) = 0 → False))) ∧ (¬ a = b → False) := by
  subst h2
  refine ⟨fun _ => ⟨fun _ => hx, fun _ => ⟨fun _ => hx, fun n => n ?_⟩⟩, fun n => n h1⟩
  exact of_eq_true zcmp
theorem law_29 (H : Inv N M) : wp_law_29 xs i N O M (fun N _ M => Inv N M) := by
  obtain ⟨x0, f0, sv, tx, ln, at0, le0, fi0, se0, ti0, fo0, hs⟩ := M
  obtain ⟨⟨T, z, nx, Ts, V, HC, HR, hz, hnx, hs1, hs2, hs3, hS⟩, L, hT⟩ := id H
  obtain ⟨w, h1, h2⟩ := TX_w hT
  unfold wp_law_29 wp_L_run
  rcases Classical.em (CT w L) with hC | hC
  · refine X3_run_y HC V h1 hC hz hnx hs1 hs2 (fun u' U' hu' hV' hU' => ?_)
    refine X4_run_y HR V h2 hC hz hs3 (fun f f2 at2 le2 fi2 se2 ti2 fo2 q2 q3 hR2 hf2 => ?_)
    unfold wp_X4_thrown
    refine run_end rfl rfl (show vp_updL O (Int32.toNatClampNeg 0) (Int32.toInt64 (nI (scN w L L 1 0 0 T).1)) (Int32.toNatClampNeg 0) = Int32.toInt64 (nI (scN w L L 1 0 0 T).1) from zupdL) ?_
    have I := Inv_s (N := N) (M := (x0, f0, sv, tx, ln, at0, le0, fi0, se0, ti0, fo0, hs)) (th := nI 0) (at1 := at2) (le := le2) (fi := fi2) (se := se2) (ti := ti2) (fo := fo2) (ha := hs) ⟨V, HC, HR, hz, hnx, hs1, hs2, hs3, hS⟩ hT hu' q2 q3 hV' hU' hR2 hf2
    obtain ⟨HS, -⟩ := I
    exact ⟨HS, 0, by omega, rfl, rfl, fun i hi => absurd hi (Nat.not_lt_zero _)⟩
  · refine X3_run_n h1 hC ⟨rfl, ?_⟩
    refine X4_run_n h2 hC (fun at2 le2 fi2 se2 ti2 fo2 => ?_)
    unfold wp_X4_thrown
    refine ⟨fun _ => ⟨fun _ => ?_, fun n => absurd n (by decide)⟩, fun n => absurd rfl n⟩
    exact ⟨⟨T, z, nx, Ts, V, HC, HR, hz, hnx, hs1, hs2, hs3, hS⟩, L, hT⟩
end
