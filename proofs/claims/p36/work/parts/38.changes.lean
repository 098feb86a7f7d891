/-! what changes the state -/
theorem upd_t {f : Nat → Int32} {k j : Nat} {x : Int32} (h : j = k) : upd f k x j = x := if_pos h
theorem upd_f {f : Nat → Int32} {k j : Nat} {x : Int32} (h : j ≠ k) : upd f k x j = f j := if_neg h
def tTurn (T : AT) (i : Nat) (b : Bool) : AT := (T.1, T.2.1, (fun k => if k = i then b else T.2.2.1 k), T.2.2.2.1, T.2.2.2.2.1, T.2.2.2.2.2.1, T.2.2.2.2.2.2.1, T.2.2.2.2.2.2.2.1, T.2.2.2.2.2.2.2.2.1, T.2.2.2.2.2.2.2.2.2.1, T.2.2.2.2.2.2.2.2.2.2.1, T.2.2.2.2.2.2.2.2.2.2.2)
def tKey (T : AT) (i x : Nat) : AT := (T.1, T.2.1, T.2.2.1, (fun k => if k = i then x else T.2.2.2.1 k), T.2.2.2.2.1, T.2.2.2.2.2.1, T.2.2.2.2.2.2.1, T.2.2.2.2.2.2.2.1, T.2.2.2.2.2.2.2.2.1, T.2.2.2.2.2.2.2.2.2.1, T.2.2.2.2.2.2.2.2.2.2.1, T.2.2.2.2.2.2.2.2.2.2.2)
def sel3 {A : Type} (a b c : A) (p : Nat) : A := if p = 1 then a else if p = 2 then b else c
def tLay (T : AT) (a b c h : Nat) : AT := (T.1 + 1, T.2.1, T.2.2.1, T.2.2.2.1, (fun r p => if r = T.1 then sel3 a b c p else T.2.2.2.2.1 r p), (fun r p => if r = T.1 then sel3 (T.2.2.2.1 a) (T.2.2.2.1 b) (T.2.2.2.1 c) p else T.2.2.2.2.2.1 r p), (fun r => if r = T.1 then h else T.2.2.2.2.2.2.1 r), T.2.2.2.2.2.2.2.1, T.2.2.2.2.2.2.2.2.1, T.2.2.2.2.2.2.2.2.2.1, T.2.2.2.2.2.2.2.2.2.2.1, T.2.2.2.2.2.2.2.2.2.2.2)
def tUp (T : AT) : AT := (T.1 - 1, T.2.1, T.2.2.1, T.2.2.2.1, T.2.2.2.2.1, T.2.2.2.2.2.1, T.2.2.2.2.2.2.1, T.2.2.2.2.2.2.2.1, T.2.2.2.2.2.2.2.2.1, (fun h => if T.2.2.2.2.2.2.2.2.2.1 h = nI (T.1 - 1) then nM else T.2.2.2.2.2.2.2.2.2.1 h), T.2.2.2.2.2.2.2.2.2.2.1, T.2.2.2.2.2.2.2.2.2.2.2)
def sel4 (a b c d w : Nat) : Nat := if w = 0 then a else if w = 1 then b else if w = 2 then c else d
def tPut (T : AT) (c r p b d : Nat) : AT := (T.1, T.2.1 + 1, T.2.2.1, T.2.2.2.1, T.2.2.2.2.1, T.2.2.2.2.2.1, T.2.2.2.2.2.2.1, (fun j w => if j = T.2.1 then sel4 r p b d w else T.2.2.2.2.2.2.2.1 j w), T.2.2.2.2.2.2.2.2.1, T.2.2.2.2.2.2.2.2.2.1, T.2.2.2.2.2.2.2.2.2.2.1, (fun k => if k = c then T.2.2.2.2.2.2.2.2.2.2.2 k + nI 1 else T.2.2.2.2.2.2.2.2.2.2.2 k))
def nest (T : AT) (r b : Nat) : Nat := covN (covN (covN b (T.2.2.2.2.2.1 r 3)) (T.2.2.2.2.2.1 r 2)) (T.2.2.2.2.2.1 r 1)
section
variable {T : AT}
theorem AV_turn (V : AV T g0) (i : Nat) (b : Bool) : AV (tTurn T i b) g0 := V
theorem AV_key (V : AV T g0) {i x : Nat} (hx : x < 10000) : AV (tKey T i x) g0 := by refine ⟨V.1, V.2.1, fun k hk => ?_, V.2.2.2.1, V.2.2.2.2.1, V.2.2.2.2.2.1, V.2.2.2.2.2.2.1, V.2.2.2.2.2.2.2⟩; show (if k = i then x else T.2.2.2.1 k) < 10000; split; exact hx; exact v_key V hk
theorem AV_lay (V : AV T g0) (hn : T.1 < 6) {a b c h : Nat} (ha : a < 8) (hb : b < 8) (hc : c < 8) (hh : h < 4) : AV (tLay T a b c h) g0 := by
  refine ⟨?_, V.2.1, V.2.2.1, ?_, ?_, ?_, ?_, ?_⟩
  · show T.1 + 1 ≤ 6; omega
  · intro r p hr h1 h2
    show (if r = T.1 then sel3 a b c p else T.2.2.2.2.1 r p) < 8
    split
    · unfold sel3; split
      · exact ha
      · split; exact hb; exact hc
    · exact v_ri V (show r < T.1 by have : r < T.1 + 1 := hr; omega) h1 h2
  · intro r p hr h1 h2
    show (if r = T.1 then sel3 (T.2.2.2.1 a) (T.2.2.2.1 b) (T.2.2.2.1 c) p else T.2.2.2.2.2.1 r p) < 10000
    split
    · unfold sel3; split
      · exact v_key V ha
      · split; exact v_key V hb; exact v_key V hc
    · exact v_rk V (show r < T.1 by have : r < T.1 + 1 := hr; omega) h1 h2
  · intro r hr
    show (if r = T.1 then h else T.2.2.2.2.2.2.1 r) < 4
    split
    · exact hh
    · exact v_rh V (show r < T.1 by have : r < T.1 + 1 := hr; omega)
  · intro j hj hg
    have hv := v_ev V hj hg
    exact ⟨Nat.lt_succ_of_lt hv.1, hv.2⟩
  · intro k hk
    rcases v_on V hk with h | ⟨r, h1, h2⟩
    · exact Or.inl h
    · exact Or.inr ⟨r, Nat.lt_succ_of_lt h1, h2⟩
theorem AV_up (V : AV T g0) (hn : 0 < T.1) (hu : ∀ j, j < T.2.1 → T.2.2.2.2.2.2.2.1 j 0 ≠ T.1 - 1) : AV (tUp T) g0 := by
  refine ⟨?_, V.2.1, V.2.2.1, ?_, ?_, ?_, ?_, ?_⟩
  · have := v_n V
    show T.1 - 1 ≤ 6; omega
  · intro r p hr h1 h2
    have hr : r < T.1 - 1 := hr
    exact v_ri V (by omega) h1 h2
  · intro r p hr h1 h2
    have hr : r < T.1 - 1 := hr
    exact v_rk V (by omega) h1 h2
  · intro r hr
    have hr : r < T.1 - 1 := hr
    exact v_rh V (by omega)
  · intro j hj hg
    have hv := v_ev V hj hg
    have h0 := hu j hj
    exact ⟨(by have := hv.1; show T.2.2.2.2.2.2.2.1 j 0 < T.1 - 1; omega), hv.2⟩
  · intro k hk
    show (if T.2.2.2.2.2.2.2.2.2.1 k = nI (T.1 - 1) then nM else T.2.2.2.2.2.2.2.2.2.1 k) = nM ∨ ∃ r, r < T.1 - 1 ∧ (if T.2.2.2.2.2.2.2.2.2.1 k = nI (T.1 - 1) then nM else T.2.2.2.2.2.2.2.2.2.1 k) = nI r
    by_cases he : T.2.2.2.2.2.2.2.2.2.1 k = nI (T.1 - 1)
    · rw [if_pos he]; exact Or.inl rfl
    · rw [if_neg he]
      rcases v_on V hk with h | ⟨r, h1, h2⟩
      · exact Or.inl h
      · refine Or.inr ⟨r, ?_, h2⟩
        have : r ≠ T.1 - 1 := fun q => he (by rw [h2, q])
        omega
theorem AV_put (V : AV T g0) (he : T.2.1 < 12) (c : Nat) {r p b d : Nat} (hr : r < T.1) (hb : b < 10000) (hd : (d = 0 ∧ p ≤ 3) ∨ (d = 1 ∧ 1 ≤ p ∧ p ≤ 4)) : AV (tPut T c r p b d) g0 := by
  refine ⟨V.1, ?_, V.2.2.1, V.2.2.2.1, V.2.2.2.2.1, V.2.2.2.2.2.1, ?_, V.2.2.2.2.2.2.2⟩
  · show T.2.1 + 1 ≤ 12; omega
  · intro j hj hg
    have hj : j < T.2.1 + 1 := hj
    by_cases e : j = T.2.1
    · show envOk T.1 (fun j w => if j = T.2.1 then sel4 r p b d w else T.2.2.2.2.2.2.2.1 j w) j
      simp only [envOk, if_pos e]
      exact ⟨hr, hb, hd⟩
    · show envOk T.1 (fun j w => if j = T.2.1 then sel4 r p b d w else T.2.2.2.2.2.2.2.1 j w) j
      simp only [envOk, if_neg e]
      exact v_ev V (by omega) hg
theorem nest_lt (r b : Nat) : nest T r b < 10000 := covN_lt _ _
end
section
variable {u : St} {T : AT} {g : Nat → Bool}
theorem X2_turn (H : CR u T g0) {i : Nat} (hi : i < 8) {q : Int32} {b : Bool} (hq : q = 0 ↔ b = false) {post : St → Prop} (hp : ∀ u', CR u' (tTurn T i b) g0 → post u') : wp_X2_turn u (nI i) q post := by
  have hon : ∀ k, k < 8 → bt (u.1 ||| (nI 1 <<< (nI i &&& nI 31))) k = if k = i then true else T.2.2.1 k := by
    intro k hk
    rw [zon (by omega) (by omega), c_op H hk]
  have hoff : ∀ k, k < 8 → bt (u.1 &&& ((nI 1 <<< (nI i &&& nI 31)) ^^^ nM)) k = if k = i then false else T.2.2.1 k := by
    intro k hk
    rw [zoff (by omega) (by omega), c_op H hk]
  unfold wp_X2_turn
  cases b
  · have hq0 := hq.mpr rfl
    rw [hq0]
    simp (disch := omega) only [jn, Nat.reduceAdd, Nat.reduceSub, Nat.reduceMul, z0, z1, z2, z3, z4, z5, z6, z7, z8, z9, z10, z12, z16, z18, z24, z31, z33, z48, z49, z51, z53, z55, z57, z59, z60, z61, z63, z66, z97, z99, z111, z114, z115, z116, z118, z122, z126, z255, z854, z1000, z1111, z7143, z9999, z10000, zM, zMn, nI_add, pk_mul, zsub, zlt_t, zlt_f, zle_t, zle_f, zeq_t, zeq_f, zeM1, zeM2, zeM3, zltM, zleM, nI_clamp, zin, false_or, or_false, true_and, and_true, false_and, and_false, not_true_eq_false, not_false_eq_true, true_imp_iff, false_imp_iff, implies_true, if_true, if_false, S_openMask, S_keys, S_roadCount, S_roadInns, S_roadKeys, S_roadHalls, S_envelopeCount, S_envelopeNumbers, S_letters, S_answerRoads, S_answerGot, S_counts, sS_openMask, sS_roadCount, sS_envelopeCount, sS_answerGot, aS_keys, aS_roadInns, aS_roadKeys, aS_roadHalls, aS_envelopeNumbers, aS_letters, aS_answerRoads, aS_counts, wS_keys, wS_roadInns, wS_roadKeys, wS_roadHalls, wS_envelopeNumbers, wS_letters, wS_answerRoads, wS_counts]
    exact hp _ ⟨H.1, H.2.1, hoff, H.2.2.2.1, H.2.2.2.2.1, H.2.2.2.2.2.1, H.2.2.2.2.2.2.1, H.2.2.2.2.2.2.2.1, H.2.2.2.2.2.2.2.2.1, H.2.2.2.2.2.2.2.2.2.1, H.2.2.2.2.2.2.2.2.2.2.1, H.2.2.2.2.2.2.2.2.2.2.2⟩
  · have hq0 : ¬ q = nI 0 := fun h => Bool.noConfusion (hq.mp h)
    simp (disch := omega) only [jn, Nat.reduceAdd, Nat.reduceSub, Nat.reduceMul, z0, z1, z2, z3, z4, z5, z6, z7, z8, z9, z10, z12, z16, z18, z24, z31, z33, z48, z49, z51, z53, z55, z57, z59, z60, z61, z63, z66, z97, z99, z111, z114, z115, z116, z118, z122, z126, z255, z854, z1000, z1111, z7143, z9999, z10000, zM, zMn, nI_add, pk_mul, zsub, zlt_t, zlt_f, zle_t, zle_f, zeq_t, zeq_f, zeM1, zeM2, zeM3, zltM, zleM, nI_clamp, zin, false_or, or_false, true_and, and_true, false_and, and_false, not_true_eq_false, not_false_eq_true, true_imp_iff, false_imp_iff, implies_true, if_true, if_false, S_openMask, S_keys, S_roadCount, S_roadInns, S_roadKeys, S_roadHalls, S_envelopeCount, S_envelopeNumbers, S_letters, S_answerRoads, S_answerGot, S_counts, sS_openMask, sS_roadCount, sS_envelopeCount, sS_answerGot, aS_keys, aS_roadInns, aS_roadKeys, aS_roadHalls, aS_envelopeNumbers, aS_letters, aS_answerRoads, aS_counts, wS_keys, wS_roadInns, wS_roadKeys, wS_roadHalls, wS_envelopeNumbers, wS_letters, wS_answerRoads, wS_counts, hq0]
    exact hp _ ⟨H.1, H.2.1, hon, H.2.2.2.1, H.2.2.2.2.1, H.2.2.2.2.2.1, H.2.2.2.2.2.2.1, H.2.2.2.2.2.2.2.1, H.2.2.2.2.2.2.2.2.1, H.2.2.2.2.2.2.2.2.2.1, H.2.2.2.2.2.2.2.2.2.2.1, H.2.2.2.2.2.2.2.2.2.2.2⟩
theorem CR_key (H : CR u T g0) {i x : Nat} (hi : i < 8) : CR (u.1, upd u.2.1 i (nI x), u.2.2.1, u.2.2.2.1, u.2.2.2.2.1, u.2.2.2.2.2.1, u.2.2.2.2.2.2.1, u.2.2.2.2.2.2.2.1, u.2.2.2.2.2.2.2.2.1, u.2.2.2.2.2.2.2.2.2.1, u.2.2.2.2.2.2.2.2.2.2.1, u.2.2.2.2.2.2.2.2.2.2.2) (tKey T i x) g0 := by
  refine ⟨H.1, H.2.1, H.2.2.1, fun k hk => ?_, H.2.2.2.2.1, H.2.2.2.2.2.1, H.2.2.2.2.2.2.1, H.2.2.2.2.2.2.2.1, H.2.2.2.2.2.2.2.2.1, H.2.2.2.2.2.2.2.2.2.1, H.2.2.2.2.2.2.2.2.2.2.1, H.2.2.2.2.2.2.2.2.2.2.2⟩
  show upd u.2.1 i (nI x) k = nI (if k = i then x else T.2.2.2.1 k)
  by_cases e : k = i
  · rw [upd_t e, if_pos e]
  · rw [upd_f e, if_neg e, c_key H hk]
theorem X2_addRoad (H : CR u T g0) (V : AV T g0) (hn : T.1 < 6) {a b c h : Nat} (ha : a < 8) (hb : b < 8) (hc : c < 8) {post : Int32 → St → Prop} (hp : ∀ u', CR u' (tLay T a b c h) g0 → post (nI T.1) u') : wp_X2_addRoad u (nI a) (nI b) (nI c) (nI h) post := by
  unfold wp_X2_addRoad wp_X2_putInn
  simp (disch := omega) only [jn, Nat.reduceAdd, Nat.reduceSub, Nat.reduceMul, z0, z1, z2, z3, z4, z5, z6, z7, z8, z9, z10, z12, z16, z18, z24, z31, z33, z48, z49, z51, z53, z55, z57, z59, z60, z61, z63, z66, z97, z99, z111, z114, z115, z116, z118, z122, z126, z255, z854, z1000, z1111, z7143, z9999, z10000, zM, zMn, nI_add, pk_mul, zsub, zlt_t, zlt_f, zle_t, zle_f, zeq_t, zeq_f, zeM1, zeM2, zeM3, zltM, zleM, nI_clamp, zin, false_or, or_false, true_and, and_true, false_and, and_false, not_true_eq_false, not_false_eq_true, true_imp_iff, false_imp_iff, implies_true, if_true, if_false, S_openMask, S_keys, S_roadCount, S_roadInns, S_roadKeys, S_roadHalls, S_envelopeCount, S_envelopeNumbers, S_letters, S_answerRoads, S_answerGot, S_counts, sS_openMask, sS_roadCount, sS_envelopeCount, sS_answerGot, aS_keys, aS_roadInns, aS_roadKeys, aS_roadHalls, aS_envelopeNumbers, aS_letters, aS_answerRoads, aS_counts, wS_keys, wS_roadInns, wS_roadKeys, wS_roadHalls, wS_envelopeNumbers, wS_letters, wS_answerRoads, wS_counts, X3_write, X3_read, c_n H, c_key H]
  refine hp _ ⟨rfl, H.2.1, H.2.2.1, H.2.2.2.1, ?_, ?_, ?_, H.2.2.2.2.2.2.2.1, H.2.2.2.2.2.2.2.2.1, H.2.2.2.2.2.2.2.2.2.1, H.2.2.2.2.2.2.2.2.2.2.1, H.2.2.2.2.2.2.2.2.2.2.2⟩
  · intro r p hr h1 h2
    have hr : r < T.1 + 1 := hr
    show upd _ _ _ _ = nI (if r = T.1 then sel3 a b c p else T.2.2.2.2.1 r p)
    by_cases e : r = T.1
    · subst e
      rw [if_pos rfl]
      rcases (show p = 1 ∨ p = 2 ∨ p = 3 by omega) with rfl | rfl | rfl <;> simp (disch := omega) only [upd_t, upd_f] <;> rfl
    · rw [if_neg e]
      simp (disch := omega) only [upd_t, upd_f]
      exact c_ri H (by omega) h1 h2
  · intro r p hr h1 h2
    have hr : r < T.1 + 1 := hr
    show upd _ _ _ _ = nI (if r = T.1 then sel3 (T.2.2.2.1 a) (T.2.2.2.1 b) (T.2.2.2.1 c) p else T.2.2.2.2.2.1 r p)
    by_cases e : r = T.1
    · subst e
      rw [if_pos rfl]
      rcases (show p = 1 ∨ p = 2 ∨ p = 3 by omega) with rfl | rfl | rfl <;> simp (disch := omega) only [upd_t, upd_f] <;> rfl
    · rw [if_neg e]
      simp (disch := omega) only [upd_t, upd_f]
      exact c_rk H (by omega) h1 h2
  · intro r hr
    have hr : r < T.1 + 1 := hr
    show upd _ _ _ _ = nI (if r = T.1 then h else T.2.2.2.2.2.2.1 r)
    by_cases e : r = T.1
    · rw [if_pos e, upd_t e]
    · rw [if_neg e, upd_f e]
      exact c_rh H (by omega)
theorem X2_remove (H : CR u T g0) (V : AV T g0) (hn : 0 < T.1) {post : St → Prop} (hp : ∀ u', CR u' (tUp T) g0 → post u') : wp_X2_removeLastRoad u post := by
  have hn6 := v_n V
  unfold wp_X2_removeLastRoad
  simp (disch := omega) only [jn, Nat.reduceAdd, Nat.reduceSub, Nat.reduceMul, z0, z1, z2, z3, z4, z5, z6, z7, z8, z9, z10, z12, z16, z18, z24, z31, z33, z48, z49, z51, z53, z55, z57, z59, z60, z61, z63, z66, z97, z99, z111, z114, z115, z116, z118, z122, z126, z255, z854, z1000, z1111, z7143, z9999, z10000, zM, zMn, nI_add, pk_mul, zsub, zlt_t, zlt_f, zle_t, zle_f, zeq_t, zeq_f, zeM1, zeM2, zeM3, zltM, zleM, nI_clamp, zin, false_or, or_false, true_and, and_true, false_and, and_false, not_true_eq_false, not_false_eq_true, true_imp_iff, false_imp_iff, implies_true, if_true, if_false, S_openMask, S_keys, S_roadCount, S_roadInns, S_roadKeys, S_roadHalls, S_envelopeCount, S_envelopeNumbers, S_letters, S_answerRoads, S_answerGot, S_counts, sS_openMask, sS_roadCount, sS_envelopeCount, sS_answerGot, aS_keys, aS_roadInns, aS_roadKeys, aS_roadHalls, aS_envelopeNumbers, aS_letters, aS_answerRoads, aS_counts, wS_keys, wS_roadInns, wS_roadKeys, wS_roadHalls, wS_envelopeNumbers, wS_letters, wS_answerRoads, wS_counts, c_n H]
  refine lpnB 4 (fun j x => ∃ f, x = (u.1, u.2.1, nI (T.1 - 1), u.2.2.2.1, u.2.2.2.2.1, u.2.2.2.2.2.1, u.2.2.2.2.2.2.1, u.2.2.2.2.2.2.2.1, u.2.2.2.2.2.2.2.2.1, f, u.2.2.2.2.2.2.2.2.2.2.1, u.2.2.2.2.2.2.2.2.2.2.2) ∧ ∀ h, h < 4 → f h = if h < j ∧ T.2.2.2.2.2.2.2.2.2.1 h = nI (T.1 - 1) then nM else T.2.2.2.2.2.2.2.2.2.1 h) ?_ ?_ (by omega) ⟨_, rfl, fun h hh => by rw [if_neg (fun q => Nat.not_lt_zero _ q.1)]; exact c_on H hh⟩
  · rintro K j x hj ⟨f, rfl, hf⟩ hk
    have h1 := hf j hj
    rw [if_neg (fun q => Nat.lt_irrefl _ q.1)] at h1
    simp (disch := omega) only [jn, Nat.reduceAdd, Nat.reduceSub, Nat.reduceMul, z0, z1, z2, z3, z4, z5, z6, z7, z8, z9, z10, z12, z16, z18, z24, z31, z33, z48, z49, z51, z53, z55, z57, z59, z60, z61, z63, z66, z97, z99, z111, z114, z115, z116, z118, z122, z126, z255, z854, z1000, z1111, z7143, z9999, z10000, zM, zMn, nI_add, pk_mul, zsub, zlt_t, zlt_f, zle_t, zle_f, zeq_t, zeq_f, zeM1, zeM2, zeM3, zltM, zleM, nI_clamp, zin, false_or, or_false, true_and, and_true, false_and, and_false, not_true_eq_false, not_false_eq_true, true_imp_iff, false_imp_iff, implies_true, if_true, if_false, S_openMask, S_keys, S_roadCount, S_roadInns, S_roadKeys, S_roadHalls, S_envelopeCount, S_envelopeNumbers, S_letters, S_answerRoads, S_answerGot, S_counts, sS_openMask, sS_roadCount, sS_envelopeCount, sS_answerGot, aS_keys, aS_roadInns, aS_roadKeys, aS_roadHalls, aS_envelopeNumbers, aS_letters, aS_answerRoads, aS_counts, wS_keys, wS_roadInns, wS_roadKeys, wS_roadHalls, wS_envelopeNumbers, wS_letters, wS_answerRoads, wS_counts, X3_read, X3_write, h1]
    constructor
    · intro hne
      refine hk _ ⟨f, rfl, fun h hh => ?_⟩
      rw [hf h hh]
      by_cases e : h = j
      · subst e
        rw [if_neg (fun q => Nat.lt_irrefl _ q.1), if_neg (fun q => hne q.2)]
      · have : (h < j ∧ T.2.2.2.2.2.2.2.2.2.1 h = nI (T.1 - 1)) ↔ (h < j + 1 ∧ T.2.2.2.2.2.2.2.2.2.1 h = nI (T.1 - 1)) := ⟨fun q => ⟨by omega, q.2⟩, fun q => ⟨by omega, q.2⟩⟩
        simp only [this]
    · intro heq
      refine hk _ ⟨_, rfl, fun h hh => ?_⟩
      by_cases e : h = j
      · subst e
        rw [upd_t rfl, if_pos ⟨by omega, heq⟩]
      · rw [upd_f e, hf h hh]
        have : (h < j ∧ T.2.2.2.2.2.2.2.2.2.1 h = nI (T.1 - 1)) ↔ (h < j + 1 ∧ T.2.2.2.2.2.2.2.2.2.1 h = nI (T.1 - 1)) := ⟨fun q => ⟨by omega, q.2⟩, fun q => ⟨by omega, q.2⟩⟩
        simp only [this]
  · rintro K x ⟨f, rfl, hf⟩
    simp (disch := omega) only [jn, Nat.reduceAdd, Nat.reduceSub, Nat.reduceMul, z0, z1, z2, z3, z4, z5, z6, z7, z8, z9, z10, z12, z16, z18, z24, z31, z33, z48, z49, z51, z53, z55, z57, z59, z60, z61, z63, z66, z97, z99, z111, z114, z115, z116, z118, z122, z126, z255, z854, z1000, z1111, z7143, z9999, z10000, zM, zMn, nI_add, pk_mul, zsub, zlt_t, zlt_f, zle_t, zle_f, zeq_t, zeq_f, zeM1, zeM2, zeM3, zltM, zleM, nI_clamp, zin, false_or, or_false, true_and, and_true, false_and, and_false, not_true_eq_false, not_false_eq_true, true_imp_iff, false_imp_iff, implies_true, if_true, if_false, S_openMask, S_keys, S_roadCount, S_roadInns, S_roadKeys, S_roadHalls, S_envelopeCount, S_envelopeNumbers, S_letters, S_answerRoads, S_answerGot, S_counts, sS_openMask, sS_roadCount, sS_envelopeCount, sS_answerGot, aS_keys, aS_roadInns, aS_roadKeys, aS_roadHalls, aS_envelopeNumbers, aS_letters, aS_answerRoads, aS_counts, wS_keys, wS_roadInns, wS_roadKeys, wS_roadHalls, wS_envelopeNumbers, wS_letters, wS_answerRoads, wS_counts]
    refine hp _ ⟨rfl, H.2.1, H.2.2.1, H.2.2.2.1, fun r p hr h1 h2 => c_ri H (show r < T.1 by have hr : r < T.1 - 1 := hr; omega) h1 h2, fun r p hr h1 h2 => c_rk H (show r < T.1 by have hr : r < T.1 - 1 := hr; omega) h1 h2, fun r hr => c_rh H (show r < T.1 by have hr : r < T.1 - 1 := hr; omega), H.2.2.2.2.2.2.2.1, H.2.2.2.2.2.2.2.2.1, ?_, H.2.2.2.2.2.2.2.2.2.2.1, H.2.2.2.2.2.2.2.2.2.2.2⟩
    intro h hh
    show f h = if T.2.2.2.2.2.2.2.2.2.1 h = nI (T.1 - 1) then nM else T.2.2.2.2.2.2.2.2.2.1 h
    rw [hf h hh]
    by_cases e : T.2.2.2.2.2.2.2.2.2.1 h = nI (T.1 - 1)
    · rw [if_pos ⟨hh, e⟩, if_pos e]
    · rw [if_neg (fun q => e q.2), if_neg e]
theorem X2_addEnv (H : CR u T g0) (V : AV T g0) (he : T.2.1 < 12) {c r p b d : Nat} (hc : c < 5) {post : Int32 → St → Prop} (hp : ∀ u', CR u' (tPut T c r p b d) g0 → post (nI T.2.1) u') : wp_X2_addEnvelope (u.1, u.2.1, u.2.2.1, u.2.2.2.1, u.2.2.2.2.1, u.2.2.2.2.2.1, u.2.2.2.2.2.2.1, u.2.2.2.2.2.2.2.1, u.2.2.2.2.2.2.2.2.1, u.2.2.2.2.2.2.2.2.2.1, u.2.2.2.2.2.2.2.2.2.2.1, upd u.2.2.2.2.2.2.2.2.2.2.2 c (T.2.2.2.2.2.2.2.2.2.2.2 c + nI 1)) (nI r) (nI p) (nI b) (nI d) post := by
  unfold wp_X2_addEnvelope wp_X2_putNumber
  simp (disch := omega) only [jn, Nat.reduceAdd, Nat.reduceSub, Nat.reduceMul, z0, z1, z2, z3, z4, z5, z6, z7, z8, z9, z10, z12, z16, z18, z24, z31, z33, z48, z49, z51, z53, z55, z57, z59, z60, z61, z63, z66, z97, z99, z111, z114, z115, z116, z118, z122, z126, z255, z854, z1000, z1111, z7143, z9999, z10000, zM, zMn, nI_add, pk_mul, zsub, zlt_t, zlt_f, zle_t, zle_f, zeq_t, zeq_f, zeM1, zeM2, zeM3, zltM, zleM, nI_clamp, zin, false_or, or_false, true_and, and_true, false_and, and_false, not_true_eq_false, not_false_eq_true, true_imp_iff, false_imp_iff, implies_true, if_true, if_false, S_openMask, S_keys, S_roadCount, S_roadInns, S_roadKeys, S_roadHalls, S_envelopeCount, S_envelopeNumbers, S_letters, S_answerRoads, S_answerGot, S_counts, sS_openMask, sS_roadCount, sS_envelopeCount, sS_answerGot, aS_keys, aS_roadInns, aS_roadKeys, aS_roadHalls, aS_envelopeNumbers, aS_letters, aS_answerRoads, aS_counts, wS_keys, wS_roadInns, wS_roadKeys, wS_roadHalls, wS_envelopeNumbers, wS_letters, wS_answerRoads, wS_counts, X3_write, X3_read, c_e H]
  refine hp _ ⟨H.1, rfl, H.2.2.1, H.2.2.2.1, H.2.2.2.2.1, H.2.2.2.2.2.1, H.2.2.2.2.2.2.1, ?_, H.2.2.2.2.2.2.2.2.1, H.2.2.2.2.2.2.2.2.2.1, H.2.2.2.2.2.2.2.2.2.2.1, ?_⟩
  · intro j hj
    have hj : j < T.2.1 + 1 := hj
    show ∀ w, w < 4 → upd _ _ _ _ = nI (if j = T.2.1 then sel4 r p b d w else T.2.2.2.2.2.2.2.1 j w)
    intro w hw
    by_cases e : j = T.2.1
    · subst e
      rw [if_pos rfl]
      rcases (show w = 0 ∨ w = 1 ∨ w = 2 ∨ w = 3 by omega) with rfl | rfl | rfl | rfl <;> simp (disch := omega) only [upd_t, upd_f] <;> rfl
    · rw [if_neg e]
      simp (disch := omega) only [upd_t, upd_f]
      exact c_ev H (by omega) rfl hw
  · intro k hk
    show upd u.2.2.2.2.2.2.2.2.2.2.2 c (T.2.2.2.2.2.2.2.2.2.2.2 c + nI 1) k = if k = c then T.2.2.2.2.2.2.2.2.2.2.2 k + nI 1 else T.2.2.2.2.2.2.2.2.2.2.2 k
    by_cases e : k = c
    · rw [upd_t e, if_pos e, e]
    · rw [upd_f e, if_neg e, c_ct H hk]
theorem X2_countUp (H : CR u T g) {c : Nat} (hc : c < 5) {post : St → Prop} : wp_X2_countUp u (nI c) post = post (u.1, u.2.1, u.2.2.1, u.2.2.2.1, u.2.2.2.2.1, u.2.2.2.2.2.1, u.2.2.2.2.2.2.1, u.2.2.2.2.2.2.2.1, u.2.2.2.2.2.2.2.2.1, u.2.2.2.2.2.2.2.2.2.1, u.2.2.2.2.2.2.2.2.2.2.1, upd u.2.2.2.2.2.2.2.2.2.2.2 c (T.2.2.2.2.2.2.2.2.2.2.2 c + nI 1)) := by
  unfold wp_X2_countUp
  simp (disch := omega) only [jn, Nat.reduceAdd, Nat.reduceSub, Nat.reduceMul, z0, z1, z2, z3, z4, z5, z6, z7, z8, z9, z10, z12, z16, z18, z24, z31, z33, z48, z49, z51, z53, z55, z57, z59, z60, z61, z63, z66, z97, z99, z111, z114, z115, z116, z118, z122, z126, z255, z854, z1000, z1111, z7143, z9999, z10000, zM, zMn, nI_add, pk_mul, zsub, zlt_t, zlt_f, zle_t, zle_f, zeq_t, zeq_f, zeM1, zeM2, zeM3, zltM, zleM, nI_clamp, zin, false_or, or_false, true_and, and_true, false_and, and_false, not_true_eq_false, not_false_eq_true, true_imp_iff, false_imp_iff, implies_true, if_true, if_false, S_openMask, S_keys, S_roadCount, S_roadInns, S_roadKeys, S_roadHalls, S_envelopeCount, S_envelopeNumbers, S_letters, S_answerRoads, S_answerGot, S_counts, sS_openMask, sS_roadCount, sS_envelopeCount, sS_answerGot, aS_keys, aS_roadInns, aS_roadKeys, aS_roadHalls, aS_envelopeNumbers, aS_letters, aS_answerRoads, aS_counts, wS_keys, wS_roadInns, wS_roadKeys, wS_roadHalls, wS_envelopeNumbers, wS_letters, wS_answerRoads, wS_counts, X3_write, X3_read, c_ct H hc]
theorem X2_addLetter (H : CR u T g0) (V : AV T g0) (he : T.2.1 < 12) {r b : Nat} (hr : r < T.1) (hb : b < 10000) {post : Int32 → St → Prop} (hp : ∀ u', CR u' (tPut T 0 r 0 (nest T r b) 0) g0 → post (nI T.2.1) u') : wp_X2_addLetter u (nI r) (nI b) post := by
  have k1 := v_rk V hr (p := 1) (by omega) (by omega)
  have k2 := v_rk V hr (p := 2) (by omega) (by omega)
  have k3 := v_rk V hr (p := 3) (by omega) (by omega)
  unfold wp_X2_addLetter
  refine ⟨5, ?_⟩
  have m1 : ∀ a, 1 ≤ a → nI a + nM = nI (a - 1) := fun a h => zaM h
  simp (disch := omega) only [lpc, jn, Nat.reduceAdd, Nat.reduceSub, Nat.reduceMul, z0, z1, z2, z3, z4, z5, z6, z7, z8, z9, z10, z12, z16, z18, z24, z31, z33, z48, z49, z51, z53, z55, z57, z59, z60, z61, z63, z66, z97, z99, z111, z114, z115, z116, z118, z122, z126, z255, z854, z1000, z1111, z7143, z9999, z10000, zM, zMn, nI_add, pk_mul, zsub, zlt_t, zlt_f, zle_t, zle_f, zeq_t, zeq_f, zeM1, zeM2, zeM3, zltM, zleM, nI_clamp, zin, false_or, or_false, true_and, and_true, false_and, and_false, not_true_eq_false, not_false_eq_true, true_imp_iff, false_imp_iff, implies_true, if_true, if_false, X2_keyAt H V hr]
  refine X3_covered hb k3 ?_
  simp (disch := omega) only [lpc, jn, Nat.reduceAdd, Nat.reduceSub, Nat.reduceMul, z0, z1, z2, z3, z4, z5, z6, z7, z8, z9, z10, z12, z16, z18, z24, z31, z33, z48, z49, z51, z53, z55, z57, z59, z60, z61, z63, z66, z97, z99, z111, z114, z115, z116, z118, z122, z126, z255, z854, z1000, z1111, z7143, z9999, z10000, zM, zMn, nI_add, pk_mul, zsub, zlt_t, zlt_f, zle_t, zle_f, zeq_t, zeq_f, zeM1, zeM2, zeM3, zltM, zleM, nI_clamp, zin, false_or, or_false, true_and, and_true, false_and, and_false, not_true_eq_false, not_false_eq_true, true_imp_iff, false_imp_iff, implies_true, if_true, if_false, m1, X2_keyAt H V hr, X2_countUp H]
  refine X3_covered (covN_lt _ _) k2 ?_
  refine X3_covered (covN_lt _ _) k1 ?_
  exact X2_addEnv H V he (by omega) hp
theorem X2_addAnswer (H : CR u T g0) (V : AV T g0) (he : T.2.1 < 12) {h r b : Nat} (hh : h < 4) (hr : T.2.2.2.2.2.2.2.2.2.1 h = nI r) {post : Int32 → St → Prop} (hp : ∀ u', CR u' (tPut T 2 r 4 b 1) g0 → post (nI T.2.1) u') : wp_X2_addAnswer u (nI h) (nI b) post := by
  unfold wp_X2_addAnswer
  simp (disch := omega) only [jn, Nat.reduceAdd, Nat.reduceSub, Nat.reduceMul, z0, z1, z2, z3, z4, z5, z6, z7, z8, z9, z10, z12, z16, z18, z24, z31, z33, z48, z49, z51, z53, z55, z57, z59, z60, z61, z63, z66, z97, z99, z111, z114, z115, z116, z118, z122, z126, z255, z854, z1000, z1111, z7143, z9999, z10000, zM, zMn, nI_add, pk_mul, zsub, zlt_t, zlt_f, zle_t, zle_f, zeq_t, zeq_f, zeM1, zeM2, zeM3, zltM, zleM, nI_clamp, zin, false_or, or_false, true_and, and_true, false_and, and_false, not_true_eq_false, not_false_eq_true, true_imp_iff, false_imp_iff, implies_true, if_true, if_false, S_openMask, S_keys, S_roadCount, S_roadInns, S_roadKeys, S_roadHalls, S_envelopeCount, S_envelopeNumbers, S_letters, S_answerRoads, S_answerGot, S_counts, sS_openMask, sS_roadCount, sS_envelopeCount, sS_answerGot, aS_keys, aS_roadInns, aS_roadKeys, aS_roadHalls, aS_envelopeNumbers, aS_letters, aS_answerRoads, aS_counts, wS_keys, wS_roadInns, wS_roadKeys, wS_roadHalls, wS_envelopeNumbers, wS_letters, wS_answerRoads, wS_counts, X2_countUp H, X3_read, c_on H, hr]
  exact X2_addEnv H V he (by omega) hp
end

