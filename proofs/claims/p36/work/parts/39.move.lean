/-! one move of an envelope -/
def gU (g : Nat → Bool) (i : Nat) (b : Bool) : Nat → Bool := fun k => if k = i then b else g k
def mvP (T : AT) (i : Nat) : Nat := if T.2.2.2.2.2.2.2.1 i 3 = 0 then T.2.2.2.2.2.2.2.1 i 1 + 1 else T.2.2.2.2.2.2.2.1 i 1 - 1
def mvI (T : AT) (i : Nat) : Nat := T.2.2.2.2.1 (T.2.2.2.2.2.2.2.1 i 0) (mvP T i)
def mvG (T : AT) (i : Nat) : Bool := decide (mvP T i = 4) || decide (mvP T i = 0) || !T.2.2.1 (mvI T i)
def mvA (T : AT) (i : Nat) : Bool := decide (mvP T i = 4) || decide (mvP T i = 0)
def tHall (T : AT) (i : Nat) : AT := (T.1, T.2.1, T.2.2.1, T.2.2.2.1, T.2.2.2.2.1, T.2.2.2.2.2.1, T.2.2.2.2.2.2.1, T.2.2.2.2.2.2.2.1, (fun h => if h = T.2.2.2.2.2.2.1 (T.2.2.2.2.2.2.2.1 i 0) then nI (T.2.2.2.2.2.2.2.1 i 2) else T.2.2.2.2.2.2.2.2.1 h), (fun h => if h = T.2.2.2.2.2.2.1 (T.2.2.2.2.2.2.2.1 i 0) then nI (T.2.2.2.2.2.2.2.1 i 0) else T.2.2.2.2.2.2.2.2.2.1 h), T.2.2.2.2.2.2.2.2.2.2.1, (fun k => if k = 1 then T.2.2.2.2.2.2.2.2.2.2.2 k + nI 1 else T.2.2.2.2.2.2.2.2.2.2.2 k))
def unc3 (T : AT) (i : Nat) : Nat := uncN (uncN (uncN (T.2.2.2.2.2.2.2.1 i 2) (T.2.2.2.2.2.1 (T.2.2.2.2.2.2.2.1 i 0) 1)) (T.2.2.2.2.2.1 (T.2.2.2.2.2.2.2.1 i 0) 2)) (T.2.2.2.2.2.1 (T.2.2.2.2.2.2.2.1 i 0) 3)
def tTrav (T : AT) (i : Nat) : AT := (T.1, T.2.1, T.2.2.1, T.2.2.2.1, T.2.2.2.2.1, T.2.2.2.2.2.1, T.2.2.2.2.2.2.1, T.2.2.2.2.2.2.2.1, T.2.2.2.2.2.2.2.2.1, T.2.2.2.2.2.2.2.2.2.1, nI (unc3 T i), (fun k => if k = 3 then T.2.2.2.2.2.2.2.2.2.2.2 k + nI 1 else T.2.2.2.2.2.2.2.2.2.2.2 k))
def tLost (T : AT) : AT := (T.1, T.2.1, T.2.2.1, T.2.2.2.1, T.2.2.2.2.1, T.2.2.2.2.2.1, T.2.2.2.2.2.2.1, T.2.2.2.2.2.2.2.1, T.2.2.2.2.2.2.2.2.1, T.2.2.2.2.2.2.2.2.2.1, T.2.2.2.2.2.2.2.2.2.2.1, (fun k => if k = 4 then T.2.2.2.2.2.2.2.2.2.2.2 k + nI 1 else T.2.2.2.2.2.2.2.2.2.2.2 k))
def mvB (T : AT) (i : Nat) : Nat := if T.2.2.2.2.2.2.2.1 i 3 = 0 then uncN (T.2.2.2.2.2.2.2.1 i 2) (T.2.2.2.2.2.1 (T.2.2.2.2.2.2.2.1 i 0) (mvP T i)) else covN (T.2.2.2.2.2.2.2.1 i 2) (T.2.2.2.2.2.1 (T.2.2.2.2.2.2.2.1 i 0) (mvP T i))
def tStep (T : AT) (i : Nat) : AT := (T.1, T.2.1, T.2.2.1, T.2.2.2.1, T.2.2.2.2.1, T.2.2.2.2.2.1, T.2.2.2.2.2.2.1, (fun j w => if j = i then sel4 (T.2.2.2.2.2.2.2.1 i 0) (mvP T i) (mvB T i) (T.2.2.2.2.2.2.2.1 i 3) w else T.2.2.2.2.2.2.2.1 j w), T.2.2.2.2.2.2.2.2.1, T.2.2.2.2.2.2.2.2.2.1, T.2.2.2.2.2.2.2.2.2.2.1, T.2.2.2.2.2.2.2.2.2.2.2)
def tMv (T : AT) (i : Nat) : AT := if mvP T i = 4 then tHall T i else if mvP T i = 0 then tTrav T i else if T.2.2.1 (mvI T i) then tStep T i else tLost T
section
variable {u : St} {T : AT} {g : Nat → Bool}
theorem AV_gone (V : AV T g) (i : Nat) {j : Nat} (hj : j < T.2.1) (hg : gU g i true j = false) : envOk T.1 T.2.2.2.2.2.2.2.1 j := by
  unfold gU at hg
  by_cases e : j = i
  · rw [if_pos e] at hg; cases hg
  · rw [if_neg e] at hg; exact v_ev V hj hg
theorem AV_mv (V : AV T g) {i : Nat} (hi : i < T.2.1) (hg : g i = false) : AV (tMv T i) (gU g i (mvG T i)) := by
  obtain ⟨hr, hb, hd⟩ := v_ev V hi hg
  unfold tMv mvG
  by_cases h4 : mvP T i = 4
  · rw [if_pos h4, decide_eq_true h4]
    refine ⟨V.1, V.2.1, V.2.2.1, V.2.2.2.1, V.2.2.2.2.1, V.2.2.2.2.2.1, fun j hj hg2 => AV_gone V i hj hg2, ?_⟩
    intro h hh
    show (if h = T.2.2.2.2.2.2.1 (T.2.2.2.2.2.2.2.1 i 0) then nI (T.2.2.2.2.2.2.2.1 i 0) else T.2.2.2.2.2.2.2.2.2.1 h) = nM ∨ ∃ r, r < T.1 ∧ (if h = T.2.2.2.2.2.2.1 (T.2.2.2.2.2.2.2.1 i 0) then nI (T.2.2.2.2.2.2.2.1 i 0) else T.2.2.2.2.2.2.2.2.2.1 h) = nI r
    by_cases e : h = T.2.2.2.2.2.2.1 (T.2.2.2.2.2.2.2.1 i 0)
    · rw [if_pos e]; exact Or.inr ⟨_, hr, rfl⟩
    · rw [if_neg e]; exact v_on V hh
  · rw [if_neg h4, decide_eq_false h4]
    by_cases h0 : mvP T i = 0
    · rw [if_pos h0, decide_eq_true h0]
      exact ⟨V.1, V.2.1, V.2.2.1, V.2.2.2.1, V.2.2.2.2.1, V.2.2.2.2.2.1, fun j hj hg2 => AV_gone V i hj hg2, V.2.2.2.2.2.2.2⟩
    · rw [if_neg h0, decide_eq_false h0]
      cases ho : T.2.2.1 (mvI T i)
      · exact ⟨V.1, V.2.1, V.2.2.1, V.2.2.2.1, V.2.2.2.2.1, V.2.2.2.2.2.1, fun j hj hg2 => AV_gone V i hj hg2, V.2.2.2.2.2.2.2⟩
      · refine ⟨V.1, V.2.1, V.2.2.1, V.2.2.2.1, V.2.2.2.2.1, V.2.2.2.2.2.1, ?_, V.2.2.2.2.2.2.2⟩
        intro j hj hg2
        show envOk T.1 (fun j w => if j = i then sel4 (T.2.2.2.2.2.2.2.1 i 0) (mvP T i) (mvB T i) (T.2.2.2.2.2.2.2.1 i 3) w else T.2.2.2.2.2.2.2.1 j w) j
        by_cases e : j = i
        · simp only [envOk, if_pos e]
          refine ⟨hr, ?_, ?_⟩
          · show mvB T i < 10000
            unfold mvB
            split
            · exact uncN_lt _ _
            · exact covN_lt _ _
          · show (T.2.2.2.2.2.2.2.1 i 3 = 0 ∧ mvP T i ≤ 3) ∨ (T.2.2.2.2.2.2.2.1 i 3 = 1 ∧ 1 ≤ mvP T i ∧ mvP T i ≤ 4)
            unfold mvP at h4 h0 ⊢
            rcases hd with ⟨q, q2⟩ | ⟨q, q2, q3⟩
            · rw [if_pos q] at h4 h0 ⊢
              exact Or.inl ⟨q, by omega⟩
            · rw [if_neg (by omega)] at h4 h0 ⊢
              exact Or.inr ⟨q, by omega, by omega⟩
        · simp only [envOk, if_neg e]
          have h5 : gU g i false j = g j := if_neg e
          have hg3 : gU g i false j = false := hg2
          rw [h5] at hg3
          exact v_ev V hj hg3
theorem CR_hall (H : CR u T g) {i : Nat} (hi : i < T.2.1) {p : Int32} : CR (u.1, u.2.1, u.2.2.1, u.2.2.2.1, u.2.2.2.2.1, u.2.2.2.2.2.1, u.2.2.2.2.2.2.1, upd (upd u.2.2.2.2.2.2.2.1 (4 * i + 1) p) (4 * i + 1) nM, upd u.2.2.2.2.2.2.2.2.1 (T.2.2.2.2.2.2.1 (T.2.2.2.2.2.2.2.1 i 0)) (nI (T.2.2.2.2.2.2.2.1 i 2)), upd u.2.2.2.2.2.2.2.2.2.1 (T.2.2.2.2.2.2.1 (T.2.2.2.2.2.2.2.1 i 0)) (nI (T.2.2.2.2.2.2.2.1 i 0)), u.2.2.2.2.2.2.2.2.2.2.1, upd u.2.2.2.2.2.2.2.2.2.2.2 1 (T.2.2.2.2.2.2.2.2.2.2.2 1 + nI 1)) (tHall T i) (gU g i true) := by
  refine ⟨H.1, H.2.1, H.2.2.1, H.2.2.2.1, H.2.2.2.2.1, H.2.2.2.2.2.1, H.2.2.2.2.2.2.1, ?_, ?_, ?_, H.2.2.2.2.2.2.2.2.2.2.1, ?_⟩
  · intro j hj
    show if (if j = i then true else g j) then _ else _
    by_cases e : j = i
    · subst e
      simp only [if_true]
      simp (disch := omega) only [upd_t, upd_f]
    · rw [if_neg e]
      have h9 := H.2.2.2.2.2.2.2.1 j hj
      cases hgj : g j
      · rw [hgj] at h9
        intro w hw
        simp (disch := omega) only [upd_t, upd_f]
        exact h9 w hw
      · rw [hgj] at h9
        simp only [if_true]
        simp (disch := omega) only [upd_t, upd_f]
        exact h9
  · intro h hh
    show upd _ _ _ _ = if h = T.2.2.2.2.2.2.1 (T.2.2.2.2.2.2.2.1 i 0) then nI (T.2.2.2.2.2.2.2.1 i 2) else T.2.2.2.2.2.2.2.2.1 h
    by_cases e : h = T.2.2.2.2.2.2.1 (T.2.2.2.2.2.2.2.1 i 0)
    · rw [upd_t e, if_pos e]
    · rw [upd_f e, if_neg e, c_lt H hh]
  · intro h hh
    show upd _ _ _ _ = if h = T.2.2.2.2.2.2.1 (T.2.2.2.2.2.2.2.1 i 0) then nI (T.2.2.2.2.2.2.2.1 i 0) else T.2.2.2.2.2.2.2.2.2.1 h
    by_cases e : h = T.2.2.2.2.2.2.1 (T.2.2.2.2.2.2.2.1 i 0)
    · rw [upd_t e, if_pos e]
    · rw [upd_f e, if_neg e, c_on H hh]
  · intro k hk
    show upd u.2.2.2.2.2.2.2.2.2.2.2 1 (T.2.2.2.2.2.2.2.2.2.2.2 1 + nI 1) k = if k = 1 then T.2.2.2.2.2.2.2.2.2.2.2 k + nI 1 else T.2.2.2.2.2.2.2.2.2.2.2 k
    by_cases e : k = 1
    · rw [upd_t e, if_pos e, e]
    · rw [upd_f e, if_neg e, c_ct H hk]
theorem CR_trav (H : CR u T g) {i : Nat} (hi : i < T.2.1) {p : Int32} : CR (u.1, u.2.1, u.2.2.1, u.2.2.2.1, u.2.2.2.2.1, u.2.2.2.2.2.1, u.2.2.2.2.2.2.1, upd (upd u.2.2.2.2.2.2.2.1 (4 * i + 1) p) (4 * i + 1) nM, u.2.2.2.2.2.2.2.2.1, u.2.2.2.2.2.2.2.2.2.1, nI (unc3 T i), upd u.2.2.2.2.2.2.2.2.2.2.2 3 (T.2.2.2.2.2.2.2.2.2.2.2 3 + nI 1)) (tTrav T i) (gU g i true) := by
  refine ⟨H.1, H.2.1, H.2.2.1, H.2.2.2.1, H.2.2.2.2.1, H.2.2.2.2.2.1, H.2.2.2.2.2.2.1, ?_, H.2.2.2.2.2.2.2.2.1, H.2.2.2.2.2.2.2.2.2.1, rfl, ?_⟩
  · intro j hj
    show if (if j = i then true else g j) then _ else _
    by_cases e : j = i
    · subst e
      simp only [if_true]
      simp (disch := omega) only [upd_t, upd_f]
    · rw [if_neg e]
      have h9 := H.2.2.2.2.2.2.2.1 j hj
      cases hgj : g j
      · rw [hgj] at h9
        intro w hw
        simp (disch := omega) only [upd_t, upd_f]
        exact h9 w hw
      · rw [hgj] at h9
        simp only [if_true]
        simp (disch := omega) only [upd_t, upd_f]
        exact h9
  · intro k hk
    show upd u.2.2.2.2.2.2.2.2.2.2.2 3 (T.2.2.2.2.2.2.2.2.2.2.2 3 + nI 1) k = if k = 3 then T.2.2.2.2.2.2.2.2.2.2.2 k + nI 1 else T.2.2.2.2.2.2.2.2.2.2.2 k
    by_cases e : k = 3
    · rw [upd_t e, if_pos e, e]
    · rw [upd_f e, if_neg e, c_ct H hk]
theorem CR_lost (H : CR u T g) {i : Nat} (hi : i < T.2.1) {p : Int32} : CR (u.1, u.2.1, u.2.2.1, u.2.2.2.1, u.2.2.2.2.1, u.2.2.2.2.2.1, u.2.2.2.2.2.2.1, upd (upd u.2.2.2.2.2.2.2.1 (4 * i + 1) p) (4 * i + 1) nM, u.2.2.2.2.2.2.2.2.1, u.2.2.2.2.2.2.2.2.2.1, u.2.2.2.2.2.2.2.2.2.2.1, upd u.2.2.2.2.2.2.2.2.2.2.2 4 (T.2.2.2.2.2.2.2.2.2.2.2 4 + nI 1)) (tLost T) (gU g i true) := by
  refine ⟨H.1, H.2.1, H.2.2.1, H.2.2.2.1, H.2.2.2.2.1, H.2.2.2.2.2.1, H.2.2.2.2.2.2.1, ?_, H.2.2.2.2.2.2.2.2.1, H.2.2.2.2.2.2.2.2.2.1, H.2.2.2.2.2.2.2.2.2.2.1, ?_⟩
  · intro j hj
    show if (if j = i then true else g j) then _ else _
    by_cases e : j = i
    · subst e
      simp only [if_true]
      simp (disch := omega) only [upd_t, upd_f]
    · rw [if_neg e]
      have h9 := H.2.2.2.2.2.2.2.1 j hj
      cases hgj : g j
      · rw [hgj] at h9
        intro w hw
        simp (disch := omega) only [upd_t, upd_f]
        exact h9 w hw
      · rw [hgj] at h9
        simp only [if_true]
        simp (disch := omega) only [upd_t, upd_f]
        exact h9
  · intro k hk
    show upd u.2.2.2.2.2.2.2.2.2.2.2 4 (T.2.2.2.2.2.2.2.2.2.2.2 4 + nI 1) k = if k = 4 then T.2.2.2.2.2.2.2.2.2.2.2 k + nI 1 else T.2.2.2.2.2.2.2.2.2.2.2 k
    by_cases e : k = 4
    · rw [upd_t e, if_pos e, e]
    · rw [upd_f e, if_neg e, c_ct H hk]
theorem CR_step (H : CR u T g) {i : Nat} (hi : i < T.2.1) (hg : g i = false) : CR (u.1, u.2.1, u.2.2.1, u.2.2.2.1, u.2.2.2.2.1, u.2.2.2.2.2.1, u.2.2.2.2.2.2.1, upd (upd u.2.2.2.2.2.2.2.1 (4 * i + 1) (nI (mvP T i))) (4 * i + 2) (nI (mvB T i)), u.2.2.2.2.2.2.2.2.1, u.2.2.2.2.2.2.2.2.2.1, u.2.2.2.2.2.2.2.2.2.2.1, u.2.2.2.2.2.2.2.2.2.2.2) (tStep T i) (gU g i false) := by
  refine ⟨H.1, H.2.1, H.2.2.1, H.2.2.2.1, H.2.2.2.2.1, H.2.2.2.2.2.1, H.2.2.2.2.2.2.1, ?_, H.2.2.2.2.2.2.2.2.1, H.2.2.2.2.2.2.2.2.2.1, H.2.2.2.2.2.2.2.2.2.2.1, H.2.2.2.2.2.2.2.2.2.2.2⟩
  intro j hj
  show if (if j = i then false else g j) then _ else ∀ w, w < 4 → _ = nI (if j = i then sel4 (T.2.2.2.2.2.2.2.1 i 0) (mvP T i) (mvB T i) (T.2.2.2.2.2.2.2.1 i 3) w else T.2.2.2.2.2.2.2.1 j w)
  by_cases e : j = i
  · subst e
    simp only [if_true]
    intro w hw
    rcases (show w = 0 ∨ w = 1 ∨ w = 2 ∨ w = 3 by omega) with rfl | rfl | rfl | rfl <;> simp (disch := omega) only [upd_t, upd_f, c_ev H hj hg] <;> rfl
  · rw [if_neg e]
    have h9 := H.2.2.2.2.2.2.2.1 j hj
    cases hgj : g j
    · rw [hgj] at h9
      intro w hw
      rw [if_neg e]
      simp (disch := omega) only [upd_t, upd_f]
      exact h9 w hw
    · rw [hgj] at h9
      simp only [if_true]
      simp (disch := omega) only [upd_t, upd_f]
      exact h9
set_option maxHeartbeats 4000000 in
theorem X2_moveOn (H : CR u T g) (V : AV T g) {i : Nat} (hi : i < T.2.1) (hg : g i = false) {post : Int32 → St → Prop} (hp : ∀ u', CR u' (tMv T i) (gU g i (mvG T i)) → post (bI (mvA T i)) u') : wp_X2_moveOn u (nI i) post := by
  obtain ⟨hr, hb, hd⟩ := v_ev V hi hg
  have he := v_e V
  have hn := v_n V
  have hh := v_rh V hr
  have k1 := v_rk V hr (p := 1) (by omega) (by omega)
  have k2 := v_rk V hr (p := 2) (by omega) (by omega)
  have k3 := v_rk V hr (p := 3) (by omega) (by omega)
  unfold wp_X2_moveOn
  have main : ∀ q : Nat, q = mvP T i → q ≤ 4 → ((¬ nI q = nI 4 → (¬ nI q = nI 0 → wp_X2_reachInn (u.1, u.2.1, u.2.2.1, u.2.2.2.1, u.2.2.2.2.1, u.2.2.2.2.2.1, u.2.2.2.2.2.2.1, upd u.2.2.2.2.2.2.2.1 (4 * i + 1) (nI q), u.2.2.2.2.2.2.2.2.1, u.2.2.2.2.2.2.2.2.2.1, u.2.2.2.2.2.2.2.2.2.2.1, u.2.2.2.2.2.2.2.2.2.2.2) (nI i) (nI q) (fun u12 => post (nI 0) u12)) ∧ (nI q = nI 0 → wp_X2_reachTraveller (u.1, u.2.1, u.2.2.1, u.2.2.2.1, u.2.2.2.2.1, u.2.2.2.2.2.1, u.2.2.2.2.2.2.1, upd u.2.2.2.2.2.2.2.1 (4 * i + 1) (nI q), u.2.2.2.2.2.2.2.2.1, u.2.2.2.2.2.2.2.2.2.1, u.2.2.2.2.2.2.2.2.2.2.1, u.2.2.2.2.2.2.2.2.2.2.2) (nI i) (fun u14 => post (nI 1) u14))) ∧ (nI q = nI 4 → wp_X2_reachHall (u.1, u.2.1, u.2.2.1, u.2.2.2.1, u.2.2.2.2.1, u.2.2.2.2.2.1, u.2.2.2.2.2.2.1, upd u.2.2.2.2.2.2.2.1 (4 * i + 1) (nI q), u.2.2.2.2.2.2.2.2.1, u.2.2.2.2.2.2.2.2.2.1, u.2.2.2.2.2.2.2.2.2.2.1, u.2.2.2.2.2.2.2.2.2.2.2) (nI i) (fun u16 => post (nI 1) u16))) := by
    intro q hq hq4
    by_cases h4 : q = 4
    · have e1 : tMv T i = tHall T i := if_pos (by omega)
      have e2 : mvG T i = true := by unfold mvG; rw [decide_eq_true (show mvP T i = 4 by omega)]; rfl
      have e3 : mvA T i = true := by unfold mvA; rw [decide_eq_true (show mvP T i = 4 by omega)]; rfl
      rw [e1, e2, e3] at hp
      simp (disch := omega) only [jn, Nat.reduceAdd, Nat.reduceSub, Nat.reduceMul, z0, z1, z2, z3, z4, z5, z6, z7, z8, z9, z10, z12, z16, z18, z24, z31, z33, z48, z49, z51, z53, z55, z57, z59, z60, z61, z63, z66, z97, z99, z111, z114, z115, z116, z118, z122, z126, z255, z854, z1000, z1111, z7143, z9999, z10000, zM, zMn, nI_add, pk_mul, zsub, zlt_t, zlt_f, zle_t, zle_f, zeq_t, zeq_f, zeM1, zeM2, zeM3, zltM, zleM, nI_clamp, zin, false_or, or_false, true_and, and_true, false_and, and_false, not_true_eq_false, not_false_eq_true, true_imp_iff, false_imp_iff, implies_true, if_true, if_false]
      unfold wp_X2_reachHall
      simp (disch := omega) only [jn, Nat.reduceAdd, Nat.reduceSub, Nat.reduceMul, z0, z1, z2, z3, z4, z5, z6, z7, z8, z9, z10, z12, z16, z18, z24, z31, z33, z48, z49, z51, z53, z55, z57, z59, z60, z61, z63, z66, z97, z99, z111, z114, z115, z116, z118, z122, z126, z255, z854, z1000, z1111, z7143, z9999, z10000, zM, zMn, nI_add, pk_mul, zsub, zlt_t, zlt_f, zle_t, zle_f, zeq_t, zeq_f, zeM1, zeM2, zeM3, zltM, zleM, nI_clamp, zin, false_or, or_false, true_and, and_true, false_and, and_false, not_true_eq_false, not_false_eq_true, true_imp_iff, false_imp_iff, implies_true, if_true, if_false, S_openMask, S_keys, S_roadCount, S_roadInns, S_roadKeys, S_roadHalls, S_envelopeCount, S_envelopeNumbers, S_letters, S_answerRoads, S_answerGot, S_counts, sS_openMask, sS_roadCount, sS_envelopeCount, sS_answerGot, aS_keys, aS_roadInns, aS_roadKeys, aS_roadHalls, aS_envelopeNumbers, aS_letters, aS_answerRoads, aS_counts, wS_keys, wS_roadInns, wS_roadKeys, wS_roadHalls, wS_envelopeNumbers, wS_letters, wS_answerRoads, wS_counts, X3_read, X3_write, upd_t, upd_f, wp_X2_ofEnvelope, wp_X2_putNumber, wp_X2_countUp, wp_X2_innAt, wp_X2_keyAt, c_ev H hi hg, c_rh H hr, c_ct H]
      exact hp _ (CR_hall H hi)
    · by_cases h0 : q = 0
      · have e1 : tMv T i = tTrav T i := (if_neg (by omega)).trans (if_pos (by omega))
        have e2 : mvG T i = true := by unfold mvG; rw [decide_eq_true (show mvP T i = 0 by omega)]; simp
        have e3 : mvA T i = true := by unfold mvA; rw [decide_eq_true (show mvP T i = 0 by omega)]; simp
        rw [e1, e2, e3] at hp
        simp (disch := omega) only [jn, Nat.reduceAdd, Nat.reduceSub, Nat.reduceMul, z0, z1, z2, z3, z4, z5, z6, z7, z8, z9, z10, z12, z16, z18, z24, z31, z33, z48, z49, z51, z53, z55, z57, z59, z60, z61, z63, z66, z97, z99, z111, z114, z115, z116, z118, z122, z126, z255, z854, z1000, z1111, z7143, z9999, z10000, zM, zMn, nI_add, pk_mul, zsub, zlt_t, zlt_f, zle_t, zle_f, zeq_t, zeq_f, zeM1, zeM2, zeM3, zltM, zleM, nI_clamp, zin, false_or, or_false, true_and, and_true, false_and, and_false, not_true_eq_false, not_false_eq_true, true_imp_iff, false_imp_iff, implies_true, if_true, if_false]
        unfold wp_X2_reachTraveller
        simp (disch := omega) only [jn, Nat.reduceAdd, Nat.reduceSub, Nat.reduceMul, z0, z1, z2, z3, z4, z5, z6, z7, z8, z9, z10, z12, z16, z18, z24, z31, z33, z48, z49, z51, z53, z55, z57, z59, z60, z61, z63, z66, z97, z99, z111, z114, z115, z116, z118, z122, z126, z255, z854, z1000, z1111, z7143, z9999, z10000, zM, zMn, nI_add, pk_mul, zsub, zlt_t, zlt_f, zle_t, zle_f, zeq_t, zeq_f, zeM1, zeM2, zeM3, zltM, zleM, nI_clamp, zin, false_or, or_false, true_and, and_true, false_and, and_false, not_true_eq_false, not_false_eq_true, true_imp_iff, false_imp_iff, implies_true, if_true, if_false, S_openMask, S_keys, S_roadCount, S_roadInns, S_roadKeys, S_roadHalls, S_envelopeCount, S_envelopeNumbers, S_letters, S_answerRoads, S_answerGot, S_counts, sS_openMask, sS_roadCount, sS_envelopeCount, sS_answerGot, aS_keys, aS_roadInns, aS_roadKeys, aS_roadHalls, aS_envelopeNumbers, aS_letters, aS_answerRoads, aS_counts, wS_keys, wS_roadInns, wS_roadKeys, wS_roadHalls, wS_envelopeNumbers, wS_letters, wS_answerRoads, wS_counts, X3_read, X3_write, upd_t, upd_f, wp_X2_ofEnvelope, wp_X2_putNumber, wp_X2_countUp, wp_X2_innAt, wp_X2_keyAt, c_ev H hi hg]
        refine ⟨5, ?_⟩
        simp (disch := omega) only [lpc, jn, Nat.reduceAdd, Nat.reduceSub, Nat.reduceMul, z0, z1, z2, z3, z4, z5, z6, z7, z8, z9, z10, z12, z16, z18, z24, z31, z33, z48, z49, z51, z53, z55, z57, z59, z60, z61, z63, z66, z97, z99, z111, z114, z115, z116, z118, z122, z126, z255, z854, z1000, z1111, z7143, z9999, z10000, zM, zMn, nI_add, pk_mul, zsub, zlt_t, zlt_f, zle_t, zle_f, zeq_t, zeq_f, zeM1, zeM2, zeM3, zltM, zleM, nI_clamp, zin, false_or, or_false, true_and, and_true, false_and, and_false, not_true_eq_false, not_false_eq_true, true_imp_iff, false_imp_iff, implies_true, if_true, if_false, S_openMask, S_keys, S_roadCount, S_roadInns, S_roadKeys, S_roadHalls, S_envelopeCount, S_envelopeNumbers, S_letters, S_answerRoads, S_answerGot, S_counts, sS_openMask, sS_roadCount, sS_envelopeCount, sS_answerGot, aS_keys, aS_roadInns, aS_roadKeys, aS_roadHalls, aS_envelopeNumbers, aS_letters, aS_answerRoads, aS_counts, wS_keys, wS_roadInns, wS_roadKeys, wS_roadHalls, wS_envelopeNumbers, wS_letters, wS_answerRoads, wS_counts, X3_read, X3_write, upd_t, upd_f, wp_X2_ofEnvelope, wp_X2_putNumber, wp_X2_countUp, wp_X2_innAt, wp_X2_keyAt, c_rk H hr, c_ct H]
        refine X3_uncovered hb k1 ?_
        refine X3_uncovered (uncN_lt _ _) k2 ?_
        refine X3_uncovered (uncN_lt _ _) k3 ?_
        exact hp _ (CR_trav H hi)
      · have q1 := v_ri V hr (p := q) (by omega) (by omega)
        have kq := v_rk V hr (p := q) (by omega) (by omega)
        have f4 : ¬ mvP T i = 4 := by omega
        have f0 : ¬ mvP T i = 0 := by omega
        have e3 : mvA T i = false := by unfold mvA; rw [decide_eq_false f4, decide_eq_false f0]; rfl
        have e2 : mvG T i = !T.2.2.1 (T.2.2.2.2.1 (T.2.2.2.2.2.2.2.1 i 0) q) := by unfold mvG mvI; rw [decide_eq_false f4, decide_eq_false f0, hq]; rfl
        have e1 : tMv T i = if T.2.2.1 (T.2.2.2.2.1 (T.2.2.2.2.2.2.2.1 i 0) q) then tStep T i else tLost T := by unfold tMv mvI; rw [if_neg f4, if_neg f0, hq]
        rw [e1, e2, e3] at hp
        simp (disch := omega) only [jn, Nat.reduceAdd, Nat.reduceSub, Nat.reduceMul, z0, z1, z2, z3, z4, z5, z6, z7, z8, z9, z10, z12, z16, z18, z24, z31, z33, z48, z49, z51, z53, z55, z57, z59, z60, z61, z63, z66, z97, z99, z111, z114, z115, z116, z118, z122, z126, z255, z854, z1000, z1111, z7143, z9999, z10000, zM, zMn, nI_add, pk_mul, zsub, zlt_t, zlt_f, zle_t, zle_f, zeq_t, zeq_f, zeM1, zeM2, zeM3, zltM, zleM, nI_clamp, zin, false_or, or_false, true_and, and_true, false_and, and_false, not_true_eq_false, not_false_eq_true, true_imp_iff, false_imp_iff, implies_true, if_true, if_false]
        unfold wp_X2_reachInn
        simp (disch := omega) only [jn, Nat.reduceAdd, Nat.reduceSub, Nat.reduceMul, z0, z1, z2, z3, z4, z5, z6, z7, z8, z9, z10, z12, z16, z18, z24, z31, z33, z48, z49, z51, z53, z55, z57, z59, z60, z61, z63, z66, z97, z99, z111, z114, z115, z116, z118, z122, z126, z255, z854, z1000, z1111, z7143, z9999, z10000, zM, zMn, nI_add, pk_mul, zsub, zlt_t, zlt_f, zle_t, zle_f, zeq_t, zeq_f, zeM1, zeM2, zeM3, zltM, zleM, nI_clamp, zin, false_or, or_false, true_and, and_true, false_and, and_false, not_true_eq_false, not_false_eq_true, true_imp_iff, false_imp_iff, implies_true, if_true, if_false, S_openMask, S_keys, S_roadCount, S_roadInns, S_roadKeys, S_roadHalls, S_envelopeCount, S_envelopeNumbers, S_letters, S_answerRoads, S_answerGot, S_counts, sS_openMask, sS_roadCount, sS_envelopeCount, sS_answerGot, aS_keys, aS_roadInns, aS_roadKeys, aS_roadHalls, aS_envelopeNumbers, aS_letters, aS_answerRoads, aS_counts, wS_keys, wS_roadInns, wS_roadKeys, wS_roadHalls, wS_envelopeNumbers, wS_letters, wS_answerRoads, wS_counts, X3_read, X3_write, upd_t, upd_f, wp_X2_ofEnvelope, wp_X2_putNumber, wp_X2_countUp, wp_X2_innAt, wp_X2_keyAt, c_ev H hi hg, c_ri H hr, c_rk H hr]
        have ho9 : ∀ (n : Nat → Int32) (post : Int32 → Prop), wp_X2_hasOpen (u.1, u.2.1, u.2.2.1, u.2.2.2.1, u.2.2.2.2.1, u.2.2.2.2.2.1, u.2.2.2.2.2.2.1, n, u.2.2.2.2.2.2.2.2.1, u.2.2.2.2.2.2.2.2.2.1, u.2.2.2.2.2.2.2.2.2.2.1, u.2.2.2.2.2.2.2.2.2.2.2) (nI (T.2.2.2.2.1 (T.2.2.2.2.2.2.2.1 i 0) q)) post = post (bI (T.2.2.1 (T.2.2.2.2.1 (T.2.2.2.2.2.2.2.1 i 0) q))) := by
          intro n post
          unfold wp_X2_hasOpen
          show wp_X2_isInMask u.1 _ _ = _
          rw [X2_isInMask (by omega), c_op H q1]
        rw [ho9]
        cases ho : T.2.2.1 (T.2.2.2.2.1 (T.2.2.2.2.2.2.2.1 i 0) q)
        · rw [ho] at hp
          simp (disch := omega) only [jn, Nat.reduceAdd, Nat.reduceSub, Nat.reduceMul, z0, z1, z2, z3, z4, z5, z6, z7, z8, z9, z10, z12, z16, z18, z24, z31, z33, z48, z49, z51, z53, z55, z57, z59, z60, z61, z63, z66, z97, z99, z111, z114, z115, z116, z118, z122, z126, z255, z854, z1000, z1111, z7143, z9999, z10000, zM, zMn, nI_add, pk_mul, zsub, zlt_t, zlt_f, zle_t, zle_f, zeq_t, zeq_f, zeM1, zeM2, zeM3, zltM, zleM, nI_clamp, zin, false_or, or_false, true_and, and_true, false_and, and_false, not_true_eq_false, not_false_eq_true, true_imp_iff, false_imp_iff, implies_true, if_true, if_false, bI_f, S_openMask, S_keys, S_roadCount, S_roadInns, S_roadKeys, S_roadHalls, S_envelopeCount, S_envelopeNumbers, S_letters, S_answerRoads, S_answerGot, S_counts, sS_openMask, sS_roadCount, sS_envelopeCount, sS_answerGot, aS_keys, aS_roadInns, aS_roadKeys, aS_roadHalls, aS_envelopeNumbers, aS_letters, aS_answerRoads, aS_counts, wS_keys, wS_roadInns, wS_roadKeys, wS_roadHalls, wS_envelopeNumbers, wS_letters, wS_answerRoads, wS_counts, X3_read, X3_write, upd_t, upd_f, wp_X2_ofEnvelope, wp_X2_putNumber, wp_X2_countUp, wp_X2_innAt, wp_X2_keyAt, c_ct H]
          exact hp _ (CR_lost H hi)
        · rw [ho] at hp
          have hs := CR_step H hi hg
          rw [← hq] at hs
          rcases hd with ⟨hd, -⟩ | ⟨hd, -⟩
          · have hB : mvB T i = uncN (T.2.2.2.2.2.2.2.1 i 2) (T.2.2.2.2.2.1 (T.2.2.2.2.2.2.2.1 i 0) q) := by unfold mvB; rw [if_pos hd, hq]
            rw [hB] at hs
            simp (disch := omega) only [jn, Nat.reduceAdd, Nat.reduceSub, Nat.reduceMul, z0, z1, z2, z3, z4, z5, z6, z7, z8, z9, z10, z12, z16, z18, z24, z31, z33, z48, z49, z51, z53, z55, z57, z59, z60, z61, z63, z66, z97, z99, z111, z114, z115, z116, z118, z122, z126, z255, z854, z1000, z1111, z7143, z9999, z10000, zM, zMn, nI_add, pk_mul, zsub, zlt_t, zlt_f, zle_t, zle_f, zeq_t, zeq_f, zeM1, zeM2, zeM3, zltM, zleM, nI_clamp, zin, false_or, or_false, true_and, and_true, false_and, and_false, not_true_eq_false, not_false_eq_true, true_imp_iff, false_imp_iff, implies_true, if_true, if_false, bI_t, S_openMask, S_keys, S_roadCount, S_roadInns, S_roadKeys, S_roadHalls, S_envelopeCount, S_envelopeNumbers, S_letters, S_answerRoads, S_answerGot, S_counts, sS_openMask, sS_roadCount, sS_envelopeCount, sS_answerGot, aS_keys, aS_roadInns, aS_roadKeys, aS_roadHalls, aS_envelopeNumbers, aS_letters, aS_answerRoads, aS_counts, wS_keys, wS_roadInns, wS_roadKeys, wS_roadHalls, wS_envelopeNumbers, wS_letters, wS_answerRoads, wS_counts, X3_read, X3_write, upd_t, upd_f, wp_X2_ofEnvelope, wp_X2_putNumber, wp_X2_countUp, wp_X2_innAt, wp_X2_keyAt, hd]
            refine X3_uncovered hb kq ?_
            exact hp _ hs
          · have hB : mvB T i = covN (T.2.2.2.2.2.2.2.1 i 2) (T.2.2.2.2.2.1 (T.2.2.2.2.2.2.2.1 i 0) q) := by unfold mvB; rw [if_neg (by omega), hq]
            rw [hB] at hs
            simp (disch := omega) only [jn, Nat.reduceAdd, Nat.reduceSub, Nat.reduceMul, z0, z1, z2, z3, z4, z5, z6, z7, z8, z9, z10, z12, z16, z18, z24, z31, z33, z48, z49, z51, z53, z55, z57, z59, z60, z61, z63, z66, z97, z99, z111, z114, z115, z116, z118, z122, z126, z255, z854, z1000, z1111, z7143, z9999, z10000, zM, zMn, nI_add, pk_mul, zsub, zlt_t, zlt_f, zle_t, zle_f, zeq_t, zeq_f, zeM1, zeM2, zeM3, zltM, zleM, nI_clamp, zin, false_or, or_false, true_and, and_true, false_and, and_false, not_true_eq_false, not_false_eq_true, true_imp_iff, false_imp_iff, implies_true, if_true, if_false, bI_t, S_openMask, S_keys, S_roadCount, S_roadInns, S_roadKeys, S_roadHalls, S_envelopeCount, S_envelopeNumbers, S_letters, S_answerRoads, S_answerGot, S_counts, sS_openMask, sS_roadCount, sS_envelopeCount, sS_answerGot, aS_keys, aS_roadInns, aS_roadKeys, aS_roadHalls, aS_envelopeNumbers, aS_letters, aS_answerRoads, aS_counts, wS_keys, wS_roadInns, wS_roadKeys, wS_roadHalls, wS_envelopeNumbers, wS_letters, wS_answerRoads, wS_counts, X3_read, X3_write, upd_t, upd_f, wp_X2_ofEnvelope, wp_X2_putNumber, wp_X2_countUp, wp_X2_innAt, wp_X2_keyAt, hd]
            refine X3_covered hb kq ?_
            exact hp _ hs
  rcases hd with ⟨hd, hd2⟩ | ⟨hd, hd2, hd3⟩
  · have hq : T.2.2.2.2.2.2.2.1 i 1 + 1 = mvP T i := by unfold mvP; rw [if_pos hd]
    have m := main _ hq (by omega)
    simp (disch := omega) only [jn, Nat.reduceAdd, Nat.reduceSub, Nat.reduceMul, z0, z1, z2, z3, z4, z5, z6, z7, z8, z9, z10, z12, z16, z18, z24, z31, z33, z48, z49, z51, z53, z55, z57, z59, z60, z61, z63, z66, z97, z99, z111, z114, z115, z116, z118, z122, z126, z255, z854, z1000, z1111, z7143, z9999, z10000, zM, zMn, nI_add, pk_mul, zsub, zlt_t, zlt_f, zle_t, zle_f, zeq_t, zeq_f, zeM1, zeM2, zeM3, zltM, zleM, nI_clamp, zin, false_or, or_false, true_and, and_true, false_and, and_false, not_true_eq_false, not_false_eq_true, true_imp_iff, false_imp_iff, implies_true, if_true, if_false, S_openMask, S_keys, S_roadCount, S_roadInns, S_roadKeys, S_roadHalls, S_envelopeCount, S_envelopeNumbers, S_letters, S_answerRoads, S_answerGot, S_counts, sS_openMask, sS_roadCount, sS_envelopeCount, sS_answerGot, aS_keys, aS_roadInns, aS_roadKeys, aS_roadHalls, aS_envelopeNumbers, aS_letters, aS_answerRoads, aS_counts, wS_keys, wS_roadInns, wS_roadKeys, wS_roadHalls, wS_envelopeNumbers, wS_letters, wS_answerRoads, wS_counts, X3_read, X3_write, upd_t, upd_f, wp_X2_ofEnvelope, wp_X2_putNumber, wp_X2_countUp, wp_X2_innAt, wp_X2_keyAt, c_ev H hi hg, hd] at m ⊢
    exact m
  · have hq : T.2.2.2.2.2.2.2.1 i 1 - 1 = mvP T i := by unfold mvP; rw [if_neg (by omega)]
    have m := main _ hq (by omega)
    have m1 : nI (T.2.2.2.2.2.2.2.1 i 1) + nM = nI (T.2.2.2.2.2.2.2.1 i 1 - 1) := zaM hd2
    simp (disch := omega) only [jn, Nat.reduceAdd, Nat.reduceSub, Nat.reduceMul, z0, z1, z2, z3, z4, z5, z6, z7, z8, z9, z10, z12, z16, z18, z24, z31, z33, z48, z49, z51, z53, z55, z57, z59, z60, z61, z63, z66, z97, z99, z111, z114, z115, z116, z118, z122, z126, z255, z854, z1000, z1111, z7143, z9999, z10000, zM, zMn, nI_add, pk_mul, zsub, zlt_t, zlt_f, zle_t, zle_f, zeq_t, zeq_f, zeM1, zeM2, zeM3, zltM, zleM, nI_clamp, zin, false_or, or_false, true_and, and_true, false_and, and_false, not_true_eq_false, not_false_eq_true, true_imp_iff, false_imp_iff, implies_true, if_true, if_false, S_openMask, S_keys, S_roadCount, S_roadInns, S_roadKeys, S_roadHalls, S_envelopeCount, S_envelopeNumbers, S_letters, S_answerRoads, S_answerGot, S_counts, sS_openMask, sS_roadCount, sS_envelopeCount, sS_answerGot, aS_keys, aS_roadInns, aS_roadKeys, aS_roadHalls, aS_envelopeNumbers, aS_letters, aS_answerRoads, aS_counts, wS_keys, wS_roadInns, wS_roadKeys, wS_roadHalls, wS_envelopeNumbers, wS_letters, wS_answerRoads, wS_counts, X3_read, X3_write, upd_t, upd_f, wp_X2_ofEnvelope, wp_X2_putNumber, wp_X2_countUp, wp_X2_innAt, wp_X2_keyAt, c_ev H hi hg, hd, m1] at m ⊢
    exact m
end

