/-! a letter comes as it was sent, and so does the answer -/
section
variable {T : AT} {t i : Nat}
theorem mvS_B (j : Nat) : mvB (mvS T j) j = mvB T j := by
  obtain ⟨-, -, -, -, h5, -⟩ := mvS_same (T := T) j
  unfold mvB
  rw [mvS_P, mvS_ev j j (Nat.le_refl _), h5]
theorem mvS_I (j : Nat) : mvI (mvS T j) j = mvI T j := by
  obtain ⟨-, -, -, h4, -, -⟩ := mvS_same (T := T) j
  unfold mvI
  rw [mvS_P, mvS_ev j j (Nat.le_refl _), h4]
/-- an envelope that is still on the way has gone one place on -/
theorem mvS_env (V : AV T g0) : ∀ i, i ≤ T.2.1 → ∀ b, b < i → mvD T i b = false → ((mvS T i).2.2.2.2.2.2.2.1 b = fun w => sel4 (T.2.2.2.2.2.2.2.1 b 0) (mvP T b) (mvB T b) (T.2.2.2.2.2.2.2.1 b 3) w) ∧ 1 ≤ mvP T b ∧ mvP T b ≤ 3
  | 0, _, b, hb, _ => absurd hb (Nat.not_lt_zero _)
  | i + 1, hi, b, hb, hg => by
    have V1 := AV_mvS V i (by omega)
    have hi2 : i < (mvS T i).2.1 := by rw [mvS_e]; omega
    have hg2 := mvD_f T i i (Nat.le_refl _)
    by_cases e : b = i
    · subst e
      have hg3 : mvG (mvS T b) b = false := by
        have h : gU (mvD T b) b (mvG (mvS T b) b) b = false := hg
        unfold gU at h
        rw [if_pos rfl] at h
        exact h
      rcases mv_cases V1 hi2 hg2 with ⟨h, d3, d1, e, eG, eA⟩ | ⟨h, d3, d1, e, eG, eA⟩ | ⟨p1, p3, hop, e, eG, eA⟩ | ⟨p1, p3, hop, e, eG, eA⟩
      · rw [eG] at hg3; exact absurd hg3 (by decide)
      · rw [eG] at hg3; exact absurd hg3 (by decide)
      · rw [eG] at hg3; exact absurd hg3 (by decide)
      · rw [mvS_P] at p1 p3
        refine ⟨?_, p1, p3⟩
        show (tMv (mvS T b) b).2.2.2.2.2.2.2.1 b = _
        rw [e]
        have e9 : (tStep (mvS T b) b).2.2.2.2.2.2.2.1 b = fun w => sel4 ((mvS T b).2.2.2.2.2.2.2.1 b 0) (mvP (mvS T b) b) (mvB (mvS T b) b) ((mvS T b).2.2.2.2.2.2.2.1 b 3) w := by funext w; exact if_pos rfl
        rw [e9, mvS_P, mvS_B, mvS_ev b b (Nat.le_refl _)]
    · have h : gU (mvD T i) i (mvG (mvS T i) i) b = false := hg
      unfold gU at h
      rw [if_neg e] at h
      obtain ⟨q1, q2, q3⟩ := mvS_env V i (by omega) b (by omega) h
      refine ⟨?_, q2, q3⟩
      show (tMv (mvS T i) i).2.2.2.2.2.2.2.1 b = _
      rw [tMv_ev e]
      exact q1
theorem tick_e : (tTick T).2.1 = rmK (mvD T T.2.1) T.2.1 := by
  show rmK (mvD T T.2.1) (mvS T T.2.1).2.1 = _
  rw [mvS_e]
theorem tick_ev : (tTick T).2.2.2.2.2.2.2.1 = rmE (mvS T T.2.1).2.2.2.2.2.2.2.1 (mvD T T.2.1) T.2.1 := by
  show rmE (mvS T T.2.1).2.2.2.2.2.2.2.1 (mvD T T.2.1) (mvS T T.2.1).2.1 = _
  rw [mvS_e]
/-- at most d ticks to go -/
def DS (T : AT) (d : Nat) : Prop := ∀ j, j < T.2.1 → (T.2.2.2.2.2.2.2.1 j 3 = 0 → 4 ≤ T.2.2.2.2.2.2.2.1 j 1 + d) ∧ (T.2.2.2.2.2.2.2.1 j 3 = 1 → T.2.2.2.2.2.2.2.1 j 1 ≤ d)
theorem DS_4 (V : AV T g0) : DS T 4 := by
  intro j hj
  have hv := v_ev V hj rfl
  unfold envOk at hv
  omega
theorem DS_tick (V : AV T g0) {d : Nat} (h : DS T (d + 1)) : DS (tTick T) d := by
  intro j hj
  rw [tick_e] at hj
  rw [tick_ev]
  obtain ⟨b, h1, h2, h3⟩ := rm_src (mvS T T.2.1).2.2.2.2.2.2.2.1 (mvD T T.2.1) T.2.1 j hj
  obtain ⟨q1, q2, q3⟩ := mvS_env V T.2.1 (Nat.le_refl _) b h1 h2
  rw [h3, h3, q1]
  show (T.2.2.2.2.2.2.2.1 b 3 = 0 → 4 ≤ mvP T b + d) ∧ (T.2.2.2.2.2.2.2.1 b 3 = 1 → mvP T b ≤ d)
  have hb := h b h1
  have hP : mvP T b = if T.2.2.2.2.2.2.2.1 b 3 = 0 then T.2.2.2.2.2.2.2.1 b 1 + 1 else T.2.2.2.2.2.2.2.1 b 1 - 1 := rfl
  constructor
  · intro z
    have := hb.1 z
    rw [if_pos z] at hP
    omega
  · intro z
    have := hb.2 z
    rw [if_neg (by omega)] at hP
    omega
theorem DS_pass (V : AV T g0) : ∀ k, k ≤ 4 → DS (tPass T k) (4 - k)
  | 0, _ => DS_4 V
  | k + 1, h => by
    have ih := DS_pass V k (by omega)
    rw [show 4 - k = (4 - (k + 1)) + 1 by omega] at ih
    exact DS_tick (AV_pass V k) ih
theorem DS_0 (V : AV T g0) (h : DS T 0) : T.2.1 = 0 := by
  rcases Nat.eq_zero_or_pos T.2.1 with z | z
  · exact z
  · have hv := v_ev V z rfl
    have hd := h 0 z
    unfold envOk at hv
    omega
theorem pass_4 (V : AV T g0) : (tPass T 4).2.1 = 0 := DS_0 (AV_pass V 4) (DS_pass V 4 (by omega))
/-- the last envelope goes on -/
theorem last_on (V : AV T g0) (he : T.2.1 = i + 1) (h1 : 1 ≤ mvP T i) (h3 : mvP T i ≤ 3) (hop : T.2.2.1 (T.2.2.2.2.1 (T.2.2.2.2.2.2.2.1 i 0) (mvP T i)) = true) : (tTick T).2.1 = rmK (mvD T T.2.1) i + 1 ∧ ((tTick T).2.2.2.2.2.2.2.1 (rmK (mvD T T.2.1) i) = fun w => sel4 (T.2.2.2.2.2.2.2.1 i 0) (mvP T i) (mvB T i) (T.2.2.2.2.2.2.2.1 i 3) w) ∧ mvA (mvS T i) i = false := by
  have V1 := AV_mvS V i (by omega)
  have hi2 : i < (mvS T i).2.1 := by rw [mvS_e]; omega
  have hg2 := mvD_f T i i (Nat.le_refl _)
  have hI : mvI T i = T.2.2.2.2.1 (T.2.2.2.2.2.2.2.1 i 0) (mvP T i) := rfl
  have hop2 : (mvS T i).2.2.1 (mvI (mvS T i) i) = true := by
    obtain ⟨-, s2, -, -, -, -⟩ := mvS_same (T := T) i
    rw [s2, mvS_I, hI]
    exact hop
  have hm : mvG (mvS T i) i = false ∧ mvA (mvS T i) i = false := by
    rcases mv_cases V1 hi2 hg2 with ⟨h, d3, d1, e, eG, eA⟩ | ⟨h, d3, d1, e, eG, eA⟩ | ⟨p1, p3, hq, e, eG, eA⟩ | ⟨p1, p3, hq, e, eG, eA⟩
    · rw [mvS_P] at h; omega
    · rw [mvS_P] at h; omega
    · rw [hop2] at hq; exact absurd hq (by decide)
    · exact ⟨eG, eA⟩
  have hd : mvD T T.2.1 i = false := by
    rw [he]
    show gU (mvD T i) i (mvG (mvS T i) i) i = false
    unfold gU
    rw [if_pos rfl]
    exact hm.1
  obtain ⟨q1, -, -⟩ := mvS_env V T.2.1 (Nat.le_refl _) i (by omega) hd
  refine ⟨?_, ?_, hm.2⟩
  · rw [tick_e]
    generalize mvD T T.2.1 = g at hd
    rw [he]
    show rmK g i + (if g i = true then 0 else 1) = _
    rw [hd]
    rfl
  · rw [tick_ev, ← q1]
    generalize mvD T T.2.1 = g at hd
    generalize (mvS T T.2.1).2.2.2.2.2.2.2.1 = ev
    rw [he]
    have e2 : rmE ev g (i + 1) = fun a w => if a = rmK g i then ev i w else rmE ev g i a w := by show (if g i = true then rmE ev g i else _) = _; rw [hd]; rfl
    rw [e2]
    funext w
    exact if_pos rfl
/-- what the last envelope is -/
def LE (T : AT) (r p b d : Nat) : Prop := ∃ i, T.2.1 = i + 1 ∧ T.2.2.2.2.2.2.2.1 i 0 = r ∧ T.2.2.2.2.2.2.2.1 i 1 = p ∧ T.2.2.2.2.2.2.2.1 i 2 = b ∧ T.2.2.2.2.2.2.2.1 i 3 = d
/-- a road and its keys, its inns open -/
def RD (T : AT) (r k1 k2 k3 h : Nat) : Prop := T.2.2.2.2.2.1 r 1 = k1 ∧ T.2.2.2.2.2.1 r 2 = k2 ∧ T.2.2.2.2.2.1 r 3 = k3 ∧ T.2.2.2.2.2.2.1 r = h ∧ T.2.2.1 (T.2.2.2.2.1 r 1) = true ∧ T.2.2.1 (T.2.2.2.2.1 r 2) = true ∧ T.2.2.1 (T.2.2.2.2.1 r 3) = true
theorem RD_tick {r k1 k2 k3 h : Nat} (R : RD T r k1 k2 k3 h) : RD (tTick T) r k1 k2 k3 h := by
  obtain ⟨-, s2, -, s4, s5, s6⟩ := tick_same (T := T)
  unfold RD at R ⊢
  rw [s2, s4, s5, s6]
  exact R
theorem RD_pass {r k1 k2 k3 h : Nat} (R : RD T r k1 k2 k3 h) : ∀ k, RD (tPass T k) r k1 k2 k3 h
  | 0 => R
  | k + 1 => RD_tick (RD_pass R k)
theorem RD_op {r k1 k2 k3 h : Nat} (R : RD T r k1 k2 k3 h) {p : Nat} (h1 : 1 ≤ p) (h3 : p ≤ 3) : T.2.2.1 (T.2.2.2.2.1 r p) = true := by
  obtain ⟨-, -, -, -, o1, o2, o3⟩ := R
  rcases (show p = 1 ∨ p = 2 ∨ p = 3 by omega) with rfl | rfl | rfl
  · exact o1
  · exact o2
  · exact o3
theorem LE_out (V : AV T g0) {r p b k1 k2 k3 h : Nat} (R : RD T r k1 k2 k3 h) (L : LE T r p b 0) (hp : p < 3) : LE (tTick T) r (p + 1) (uncN b (T.2.2.2.2.2.1 r (p + 1))) 0 ∧ (T.2.1 = 1 → (tTick T).2.1 = 1 ∧ aN T T.2.1 = 0) := by
  obtain ⟨i, he, l0, l1, l2, l3⟩ := L
  have hP : mvP T i = p + 1 := by
    have hP : mvP T i = if T.2.2.2.2.2.2.2.1 i 3 = 0 then T.2.2.2.2.2.2.2.1 i 1 + 1 else T.2.2.2.2.2.2.2.1 i 1 - 1 := rfl
    rw [if_pos l3, l1] at hP
    exact hP
  have hB : mvB T i = uncN b (T.2.2.2.2.2.1 r (p + 1)) := by
    unfold mvB
    rw [if_pos l3, hP, l0, l2]
  obtain ⟨a1, a2, a3⟩ := last_on V he (by omega) (by omega) (by rw [hP, l0]; exact RD_op R (by omega) (by omega))
  refine ⟨⟨_, a1, ?_, ?_, ?_, ?_⟩, fun h1 => ?_⟩
  · rw [a2]; exact l0
  · rw [a2]; exact hP
  · rw [a2]; exact hB
  · rw [a2]; exact l3
  · obtain rfl : i = 0 := by omega
    refine ⟨a1, ?_⟩
    rw [h1]
    show 0 + (if mvA (mvS T 0) 0 = true then 1 else 0) = 0
    rw [a3]
    rfl
theorem LE_back (V : AV T g0) {r p b k1 k2 k3 h : Nat} (R : RD T r k1 k2 k3 h) (L : LE T r (p + 1) b 1) (h1 : 1 ≤ p) (h3 : p ≤ 3) : LE (tTick T) r p (covN b (T.2.2.2.2.2.1 r p)) 1 ∧ (T.2.1 = 1 → (tTick T).2.1 = 1 ∧ aN T T.2.1 = 0) := by
  obtain ⟨i, he, l0, l1, l2, l3⟩ := L
  have hP : mvP T i = p := by
    have hP : mvP T i = if T.2.2.2.2.2.2.2.1 i 3 = 0 then T.2.2.2.2.2.2.2.1 i 1 + 1 else T.2.2.2.2.2.2.2.1 i 1 - 1 := rfl
    rw [if_neg (by omega), l1] at hP
    exact hP
  have hB : mvB T i = covN b (T.2.2.2.2.2.1 r p) := by
    unfold mvB
    rw [if_neg (by omega), hP, l0, l2]
  obtain ⟨a1, a2, a3⟩ := last_on V he (by omega) (by omega) (by rw [hP, l0]; exact RD_op R (by omega) (by omega))
  refine ⟨⟨_, a1, ?_, ?_, ?_, ?_⟩, fun h1 => ?_⟩
  · rw [a2]; exact l0
  · rw [a2]; exact hP
  · rw [a2]; exact hB
  · rw [a2]; exact l3
  · obtain rfl : i = 0 := by omega
    refine ⟨a1, ?_⟩
    rw [h1]
    show 0 + (if mvA (mvS T 0) 0 = true then 1 else 0) = 0
    rw [a3]
    rfl
theorem LE_hall {r b : Nat} (L : LE T r 3 b 0) : (tTick T).2.2.2.2.2.2.2.2.1 (T.2.2.2.2.2.2.1 r) = nI b ∧ (tTick T).2.2.2.2.2.2.2.2.2.1 (T.2.2.2.2.2.2.1 r) = nI r := by
  obtain ⟨i, he, l0, l1, l2, l3⟩ := L
  have hP : mvP (mvS T i) i = 4 := by
    have hP : mvP T i = if T.2.2.2.2.2.2.2.1 i 3 = 0 then T.2.2.2.2.2.2.2.1 i 1 + 1 else T.2.2.2.2.2.2.2.1 i 1 - 1 := rfl
    rw [mvS_P, hP, if_pos l3, l1]
  have hM : mvS T T.2.1 = tHall (mvS T i) i := by
    rw [he]
    show tMv (mvS T i) i = _
    unfold tMv
    rw [if_pos hP]
  obtain ⟨-, -, -, -, -, s6⟩ := mvS_same (T := T) i
  have e0 : (mvS T i).2.2.2.2.2.2.2.1 i = T.2.2.2.2.2.2.2.1 i := mvS_ev i i (Nat.le_refl _)
  have g1 : (tTick T).2.2.2.2.2.2.2.2.1 = (tHall (mvS T i) i).2.2.2.2.2.2.2.2.1 := by show (mvS T T.2.1).2.2.2.2.2.2.2.2.1 = _; rw [hM]
  have g2 : (tTick T).2.2.2.2.2.2.2.2.2.1 = (tHall (mvS T i) i).2.2.2.2.2.2.2.2.2.1 := by show (mvS T T.2.1).2.2.2.2.2.2.2.2.2.1 = _; rw [hM]
  rw [g1, g2]
  constructor
  · show (if T.2.2.2.2.2.2.1 r = (mvS T i).2.2.2.2.2.2.1 ((mvS T i).2.2.2.2.2.2.2.1 i 0) then nI ((mvS T i).2.2.2.2.2.2.2.1 i 2) else _) = _
    rw [s6, e0, l0, if_pos rfl, l2]
  · show (if T.2.2.2.2.2.2.1 r = (mvS T i).2.2.2.2.2.2.1 ((mvS T i).2.2.2.2.2.2.2.1 i 0) then nI ((mvS T i).2.2.2.2.2.2.2.1 i 0) else _) = _
    rw [s6, e0, l0, if_pos rfl]
theorem LE_trav {r b k1 k2 k3 h : Nat} (R : RD T r k1 k2 k3 h) (L : LE T r 1 b 1) (he1 : T.2.1 = 1) : (tTick T).2.2.2.2.2.2.2.2.2.2.1 = nI (uncN (uncN (uncN b k1) k2) k3) ∧ aN T T.2.1 = 1 := by
  obtain ⟨i, he, l0, l1, l2, l3⟩ := L
  obtain rfl : i = 0 := by omega
  have hP : mvP T 0 = 0 := by
    have hP : mvP T 0 = if T.2.2.2.2.2.2.2.1 0 3 = 0 then T.2.2.2.2.2.2.2.1 0 1 + 1 else T.2.2.2.2.2.2.2.1 0 1 - 1 := rfl
    rw [hP, if_neg (by omega), l1]
  have hM : mvS T T.2.1 = tTrav T 0 := by
    rw [he]
    show tMv T 0 = _
    unfold tMv
    rw [if_neg (by omega), if_pos hP]
  constructor
  · show (mvS T T.2.1).2.2.2.2.2.2.2.2.2.2.1 = _
    rw [hM]
    show nI (unc3 T 0) = _
    unfold unc3
    rw [l0, l2, R.1, R.2.1, R.2.2.1]
  · rw [he]
    show 0 + (if mvA T 0 = true then 1 else 0) = 1
    have : mvA T 0 = true := by unfold mvA; rw [hP]; rfl
    rw [this]
    rfl
theorem cnt_0 {φ : (Nat → Nat) → Bool} {ev : Nat → Nat → Nat} {n : Nat} (h : n = 0) : cnt φ ev g0 n = 0 := by rw [h]; rfl
/-- all that the law asks of a letter and its answer -/
theorem brought (V : AV T g0) (Q : QB T g0 t) {r b a q : Nat} (hr : r < T.1) (hst : stN T r = true) (he : T.2.1 < 12) (hb : b < 10000) (ha : a < 10000) {T1 T2 T3 T4 : AT} (e1 : T1 = tKey (tPut T 0 r 0 (nest T r b) 0) q a) (e2 : T2 = tPass T1 4) (e3 : T3 = tPut T2 2 r 4 a 1) (e4 : T4 = tPass T3 3) : AV T1 g0 ∧ paN T1 4 = cnt (fOk T1.2.2.1 T1.2.2.2.2.1) T1.2.2.2.2.2.2.2.1 g0 T1.2.1 ∧ T2.2.1 = 0 ∧ T2.2.2.2.2.2.2.2.2.1 (T.2.2.2.2.2.2.1 r) = nI b ∧ T2.2.2.2.2.2.2.2.2.2.1 (T.2.2.2.2.2.2.1 r) = nI r ∧ T2.1 = T.1 ∧ paN T3 3 = 0 ∧ paN T4 1 = 1 ∧ (tPass T4 1).2.2.2.2.2.2.2.2.2.2.1 = nI a := by
  have V1 : AV T1 g0 := by
    rw [e1]
    exact AV_key (AV_put V he 0 hr (nest_lt _ _) (Or.inl ⟨rfl, by omega⟩)) ha
  have Q1 : QB T1 g0 (t + 1) := by
    rw [e1]
    exact QB_put0 Q
  have c1 := v_rk V hr (p := 1) (by omega) (by omega)
  have c2 := v_rk V hr (p := 2) (by omega) (by omega)
  have c3 := v_rk V hr (p := 3) (by omega) (by omega)
  have R1 : RD T1 r (T.2.2.2.2.2.1 r 1) (T.2.2.2.2.2.1 r 2) (T.2.2.2.2.2.1 r 3) (T.2.2.2.2.2.2.1 r) := by
    rw [e1]
    unfold stN at hst
    obtain ⟨h1, h2⟩ := (Bool.and_eq_true _ _).mp hst
    obtain ⟨h3, h4⟩ := (Bool.and_eq_true _ _).mp h1
    exact ⟨rfl, rfl, rfl, rfl, h3, h4, h2⟩
  have L1 : LE T1 r 0 (nest T r b) 0 := by
    rw [e1]
    have e0 : (tPut T 0 r 0 (nest T r b) 0).2.2.2.2.2.2.2.1 T.2.1 = fun w => sel4 r 0 (nest T r b) 0 w := by funext w; exact if_pos rfl
    have e5 : (tKey (tPut T 0 r 0 (nest T r b) 0) q a).2.2.2.2.2.2.2.1 T.2.1 = fun w => sel4 r 0 (nest T r b) 0 w := e0
    refine ⟨T.2.1, rfl, ?_, ?_, ?_, ?_⟩ <;> rw [e5] <;> rfl
  have R2 := RD_pass R1 1
  have R3 := RD_pass R1 2
  have R4 := RD_pass R1 3
  have L2 : LE (tPass T1 1) r 1 (covN (covN b (T.2.2.2.2.2.1 r 3)) (T.2.2.2.2.2.1 r 2)) 0 := by
    have l := (LE_out V1 R1 L1 (by omega)).1
    rw [R1.1] at l
    unfold nest at l
    rw [unc_cov (covN_lt _ _) c1] at l
    exact l
  have L3 : LE (tPass T1 2) r 2 (covN b (T.2.2.2.2.2.1 r 3)) 0 := by
    have l := (LE_out (AV_pass V1 1) R2 L2 (by omega)).1
    rw [R2.2.1, unc_cov (covN_lt _ _) c2] at l
    exact l
  have L4 : LE (tPass T1 3) r 3 b 0 := by
    have l := (LE_out (AV_pass V1 2) R3 L3 (by omega)).1
    rw [R3.2.2.1, unc_cov hb c3] at l
    exact l
  have hH := LE_hall L4
  rw [R4.2.2.2.1] at hH
  have z4 : T2.2.1 = 0 := by rw [e2]; exact pass_4 V1
  have hdue := due_pass V1 Q1 4
  rw [← e2, cnt_0 z4, Nat.zero_add] at hdue
  have V2 : AV T2 g0 := by rw [e2]; exact AV_pass V1 4
  have n2 : T2.1 = T.1 := by
    obtain ⟨s1, -⟩ := pass_same (T := T1) 4
    rw [e2, s1, e1]
    rfl
  have V3 : AV T3 g0 := by
    rw [e3]
    exact AV_put V2 (by omega) 2 (by omega) ha (Or.inr ⟨rfl, by omega, by omega⟩)
  have R5 : RD T3 r (T.2.2.2.2.2.1 r 1) (T.2.2.2.2.2.1 r 2) (T.2.2.2.2.2.1 r 3) (T.2.2.2.2.2.2.1 r) := by
    rw [e3, e2]
    exact RD_pass R1 4
  have he3 : T3.2.1 = 1 := by
    rw [e3]
    show T2.2.1 + 1 = 1
    omega
  have L5 : LE T3 r 4 a 1 := by
    have e0 : (tPut T2 2 r 4 a 1).2.2.2.2.2.2.2.1 T2.2.1 = fun w => sel4 r 4 a 1 w := by funext w; exact if_pos rfl
    rw [e3]
    refine ⟨T2.2.1, rfl, ?_, ?_, ?_, ?_⟩ <;> rw [e0] <;> rfl
  have R6 := RD_pass R5 1
  have R7 := RD_pass R5 2
  have R8 := RD_pass R5 3
  have L6 := LE_back V3 R5 (p := 3) L5 (by omega) (by omega)
  rw [R5.2.2.1] at L6
  have g6 := L6.2 he3
  have L7 := LE_back (AV_pass V3 1) R6 (p := 2) L6.1 (by omega) (by omega)
  rw [R6.2.1] at L7
  have g7 := L7.2 g6.1
  have L8 := LE_back (AV_pass V3 2) R7 (p := 1) L7.1 (by omega) (by omega)
  rw [R7.1] at L8
  have g8 := L8.2 g7.1
  have L9 := LE_trav R8 L8.1 g8.1
  rw [unc_cov (covN_lt _ _) c1, unc_cov (covN_lt _ _) c2, unc_cov ha c3] at L9
  refine ⟨V1, hdue, z4, by rw [e2]; exact hH.1, by rw [e2]; exact hH.2, n2, ?_, ?_, ?_⟩
  · show 0 + aN T3 T3.2.1 + aN (tPass T3 1) (tPass T3 1).2.1 + aN (tPass T3 2) (tPass T3 2).2.1 = 0
    have a1 : aN T3 T3.2.1 = 0 := g6.2
    have a2 : aN (tPass T3 1) (tPass T3 1).2.1 = 0 := g7.2
    have a3 : aN (tPass T3 2) (tPass T3 2).2.1 = 0 := g8.2
    omega
  · rw [e4]
    show 0 + aN (tPass T3 3) (tPass T3 3).2.1 = 1
    have a4 : aN (tPass T3 3) (tPass T3 3).2.1 = 1 := L9.2
    omega
  · rw [e4]
    exact L9.1
end
