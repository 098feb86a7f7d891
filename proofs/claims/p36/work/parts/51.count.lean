/-! counts of envelopes; what a tick does to them -/
def cnt (φ : (Nat → Nat) → Bool) (ev : Nat → Nat → Nat) (g : Nat → Bool) : Nat → Nat
  | 0 => 0
  | j + 1 => cnt φ ev g j + (if g j = false ∧ φ (ev j) = true then 1 else 0)
theorem cnt_congr {φ : (Nat → Nat) → Bool} {ev ev' : Nat → Nat → Nat} {g g' : Nat → Bool} : ∀ n, (∀ j, j < n → g j = g' j ∧ ev j = ev' j) → cnt φ ev g n = cnt φ ev' g' n
  | 0, _ => rfl
  | n + 1, h => by
    show cnt φ ev g n + (if g n = false ∧ φ (ev n) = true then 1 else 0) = cnt φ ev' g' n + (if g' n = false ∧ φ (ev' n) = true then 1 else 0)
    rw [cnt_congr n (fun j hj => h j (by omega)), (h n (by omega)).1, (h n (by omega)).2]
theorem cnt_one {φ : (Nat → Nat) → Bool} {ev ev' : Nat → Nat → Nat} {g g' : Nat → Bool} {i : Nat} (h : ∀ j, j ≠ i → g' j = g j ∧ ev' j = ev j) (hg : g i = false) : ∀ n, i < n → cnt φ ev' g' n + (if φ (ev i) = true then 1 else 0) = cnt φ ev g n + (if g' i = false ∧ φ (ev' i) = true then 1 else 0)
  | 0, h0 => absurd h0 (Nat.not_lt_zero _)
  | n + 1, h0 => by
    show cnt φ ev' g' n + (if g' n = false ∧ φ (ev' n) = true then 1 else 0) + _ = cnt φ ev g n + (if g n = false ∧ φ (ev n) = true then 1 else 0) + _
    by_cases e : n = i
    · subst e
      rw [cnt_congr (g := g') (g' := g) (ev := ev') (ev' := ev) n (fun j hj => h j (by omega))]
      simp only [hg, true_and]
      omega
    · have ih := cnt_one (φ := φ) h hg n (by omega)
      rw [(h n e).1, (h n e).2]
      omega
theorem rm_cnt {φ : (Nat → Nat) → Bool} (ev : Nat → Nat → Nat) (g : Nat → Bool) : ∀ n, cnt φ (rmE ev g n) g0 (rmK g n) = cnt φ ev g n
  | 0 => rfl
  | n + 1 => by
    have ih := rm_cnt (φ := φ) ev g n
    cases hg : g n
    · have e1 : rmK g (n + 1) = rmK g n + 1 := by show rmK g n + (if g n = true then 0 else 1) = _; rw [hg]; rfl
      have e2 : rmE ev g (n + 1) = fun a w => if a = rmK g n then ev n w else rmE ev g n a w := by show (if g n = true then rmE ev g n else _) = _; rw [hg]; rfl
      rw [e1]
      show cnt φ (rmE ev g (n + 1)) g0 (rmK g n) + (if g0 (rmK g n) = false ∧ φ (rmE ev g (n + 1) (rmK g n)) = true then 1 else 0) = cnt φ ev g n + (if g n = false ∧ φ (ev n) = true then 1 else 0)
      have e3 : rmE ev g (n + 1) (rmK g n) = ev n := by rw [e2]; funext w; exact if_pos rfl
      have e4 : cnt φ (rmE ev g (n + 1)) g0 (rmK g n) = cnt φ (rmE ev g n) g0 (rmK g n) := cnt_congr _ (fun j hj => ⟨rfl, by rw [e2]; funext w; exact if_neg (by omega)⟩)
      rw [e3, e4, ih, hg]
      rfl
    · have e1 : rmK g (n + 1) = rmK g n := by show rmK g n + (if g n = true then 0 else 1) = _; rw [hg]; rfl
      have e2 : rmE ev g (n + 1) = rmE ev g n := by show (if g n = true then rmE ev g n else _) = _; rw [hg]; rfl
      rw [e1, e2, ih]
      show _ = cnt φ ev g n + (if g n = false ∧ φ (ev n) = true then 1 else 0)
      rw [hg]
      simp
def fAll : (Nat → Nat) → Bool := fun _ => true
def fOut : (Nat → Nat) → Bool := fun v => decide (v 3 = 0)
def blE (op : Nat → Bool) (ri : Nat → Nat → Nat) (v : Nat → Nat) (k : Nat) : Bool := (if v 3 = 0 then decide (v 1 < k) else decide (k < v 1)) && !op (ri (v 0) k)
def fOk (op : Nat → Bool) (ri : Nat → Nat → Nat) : (Nat → Nat) → Bool := fun v => !(blE op ri v 1 || blE op ri v 2 || blE op ri v 3)
theorem cnt_all (ev : Nat → Nat → Nat) : ∀ n, cnt fAll ev g0 n = n
  | 0 => rfl
  | n + 1 => by
    show cnt fAll ev g0 n + 1 = n + 1
    rw [cnt_all ev n]
section
variable {T : AT} {g : Nat → Bool} {i t : Nat}
theorem arN_ok {j : Nat} (he : T.2.2.2.2.2.2.2.1 j 1 ≤ 4) : (arN T T.2.2.1 j = nM) = (fOk T.2.2.1 T.2.2.2.2.1 (T.2.2.2.2.2.2.2.1 j) = false) := by
  have e : ∀ k, blk T T.2.2.1 j k = blE T.2.2.1 T.2.2.2.2.1 (T.2.2.2.2.2.2.2.1 j) k := fun _ => rfl
  unfold arN fOk
  rw [e, e, e]
  cases hb : (blE T.2.2.1 T.2.2.2.2.1 (T.2.2.2.2.2.2.2.1 j) 1 || blE T.2.2.1 T.2.2.2.2.1 (T.2.2.2.2.2.2.2.1 j) 2 || blE T.2.2.1 T.2.2.2.2.1 (T.2.2.2.2.2.2.2.1 j) 3)
  · simp only [Bool.false_eq_true, if_false, Bool.not_false]
    split
    · rw [zeM1 (by omega)]; simp
    · rw [zeM1 (by omega)]; simp
  · simp
theorem tMv_same : (tMv T i).1 = T.1 ∧ (tMv T i).2.2.1 = T.2.2.1 ∧ (tMv T i).2.2.2.1 = T.2.2.2.1 ∧ (tMv T i).2.2.2.2.1 = T.2.2.2.2.1 ∧ (tMv T i).2.2.2.2.2.1 = T.2.2.2.2.2.1 ∧ (tMv T i).2.2.2.2.2.2.1 = T.2.2.2.2.2.2.1 := by
  unfold tMv
  split
  · exact ⟨rfl, rfl, rfl, rfl, rfl, rfl⟩
  · split
    · exact ⟨rfl, rfl, rfl, rfl, rfl, rfl⟩
    · split <;> exact ⟨rfl, rfl, rfl, rfl, rfl, rfl⟩
theorem tMv_ev {j : Nat} (h : j ≠ i) : (tMv T i).2.2.2.2.2.2.2.1 j = T.2.2.2.2.2.2.2.1 j := by
  unfold tMv
  split
  · rfl
  · split
    · rfl
    · split
      · funext w; exact if_neg h
      · rfl
theorem mv_cases (V : AV T g) (hi : i < T.2.1) (hg : g i = false) :
    (mvP T i = 4 ∧ T.2.2.2.2.2.2.2.1 i 3 = 0 ∧ T.2.2.2.2.2.2.2.1 i 1 = 3 ∧ tMv T i = tHall T i ∧ mvG T i = true ∧ mvA T i = true) ∨
    (mvP T i = 0 ∧ T.2.2.2.2.2.2.2.1 i 3 = 1 ∧ T.2.2.2.2.2.2.2.1 i 1 = 1 ∧ tMv T i = tTrav T i ∧ mvG T i = true ∧ mvA T i = true) ∨
    (1 ≤ mvP T i ∧ mvP T i ≤ 3 ∧ T.2.2.1 (mvI T i) = false ∧ tMv T i = tLost T ∧ mvG T i = true ∧ mvA T i = false) ∨
    (1 ≤ mvP T i ∧ mvP T i ≤ 3 ∧ T.2.2.1 (mvI T i) = true ∧ tMv T i = tStep T i ∧ mvG T i = false ∧ mvA T i = false) := by
  have hv := v_ev V hi hg
  unfold envOk at hv
  obtain ⟨-, -, hd⟩ := hv
  have hP : mvP T i = if T.2.2.2.2.2.2.2.1 i 3 = 0 then T.2.2.2.2.2.2.2.1 i 1 + 1 else T.2.2.2.2.2.2.2.1 i 1 - 1 := rfl
  unfold tMv mvG mvA
  by_cases h4 : mvP T i = 4
  · refine Or.inl ⟨h4, ?_, ?_, if_pos h4, by simp [h4], by simp [h4]⟩
    · rcases hd with hd | hd
      · exact hd.1
      · rw [if_neg (by omega)] at hP; omega
    · rcases hd with hd | hd
      · rw [if_pos hd.1] at hP; omega
      · rw [if_neg (by omega)] at hP; omega
  · by_cases h0 : mvP T i = 0
    · refine Or.inr (Or.inl ⟨h0, ?_, ?_, by rw [if_neg h4, if_pos h0], by simp [h0], by simp [h0]⟩)
      · rcases hd with hd | hd
        · rw [if_pos hd.1] at hP; omega
        · exact hd.1
      · rcases hd with hd | hd
        · rw [if_pos hd.1] at hP; omega
        · rw [if_neg (by omega)] at hP; omega
    · have hb : 1 ≤ mvP T i ∧ mvP T i ≤ 3 := by
        rcases hd with hd | hd
        · rw [if_pos hd.1] at hP; omega
        · rw [if_neg (by omega)] at hP; omega
      cases ho : T.2.2.1 (mvI T i)
      · exact Or.inr (Or.inr (Or.inl ⟨hb.1, hb.2, rfl, by rw [if_neg h4, if_neg h0]; rfl, by simp, by simp [h4, h0]⟩))
      · exact Or.inr (Or.inr (Or.inr ⟨hb.1, hb.2, rfl, by rw [if_neg h4, if_neg h0]; rfl, by simp [h4, h0], by simp [h4, h0]⟩))
/-- an envelope that goes on: where it was -/
theorem mv_from (V : AV T g) (hi : i < T.2.1) (hg : g i = false) (h1 : 1 ≤ mvP T i) (h3 : mvP T i ≤ 3) : (T.2.2.2.2.2.2.2.1 i 3 = 0 ∧ T.2.2.2.2.2.2.2.1 i 1 + 1 = mvP T i) ∨ (T.2.2.2.2.2.2.2.1 i 3 = 1 ∧ T.2.2.2.2.2.2.2.1 i 1 = mvP T i + 1) := by
  have hv := v_ev V hi hg
  unfold envOk at hv
  obtain ⟨-, -, hd⟩ := hv
  have hP : mvP T i = if T.2.2.2.2.2.2.2.1 i 3 = 0 then T.2.2.2.2.2.2.2.1 i 1 + 1 else T.2.2.2.2.2.2.2.1 i 1 - 1 := rfl
  rcases hd with hd | hd
  · rw [if_pos hd.1] at hP; exact Or.inl ⟨hd.1, by omega⟩
  · rw [if_neg (by omega)] at hP; exact Or.inr ⟨hd.1, by omega⟩
theorem cnt_mv (φ : (Nat → Nat) → Bool) (hi : i < T.2.1) (hg : g i = false) : cnt φ (tMv T i).2.2.2.2.2.2.2.1 (gU g i (mvG T i)) T.2.1 + (if φ (T.2.2.2.2.2.2.2.1 i) = true then 1 else 0) = cnt φ T.2.2.2.2.2.2.2.1 g T.2.1 + (if mvG T i = false ∧ φ ((tMv T i).2.2.2.2.2.2.2.1 i) = true then 1 else 0) := by
  have h := cnt_one (φ := φ) (ev := T.2.2.2.2.2.2.2.1) (ev' := (tMv T i).2.2.2.2.2.2.2.1) (g := g) (g' := gU g i (mvG T i)) (i := i) (fun j hj => ⟨if_neg hj, tMv_ev hj⟩) hg T.2.1 hi
  have e : gU g i (mvG T i) i = mvG T i := if_pos rfl
  rw [e] at h
  exact h
/-- the counts: what was sent is on the way, has come, or is lost -/
def QB (T : AT) (g : Nat → Bool) (t : Nat) : Prop := ∃ c : Nat → Nat, (∀ k, k < 5 → T.2.2.2.2.2.2.2.2.2.2.2 k = nI (c k)) ∧ cnt fAll T.2.2.2.2.2.2.2.1 g T.2.1 + c 1 + c 3 + c 4 = c 0 + c 2 ∧ cnt fOut T.2.2.2.2.2.2.2.1 g T.2.1 + c 1 ≤ c 0 ∧ c 0 ≤ t ∧ c 2 ≤ t
theorem ct_up {ct : Nat → Int32} {c : Nat → Nat} {q : Nat} (hc : ∀ k, k < 5 → ct k = nI (c k)) : ∀ k, k < 5 → (if k = q then ct k + nI 1 else ct k) = nI (if k = q then c k + 1 else c k) := by
  intro k hk
  by_cases e : k = q
  · rw [if_pos e, if_pos e, hc k hk, nI_add]
  · rw [if_neg e, if_neg e, hc k hk]
theorem QB_mv (V : AV T g) (hi : i < T.2.1) (hg : g i = false) (Q : QB T g t) : QB (tMv T i) (gU g i (mvG T i)) t := by
  obtain ⟨c, hc, hb, ho, h0, h2⟩ := Q
  have a1 := cnt_mv fAll hi hg
  have a2 := cnt_mv fOut hi hg
  have f1 : ∀ v, fAll v = true := fun _ => rfl
  have f2 : ∀ v : Nat → Nat, (fOut v = true) = (v 3 = 0) := fun v => by unfold fOut; simp
  simp only [f1, f2, and_true, if_true] at a1 a2
  rcases mv_cases V hi hg with ⟨h, d3, d1, e, eG, eA⟩ | ⟨h, d3, d1, e, eG, eA⟩ | ⟨p1, p3, hop, e, eG, eA⟩ | ⟨p1, p3, hop, e, eG, eA⟩
  · rw [eG, if_neg (by decide)] at a1
    rw [eG, if_pos d3, if_neg (by simp)] at a2
    rw [eG]
    rw [e] at a1 a2 ⊢
    refine ⟨fun k => if k = 1 then c k + 1 else c k, ct_up hc, ?_, ?_, h0, h2⟩
    · show cnt fAll (tHall T i).2.2.2.2.2.2.2.1 (gU g i true) T.2.1 + (c 1 + 1) + c 3 + c 4 = c 0 + c 2
      omega
    · show cnt fOut (tHall T i).2.2.2.2.2.2.2.1 (gU g i true) T.2.1 + (c 1 + 1) ≤ c 0
      omega
  · rw [eG, if_neg (by decide)] at a1
    rw [eG, if_neg (by omega), if_neg (by simp)] at a2
    rw [eG]
    rw [e] at a1 a2 ⊢
    refine ⟨fun k => if k = 3 then c k + 1 else c k, ct_up hc, ?_, ?_, h0, h2⟩
    · show cnt fAll (tTrav T i).2.2.2.2.2.2.2.1 (gU g i true) T.2.1 + c 1 + (c 3 + 1) + c 4 = c 0 + c 2
      omega
    · show cnt fOut (tTrav T i).2.2.2.2.2.2.2.1 (gU g i true) T.2.1 + c 1 ≤ c 0
      omega
  · rw [eG, if_neg (by decide)] at a1
    rw [eG, if_neg (show ¬ (true = false ∧ _) by simp)] at a2
    rw [eG]
    rw [e] at a1 a2 ⊢
    refine ⟨fun k => if k = 4 then c k + 1 else c k, ct_up hc, ?_, ?_, h0, h2⟩
    · show cnt fAll (tLost T).2.2.2.2.2.2.2.1 (gU g i true) T.2.1 + c 1 + c 3 + (c 4 + 1) = c 0 + c 2
      omega
    · show cnt fOut (tLost T).2.2.2.2.2.2.2.1 (gU g i true) T.2.1 + c 1 ≤ c 0
      omega
  · rw [eG, if_pos rfl] at a1
    have e3 : (tMv T i).2.2.2.2.2.2.2.1 i 3 = T.2.2.2.2.2.2.2.1 i 3 := by rw [e]; exact if_pos rfl
    rw [eG, e3] at a2
    simp only [true_and] at a2
    rw [eG]
    rw [e] at a1 a2 ⊢
    refine ⟨c, hc, ?_, ?_, h0, h2⟩
    · show cnt fAll (tStep T i).2.2.2.2.2.2.2.1 (gU g i false) T.2.1 + c 1 + c 3 + c 4 = c 0 + c 2
      omega
    · show cnt fOut (tStep T i).2.2.2.2.2.2.2.1 (gU g i false) T.2.1 + c 1 ≤ c 0
      omega
theorem due_mv (V : AV T g) (hi : i < T.2.1) (hg : g i = false) : cnt (fOk T.2.2.1 T.2.2.2.2.1) (tMv T i).2.2.2.2.2.2.2.1 (gU g i (mvG T i)) T.2.1 + (if mvA T i = true then 1 else 0) = cnt (fOk T.2.2.1 T.2.2.2.2.1) T.2.2.2.2.2.2.2.1 g T.2.1 := by
  have a := cnt_mv (fOk T.2.2.1 T.2.2.2.2.1) hi hg
  have hI : mvI T i = T.2.2.2.2.1 (T.2.2.2.2.2.2.2.1 i 0) (mvP T i) := rfl
  rcases mv_cases V hi hg with ⟨h, d3, d1, e, eG, eA⟩ | ⟨h, d3, d1, e, eG, eA⟩ | ⟨p1, p3, hop, e, eG, eA⟩ | ⟨p1, p3, hop, e, eG, eA⟩
  · have ok : fOk T.2.2.1 T.2.2.2.2.1 (T.2.2.2.2.2.2.2.1 i) = true := by simp [fOk, blE, d3, d1]
    rw [if_pos ok, eG, if_neg (by simp)] at a
    rw [eA, eG, if_pos rfl]
    omega
  · have ok : fOk T.2.2.1 T.2.2.2.2.1 (T.2.2.2.2.2.2.2.1 i) = true := by simp [fOk, blE, d3, d1]
    rw [if_pos ok, eG, if_neg (by simp)] at a
    rw [eA, eG, if_pos rfl]
    omega
  · rw [hI] at hop
    have ok : fOk T.2.2.1 T.2.2.2.2.1 (T.2.2.2.2.2.2.2.1 i) = false := by
      rcases mv_from V hi hg p1 p3 with ⟨d3, d1⟩ | ⟨d3, d1⟩
      · rcases (show mvP T i = 1 ∨ mvP T i = 2 ∨ mvP T i = 3 by omega) with q | q | q
        · rw [q] at hop d1; simp [fOk, blE, d3, show T.2.2.2.2.2.2.2.1 i 1 = 0 by omega, hop]
        · rw [q] at hop d1; simp [fOk, blE, d3, show T.2.2.2.2.2.2.2.1 i 1 = 1 by omega, hop]
        · rw [q] at hop d1; simp [fOk, blE, d3, show T.2.2.2.2.2.2.2.1 i 1 = 2 by omega, hop]
      · rcases (show mvP T i = 1 ∨ mvP T i = 2 ∨ mvP T i = 3 by omega) with q | q | q
        · rw [q] at hop d1; simp [fOk, blE, d3, show T.2.2.2.2.2.2.2.1 i 1 = 2 by omega, hop]
        · rw [q] at hop d1; simp [fOk, blE, d3, show T.2.2.2.2.2.2.2.1 i 1 = 3 by omega, hop]
        · rw [q] at hop d1; simp [fOk, blE, d3, show T.2.2.2.2.2.2.2.1 i 1 = 4 by omega, hop]
    rw [if_neg (by rw [ok]; decide), eG, if_neg (by simp)] at a
    rw [eA, eG, if_neg (by decide)]
    omega
  · rw [hI] at hop
    have e0 : (tMv T i).2.2.2.2.2.2.2.1 i = fun w => sel4 (T.2.2.2.2.2.2.2.1 i 0) (mvP T i) (mvB T i) (T.2.2.2.2.2.2.2.1 i 3) w := by rw [e]; funext w; exact if_pos rfl
    have ok : fOk T.2.2.1 T.2.2.2.2.1 ((tMv T i).2.2.2.2.2.2.2.1 i) = fOk T.2.2.1 T.2.2.2.2.1 (T.2.2.2.2.2.2.2.1 i) := by
      rw [e0]
      rcases mv_from V hi hg p1 p3 with ⟨d3, d1⟩ | ⟨d3, d1⟩
      · rcases (show mvP T i = 1 ∨ mvP T i = 2 ∨ mvP T i = 3 by omega) with q | q | q
        · rw [q] at hop d1 ⊢; simp [fOk, blE, sel4, d3, show T.2.2.2.2.2.2.2.1 i 1 = 0 by omega, hop]
        · rw [q] at hop d1 ⊢; simp [fOk, blE, sel4, d3, show T.2.2.2.2.2.2.2.1 i 1 = 1 by omega, hop]
        · rw [q] at hop d1 ⊢; simp [fOk, blE, sel4, d3, show T.2.2.2.2.2.2.2.1 i 1 = 2 by omega, hop]
      · rcases (show mvP T i = 1 ∨ mvP T i = 2 ∨ mvP T i = 3 by omega) with q | q | q
        · rw [q] at hop d1 ⊢; simp [fOk, blE, sel4, d3, show T.2.2.2.2.2.2.2.1 i 1 = 2 by omega, hop]
        · rw [q] at hop d1 ⊢; simp [fOk, blE, sel4, d3, show T.2.2.2.2.2.2.2.1 i 1 = 3 by omega, hop]
        · rw [q] at hop d1 ⊢; simp [fOk, blE, sel4, d3, show T.2.2.2.2.2.2.2.1 i 1 = 4 by omega, hop]
    rw [ok, eG] at a
    simp only [true_and] at a
    rw [eA, eG, if_neg (by decide)]
    omega
theorem mvS_same : ∀ i, (mvS T i).1 = T.1 ∧ (mvS T i).2.2.1 = T.2.2.1 ∧ (mvS T i).2.2.2.1 = T.2.2.2.1 ∧ (mvS T i).2.2.2.2.1 = T.2.2.2.2.1 ∧ (mvS T i).2.2.2.2.2.1 = T.2.2.2.2.2.1 ∧ (mvS T i).2.2.2.2.2.2.1 = T.2.2.2.2.2.2.1
  | 0 => ⟨rfl, rfl, rfl, rfl, rfl, rfl⟩
  | i + 1 => by
    obtain ⟨a1, a2, a3, a4, a5, a6⟩ := mvS_same i
    obtain ⟨b1, b2, b3, b4, b5, b6⟩ := tMv_same (T := mvS T i) (i := i)
    exact ⟨b1.trans a1, b2.trans a2, b3.trans a3, b4.trans a4, b5.trans a5, b6.trans a6⟩
theorem mvS_ev : ∀ i j, i ≤ j → (mvS T i).2.2.2.2.2.2.2.1 j = T.2.2.2.2.2.2.2.1 j
  | 0, _, _ => rfl
  | i + 1, j, h => (tMv_ev (T := mvS T i) (by omega)).trans (mvS_ev i j (by omega))
theorem mv_all (V : AV T g0) (Q : QB T g0 t) : ∀ i, i ≤ T.2.1 → QB (mvS T i) (mvD T i) t ∧ cnt (fOk T.2.2.1 T.2.2.2.2.1) (mvS T i).2.2.2.2.2.2.2.1 (mvD T i) T.2.1 + aN T i = cnt (fOk T.2.2.1 T.2.2.2.2.1) T.2.2.2.2.2.2.2.1 g0 T.2.1
  | 0, _ => ⟨Q, rfl⟩
  | i + 1, h => by
    obtain ⟨q, r⟩ := mv_all V Q i (by omega)
    have V1 := AV_mvS V i (by omega)
    have hi : i < (mvS T i).2.1 := by rw [mvS_e]; omega
    have hg := mvD_f T i i (Nat.le_refl _)
    refine ⟨QB_mv V1 hi hg q, ?_⟩
    have d := due_mv V1 hi hg
    obtain ⟨-, s2, -, s4, -, -⟩ := mvS_same (T := T) i
    rw [s2, s4, mvS_e] at d
    show cnt (fOk T.2.2.1 T.2.2.2.2.1) (tMv (mvS T i) i).2.2.2.2.2.2.2.1 (gU (mvD T i) i (mvG (mvS T i) i)) T.2.1 + (aN T i + (if mvA (mvS T i) i = true then 1 else 0)) = _
    omega
theorem QB_out (Q : QB T g t) : QB (tOut T g) g0 t := by
  obtain ⟨c, hc, hb, ho, h0, h2⟩ := Q
  refine ⟨c, hc, ?_, ?_, h0, h2⟩
  · show cnt fAll (rmE T.2.2.2.2.2.2.2.1 g T.2.1) g0 (rmK g T.2.1) + _ + _ + _ = _
    rw [rm_cnt]; exact hb
  · show cnt fOut (rmE T.2.2.2.2.2.2.2.1 g T.2.1) g0 (rmK g T.2.1) + _ ≤ _
    rw [rm_cnt]; exact ho
theorem QB_tick (V : AV T g0) (Q : QB T g0 t) : QB (tTick T) g0 t := QB_out (mv_all V Q T.2.1 (Nat.le_refl _)).1
theorem tick_same : (tTick T).1 = T.1 ∧ (tTick T).2.2.1 = T.2.2.1 ∧ (tTick T).2.2.2.1 = T.2.2.2.1 ∧ (tTick T).2.2.2.2.1 = T.2.2.2.2.1 ∧ (tTick T).2.2.2.2.2.1 = T.2.2.2.2.2.1 ∧ (tTick T).2.2.2.2.2.2.1 = T.2.2.2.2.2.2.1 := mvS_same T.2.1
theorem due_tick (V : AV T g0) (Q : QB T g0 t) : cnt (fOk T.2.2.1 T.2.2.2.2.1) (tTick T).2.2.2.2.2.2.2.1 g0 (tTick T).2.1 + aN T T.2.1 = cnt (fOk T.2.2.1 T.2.2.2.2.1) T.2.2.2.2.2.2.2.1 g0 T.2.1 := by
  have h := (mv_all V Q T.2.1 (Nat.le_refl _)).2
  rw [← h]
  show cnt _ (rmE (mvS T T.2.1).2.2.2.2.2.2.2.1 (mvD T T.2.1) (mvS T T.2.1).2.1) g0 (rmK (mvD T T.2.1) (mvS T T.2.1).2.1) + _ = _
  rw [rm_cnt, mvS_e]
theorem pass_same : ∀ k, (tPass T k).1 = T.1 ∧ (tPass T k).2.2.1 = T.2.2.1 ∧ (tPass T k).2.2.2.1 = T.2.2.2.1 ∧ (tPass T k).2.2.2.2.1 = T.2.2.2.2.1 ∧ (tPass T k).2.2.2.2.2.1 = T.2.2.2.2.2.1 ∧ (tPass T k).2.2.2.2.2.2.1 = T.2.2.2.2.2.2.1
  | 0 => ⟨rfl, rfl, rfl, rfl, rfl, rfl⟩
  | k + 1 => by
    obtain ⟨a1, a2, a3, a4, a5, a6⟩ := pass_same k
    obtain ⟨b1, b2, b3, b4, b5, b6⟩ := tick_same (T := tPass T k)
    exact ⟨b1.trans a1, b2.trans a2, b3.trans a3, b4.trans a4, b5.trans a5, b6.trans a6⟩
theorem QB_pass (V : AV T g0) (Q : QB T g0 t) : ∀ k, QB (tPass T k) g0 t
  | 0 => Q
  | k + 1 => QB_tick (AV_pass V k) (QB_pass V Q k)
theorem due_pass (V : AV T g0) (Q : QB T g0 t) : ∀ k, cnt (fOk T.2.2.1 T.2.2.2.2.1) (tPass T k).2.2.2.2.2.2.2.1 g0 (tPass T k).2.1 + paN T k = cnt (fOk T.2.2.1 T.2.2.2.2.1) T.2.2.2.2.2.2.2.1 g0 T.2.1
  | 0 => rfl
  | k + 1 => by
    have h := due_pass V Q k
    have d := due_tick (AV_pass V k) (QB_pass V Q k)
    obtain ⟨-, s2, -, s4, -, -⟩ := pass_same (T := T) k
    rw [s2, s4] at d
    show cnt (fOk T.2.2.1 T.2.2.2.2.1) (tTick (tPass T k)).2.2.2.2.2.2.2.1 g0 (tTick (tPass T k)).2.1 + (paN T k + aN (tPass T k) (tPass T k).2.1) = _
    omega
end
