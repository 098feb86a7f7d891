/-! ticks -/
theorem lpnM {A Z : Type} {body : (A → Int32 → Z → Prop) → A → Int32 → Z → Prop} (N : Nat) (P : Nat → A → Z → Prop) (step : ∀ (K : A → Int32 → Z → Prop) (j : Nat) (x : A) (z : Z), j < N → P j x z → (∀ y w, P (j + 1) y w → K y (nI (j + 1)) w) → body K x (nI j) z) (last : ∀ (K : A → Int32 → Z → Prop) (x : A) (z : Z), P N x z → body K x (nI N) z) {j : Nat} {x : A} {z : Z} (hj : j ≤ N) (h : P j x z) : LP3 body x (nI j) z := by
  have key : ∀ (d j : Nat) (x : A) (z : Z), j + d = N → P j x z → lpc (fun _ _ _ => False) body (d + 1) x (nI j) z := by
    intro d
    induction d with
    | zero => intro j x z hd hp; obtain rfl : j = N := by omega
              exact last _ x z hp
    | succ d ih => intro j x z hd hp; exact step _ j x z (by omega) hp (fun y w q => ih (j + 1) y w (by omega) q)
  exact ⟨_, key (N - j) j x z (by omega) h⟩
def rmK (g : Nat → Bool) : Nat → Nat
  | 0 => 0
  | j + 1 => rmK g j + (if g j = true then 0 else 1)
theorem rmK_le (g : Nat → Bool) : ∀ j, rmK g j ≤ j
  | 0 => Nat.le_refl _
  | j + 1 => by
    have := rmK_le g j
    show rmK g j + _ ≤ _
    split <;> omega
def rmE (ev : Nat → Nat → Nat) (g : Nat → Bool) : Nat → Nat → Nat → Nat
  | 0 => ev
  | j + 1 => if g j = true then rmE ev g j else fun a w => if a = rmK g j then ev j w else rmE ev g j a w
theorem rm_src (ev : Nat → Nat → Nat) (g : Nat → Bool) : ∀ j a, a < rmK g j → ∃ b, b < j ∧ g b = false ∧ ∀ w, rmE ev g j a w = ev b w
  | 0, a, h => absurd h (Nat.not_lt_zero _)
  | j + 1, a, h => by
    cases hg : g j
    · have e1 : rmK g (j + 1) = rmK g j + 1 := by show rmK g j + (if g j = true then 0 else 1) = _; rw [hg]; rfl
      have e2 : rmE ev g (j + 1) = fun a w => if a = rmK g j then ev j w else rmE ev g j a w := by show (if g j = true then rmE ev g j else _) = _; rw [hg]; rfl
      by_cases e : a = rmK g j
      · exact ⟨j, by omega, hg, fun w => by rw [e2]; exact if_pos e⟩
      · obtain ⟨b, h1, h2, h3⟩ := rm_src ev g j a (by omega)
        exact ⟨b, by omega, h2, fun w => by rw [e2]; exact (if_neg e).trans (h3 w)⟩
    · have e1 : rmK g (j + 1) = rmK g j := by show rmK g j + (if g j = true then 0 else 1) = _; rw [hg]; rfl
      have e2 : rmE ev g (j + 1) = rmE ev g j := by show (if g j = true then rmE ev g j else _) = _; rw [hg]; rfl
      obtain ⟨b, h1, h2, h3⟩ := rm_src ev g j a (by omega)
      exact ⟨b, by omega, h2, fun w => by rw [e2]; exact h3 w⟩
def tOut (T : AT) (g : Nat → Bool) : AT := (T.1, rmK g T.2.1, T.2.2.1, T.2.2.2.1, T.2.2.2.2.1, T.2.2.2.2.2.1, T.2.2.2.2.2.2.1, rmE T.2.2.2.2.2.2.2.1 g T.2.1, T.2.2.2.2.2.2.2.2.1, T.2.2.2.2.2.2.2.2.2.1, T.2.2.2.2.2.2.2.2.2.2.1, T.2.2.2.2.2.2.2.2.2.2.2)
def mvS (T : AT) : Nat → AT
  | 0 => T
  | i + 1 => tMv (mvS T i) i
def mvD (T : AT) : Nat → Nat → Bool
  | 0 => g0
  | i + 1 => gU (mvD T i) i (mvG (mvS T i) i)
def aN (T : AT) : Nat → Nat
  | 0 => 0
  | i + 1 => aN T i + (if mvA (mvS T i) i = true then 1 else 0)
def tTick (T : AT) : AT := tOut (mvS T T.2.1) (mvD T T.2.1)
def tPass (T : AT) : Nat → AT
  | 0 => T
  | k + 1 => tTick (tPass T k)
def paN (T : AT) : Nat → Nat
  | 0 => 0
  | k + 1 => paN T k + aN (tPass T k) (tPass T k).2.1
theorem tMv_e (T : AT) (i : Nat) : (tMv T i).2.1 = T.2.1 := by
  unfold tMv
  split
  · rfl
  · split
    · rfl
    · split <;> rfl
theorem mvS_e (T : AT) : ∀ i, (mvS T i).2.1 = T.2.1
  | 0 => rfl
  | i + 1 => (tMv_e _ _).trans (mvS_e T i)
theorem mvD_f (T : AT) : ∀ i k, i ≤ k → mvD T i k = false
  | 0, _, _ => rfl
  | i + 1, k, h => by
    show gU (mvD T i) i _ k = false
    unfold gU
    rw [if_neg (by omega)]
    exact mvD_f T i k (by omega)
theorem aN_le (T : AT) : ∀ i, aN T i ≤ i
  | 0 => Nat.le_refl _
  | i + 1 => by
    have := aN_le T i
    show aN T i + _ ≤ _
    split <;> omega
theorem AV_out {T : AT} {g : Nat → Bool} (V : AV T g) : AV (tOut T g) g0 := by
  have he := v_e V
  refine ⟨V.1, ?_, V.2.2.1, V.2.2.2.1, V.2.2.2.2.1, V.2.2.2.2.2.1, ?_, V.2.2.2.2.2.2.2⟩
  · have := rmK_le g T.2.1
    show rmK g T.2.1 ≤ 12
    omega
  · intro j hj _
    obtain ⟨b, h1, h2, h3⟩ := rm_src T.2.2.2.2.2.2.2.1 g T.2.1 j hj
    have hv := v_ev V h1 h2
    show envOk T.1 (rmE T.2.2.2.2.2.2.2.1 g T.2.1) j
    unfold envOk at hv ⊢
    rw [h3, h3, h3, h3]
    exact hv
theorem AV_mvS {T : AT} (V : AV T g0) : ∀ i, i ≤ T.2.1 → AV (mvS T i) (mvD T i)
  | 0, _ => V
  | i + 1, h => AV_mv (AV_mvS V i (by omega)) (by rw [mvS_e]; omega) (mvD_f T i i (Nat.le_refl _))
theorem AV_tick {T : AT} (V : AV T g0) : AV (tTick T) g0 := AV_out (AV_mvS V T.2.1 (Nat.le_refl _))
theorem AV_pass {T : AT} (V : AV T g0) : ∀ k, AV (tPass T k) g0
  | 0 => V
  | k + 1 => AV_tick (AV_pass V k)
theorem paN_le {T : AT} (V : AV T g0) : ∀ k, paN T k ≤ 12 * k
  | 0 => Nat.le_refl _
  | k + 1 => by
    have h1 := paN_le V k
    have h2 := aN_le (tPass T k) (tPass T k).2.1
    have h3 := v_e (AV_pass V k)
    show paN T k + _ ≤ _
    omega
theorem tMv_ct (T : AT) (i : Nat) : (tMv T i).2.2.2.2.2.2.2.2.2.2.2 1 + (tMv T i).2.2.2.2.2.2.2.2.2.2.2 3 = T.2.2.2.2.2.2.2.2.2.2.2 1 + T.2.2.2.2.2.2.2.2.2.2.2 3 + nI (if mvA T i = true then 1 else 0) := by
  have a1 : ∀ x y z : Int32, x + z + y = x + y + z := fun x y z => by rw [Int32.add_assoc, Int32.add_comm z y, ← Int32.add_assoc]
  unfold tMv mvA
  by_cases h4 : mvP T i = 4
  · rw [if_pos h4, decide_eq_true h4]
    show T.2.2.2.2.2.2.2.2.2.2.2 1 + nI 1 + T.2.2.2.2.2.2.2.2.2.2.2 3 = T.2.2.2.2.2.2.2.2.2.2.2 1 + T.2.2.2.2.2.2.2.2.2.2.2 3 + nI 1
    exact a1 _ _ _
  · rw [if_neg h4, decide_eq_false h4]
    by_cases h0 : mvP T i = 0
    · rw [if_pos h0, decide_eq_true h0]
      show T.2.2.2.2.2.2.2.2.2.2.2 1 + (T.2.2.2.2.2.2.2.2.2.2.2 3 + nI 1) = T.2.2.2.2.2.2.2.2.2.2.2 1 + T.2.2.2.2.2.2.2.2.2.2.2 3 + nI 1
      rw [Int32.add_assoc]
    · rw [if_neg h0, decide_eq_false h0]
      have z : ∀ x : Int32, x = x + nI 0 := fun x => by rw [nI_0, Int32.add_zero]
      split <;> exact z _
theorem mvS_ct (T : AT) : ∀ i, (mvS T i).2.2.2.2.2.2.2.2.2.2.2 1 + (mvS T i).2.2.2.2.2.2.2.2.2.2.2 3 = T.2.2.2.2.2.2.2.2.2.2.2 1 + T.2.2.2.2.2.2.2.2.2.2.2 3 + nI (aN T i)
  | 0 => by show _ = _ + nI 0; rw [nI_0, Int32.add_zero]; rfl
  | i + 1 => by
    show (tMv (mvS T i) i).2.2.2.2.2.2.2.2.2.2.2 1 + (tMv (mvS T i) i).2.2.2.2.2.2.2.2.2.2.2 3 = _ + nI (aN T i + _)
    rw [tMv_ct, mvS_ct T i, Int32.add_assoc, nI_add]
theorem tPass_ct (T : AT) : ∀ k, (tPass T k).2.2.2.2.2.2.2.2.2.2.2 1 + (tPass T k).2.2.2.2.2.2.2.2.2.2.2 3 = T.2.2.2.2.2.2.2.2.2.2.2 1 + T.2.2.2.2.2.2.2.2.2.2.2 3 + nI (paN T k)
  | 0 => by show _ = _ + nI 0; rw [nI_0, Int32.add_zero]; rfl
  | k + 1 => by
    show (mvS (tPass T k) (tPass T k).2.1).2.2.2.2.2.2.2.2.2.2.2 1 + (mvS (tPass T k) (tPass T k).2.1).2.2.2.2.2.2.2.2.2.2.2 3 = _ + nI (paN T k + _)
    rw [mvS_ct, tPass_ct T k, Int32.add_assoc, nI_add]
section
variable {u : St} {T : AT} {g : Nat → Bool}
theorem rm_step {f : Nat → Int32} {j : Nat} (hg : g j = false) (hf1 : ∀ a, a < rmK g j → ∀ w, w < 4 → f (4 * a + w) = nI (rmE T.2.2.2.2.2.2.2.1 g j a w)) {f' : Nat → Int32} (hin : ∀ w, w < 4 → f' (4 * rmK g j + w) = nI (T.2.2.2.2.2.2.2.1 j w)) (hout : ∀ a, a ≠ rmK g j → ∀ w, w < 4 → f' (4 * a + w) = f (4 * a + w)) : ∀ a, a < rmK g (j + 1) → ∀ w, w < 4 → f' (4 * a + w) = nI (rmE T.2.2.2.2.2.2.2.1 g (j + 1) a w) := by
  have e1 : rmK g (j + 1) = rmK g j + 1 := by show rmK g j + (if g j = true then 0 else 1) = _; rw [hg]; rfl
  have e2 : rmE T.2.2.2.2.2.2.2.1 g (j + 1) = fun a w => if a = rmK g j then T.2.2.2.2.2.2.2.1 j w else rmE T.2.2.2.2.2.2.2.1 g j a w := by show (if g j = true then rmE T.2.2.2.2.2.2.2.1 g j else _) = _; rw [hg]; rfl
  intro a ha w hw
  rw [e2]
  show _ = nI (if a = rmK g j then T.2.2.2.2.2.2.2.1 j w else rmE T.2.2.2.2.2.2.2.1 g j a w)
  by_cases e : a = rmK g j
  · rw [if_pos e, e]; exact hin w hw
  · rw [if_neg e, hout a e w hw]; exact hf1 a (by omega) w hw
end

