/-! worlds: what a State, an OrderText, a Model hold, and where -/
abbrev St : Type := Int32 × (Nat → Int32) × Int32 × (Nat → Int32) × (Nat → Int32) × (Nat → Int32) × Int32 × (Nat → Int32) × (Nat → Int32) × (Nat → Int32) × Int32 × (Nat → Int32)
abbrev S_openMask (u : St) : Int32 := u.1
abbrev S_keys (u : St) : (Nat → Int32) := u.2.1
abbrev S_roadCount (u : St) : Int32 := u.2.2.1
abbrev S_roadInns (u : St) : (Nat → Int32) := u.2.2.2.1
abbrev S_roadKeys (u : St) : (Nat → Int32) := u.2.2.2.2.1
abbrev S_roadHalls (u : St) : (Nat → Int32) := u.2.2.2.2.2.1
abbrev S_envelopeCount (u : St) : Int32 := u.2.2.2.2.2.2.1
abbrev S_envelopeNumbers (u : St) : (Nat → Int32) := u.2.2.2.2.2.2.2.1
abbrev S_letters (u : St) : (Nat → Int32) := u.2.2.2.2.2.2.2.2.1
abbrev S_answerRoads (u : St) : (Nat → Int32) := u.2.2.2.2.2.2.2.2.2.1
abbrev S_answerGot (u : St) : Int32 := u.2.2.2.2.2.2.2.2.2.2.1
abbrev S_counts (u : St) : (Nat → Int32) := u.2.2.2.2.2.2.2.2.2.2.2
abbrev sS_openMask (u : St) (x : Int32) : St := (x, S_keys u, S_roadCount u, S_roadInns u, S_roadKeys u, S_roadHalls u, S_envelopeCount u, S_envelopeNumbers u, S_letters u, S_answerRoads u, S_answerGot u, S_counts u)
abbrev aS_keys (u : St) (f : Nat → Int32) : St := (S_openMask u, f, S_roadCount u, S_roadInns u, S_roadKeys u, S_roadHalls u, S_envelopeCount u, S_envelopeNumbers u, S_letters u, S_answerRoads u, S_answerGot u, S_counts u)
abbrev wS_keys (u : St) (k : Nat) (x : Int32) : St := (S_openMask u, upd (S_keys u) k x, S_roadCount u, S_roadInns u, S_roadKeys u, S_roadHalls u, S_envelopeCount u, S_envelopeNumbers u, S_letters u, S_answerRoads u, S_answerGot u, S_counts u)
abbrev sS_roadCount (u : St) (x : Int32) : St := (S_openMask u, S_keys u, x, S_roadInns u, S_roadKeys u, S_roadHalls u, S_envelopeCount u, S_envelopeNumbers u, S_letters u, S_answerRoads u, S_answerGot u, S_counts u)
abbrev aS_roadInns (u : St) (f : Nat → Int32) : St := (S_openMask u, S_keys u, S_roadCount u, f, S_roadKeys u, S_roadHalls u, S_envelopeCount u, S_envelopeNumbers u, S_letters u, S_answerRoads u, S_answerGot u, S_counts u)
abbrev wS_roadInns (u : St) (k : Nat) (x : Int32) : St := (S_openMask u, S_keys u, S_roadCount u, upd (S_roadInns u) k x, S_roadKeys u, S_roadHalls u, S_envelopeCount u, S_envelopeNumbers u, S_letters u, S_answerRoads u, S_answerGot u, S_counts u)
abbrev aS_roadKeys (u : St) (f : Nat → Int32) : St := (S_openMask u, S_keys u, S_roadCount u, S_roadInns u, f, S_roadHalls u, S_envelopeCount u, S_envelopeNumbers u, S_letters u, S_answerRoads u, S_answerGot u, S_counts u)
abbrev wS_roadKeys (u : St) (k : Nat) (x : Int32) : St := (S_openMask u, S_keys u, S_roadCount u, S_roadInns u, upd (S_roadKeys u) k x, S_roadHalls u, S_envelopeCount u, S_envelopeNumbers u, S_letters u, S_answerRoads u, S_answerGot u, S_counts u)
abbrev aS_roadHalls (u : St) (f : Nat → Int32) : St := (S_openMask u, S_keys u, S_roadCount u, S_roadInns u, S_roadKeys u, f, S_envelopeCount u, S_envelopeNumbers u, S_letters u, S_answerRoads u, S_answerGot u, S_counts u)
abbrev wS_roadHalls (u : St) (k : Nat) (x : Int32) : St := (S_openMask u, S_keys u, S_roadCount u, S_roadInns u, S_roadKeys u, upd (S_roadHalls u) k x, S_envelopeCount u, S_envelopeNumbers u, S_letters u, S_answerRoads u, S_answerGot u, S_counts u)
abbrev sS_envelopeCount (u : St) (x : Int32) : St := (S_openMask u, S_keys u, S_roadCount u, S_roadInns u, S_roadKeys u, S_roadHalls u, x, S_envelopeNumbers u, S_letters u, S_answerRoads u, S_answerGot u, S_counts u)
abbrev aS_envelopeNumbers (u : St) (f : Nat → Int32) : St := (S_openMask u, S_keys u, S_roadCount u, S_roadInns u, S_roadKeys u, S_roadHalls u, S_envelopeCount u, f, S_letters u, S_answerRoads u, S_answerGot u, S_counts u)
abbrev wS_envelopeNumbers (u : St) (k : Nat) (x : Int32) : St := (S_openMask u, S_keys u, S_roadCount u, S_roadInns u, S_roadKeys u, S_roadHalls u, S_envelopeCount u, upd (S_envelopeNumbers u) k x, S_letters u, S_answerRoads u, S_answerGot u, S_counts u)
abbrev aS_letters (u : St) (f : Nat → Int32) : St := (S_openMask u, S_keys u, S_roadCount u, S_roadInns u, S_roadKeys u, S_roadHalls u, S_envelopeCount u, S_envelopeNumbers u, f, S_answerRoads u, S_answerGot u, S_counts u)
abbrev wS_letters (u : St) (k : Nat) (x : Int32) : St := (S_openMask u, S_keys u, S_roadCount u, S_roadInns u, S_roadKeys u, S_roadHalls u, S_envelopeCount u, S_envelopeNumbers u, upd (S_letters u) k x, S_answerRoads u, S_answerGot u, S_counts u)
abbrev aS_answerRoads (u : St) (f : Nat → Int32) : St := (S_openMask u, S_keys u, S_roadCount u, S_roadInns u, S_roadKeys u, S_roadHalls u, S_envelopeCount u, S_envelopeNumbers u, S_letters u, f, S_answerGot u, S_counts u)
abbrev wS_answerRoads (u : St) (k : Nat) (x : Int32) : St := (S_openMask u, S_keys u, S_roadCount u, S_roadInns u, S_roadKeys u, S_roadHalls u, S_envelopeCount u, S_envelopeNumbers u, S_letters u, upd (S_answerRoads u) k x, S_answerGot u, S_counts u)
abbrev sS_answerGot (u : St) (x : Int32) : St := (S_openMask u, S_keys u, S_roadCount u, S_roadInns u, S_roadKeys u, S_roadHalls u, S_envelopeCount u, S_envelopeNumbers u, S_letters u, S_answerRoads u, x, S_counts u)
abbrev aS_counts (u : St) (f : Nat → Int32) : St := (S_openMask u, S_keys u, S_roadCount u, S_roadInns u, S_roadKeys u, S_roadHalls u, S_envelopeCount u, S_envelopeNumbers u, S_letters u, S_answerRoads u, S_answerGot u, f)
abbrev wS_counts (u : St) (k : Nat) (x : Int32) : St := (S_openMask u, S_keys u, S_roadCount u, S_roadInns u, S_roadKeys u, S_roadHalls u, S_envelopeCount u, S_envelopeNumbers u, S_letters u, S_answerRoads u, S_answerGot u, upd (S_counts u) k x)
def stW (cI : ClassId) (a : Nat → Nat) (u : St) : va_W := [(a 0, .inr (2, [.int (S_openMask u), .ref (a 1), .int (S_roadCount u), .ref (a 2), .ref (a 3), .ref (a 4), .int (S_envelopeCount u), .ref (a 5), .ref (a 6), .ref (a 7), .int (S_answerGot u), .ref (a 8)])), (a 1, .inl (cI, 8, .inl (S_keys u))), (a 2, .inl (cI, 18, .inl (S_roadInns u))), (a 3, .inl (cI, 18, .inl (S_roadKeys u))), (a 4, .inl (cI, 6, .inl (S_roadHalls u))), (a 5, .inl (cI, 48, .inl (S_envelopeNumbers u))), (a 6, .inl (cI, 4, .inl (S_letters u))), (a 7, .inl (cI, 4, .inl (S_answerRoads u))), (a 8, .inl (cI, 5, .inl (S_counts u)))]
abbrev Ot : Type := (Nat → Int32) × Int32
abbrev O_codes (u : Ot) : (Nat → Int32) := u.1
abbrev O_length (u : Ot) : Int32 := u.2
abbrev aO_codes (u : Ot) (f : Nat → Int32) : Ot := (f, O_length u)
abbrev wO_codes (u : Ot) (k : Nat) (x : Int32) : Ot := (upd (O_codes u) k x, O_length u)
abbrev sO_length (u : Ot) (x : Int32) : Ot := (O_codes u, x)
def otW (cI : ClassId) (a : Nat → Nat) (u : Ot) : va_W := [(a 0, .inr (0, [.ref (a 1), .int (O_length u)])), (a 1, .inl (cI, 60, .inl (O_codes u)))]
theorem inT0 : ∀ w ∈ u_ws RX0 TX0 2, w ∈ wsT := fun w h => List.mem_filter.mpr ⟨(by decide +kernel : ∀ w ∈ u_ws RX0 TX0 2, w ∈ lw_tbl) w h, (by decide +kernel : ∀ w ∈ u_ws RX0 TX0 2, goodWord w = true) w h⟩
theorem inT1 : ∀ w ∈ u_ws RX1 TX1 3, w ∈ wsT := fun w h => List.mem_filter.mpr ⟨(by decide +kernel : ∀ w ∈ u_ws RX1 TX1 3, w ∈ lw_tbl) w h, (by decide +kernel : ∀ w ∈ u_ws RX1 TX1 3, goodWord w = true) w h⟩
theorem inT2 : ∀ w ∈ u_ws RX2 TX2 12, w ∈ wsT := fun w h => List.mem_filter.mpr ⟨(by decide +kernel : ∀ w ∈ u_ws RX2 TX2 12, w ∈ lw_tbl) w h, (by decide +kernel : ∀ w ∈ u_ws RX2 TX2 12, goodWord w = true) w h⟩
theorem inT3 : ∀ w ∈ u_ws RX3 TX3 3, w ∈ wsT := fun w h => List.mem_filter.mpr ⟨(by decide +kernel : ∀ w ∈ u_ws RX3 TX3 3, w ∈ lw_tbl) w h, (by decide +kernel : ∀ w ∈ u_ws RX3 TX3 3, goodWord w = true) w h⟩
/-- a place where ways meet -/
def jn {γ : Type} (K : γ) (B : γ → Prop) : Prop := B K
theorem jn_e {γ : Type} {K : γ} {B : γ → Prop} {G : Prop} (h : jn K B) (k : ∀ J : γ, J = K → B J → G) : G := k K rfl h
/-- a loop: its body, n times at most -/
def lpc {γ : Type} (bot : γ) (body : γ → γ) : Nat → γ
  | 0 => bot
  | n + 1 => body (lpc bot body n)
theorem lp_e {γ : Type} {bot : γ} {body : γ → γ} (P : γ → Prop) (h0 : P bot) (hs : ∀ K, P K → P (body K)) : ∀ n, P (lpc bot body n)
  | 0 => h0
  | n + 1 => hs _ (lp_e P h0 hs n)
def LP1 {A1 : Type} (body : (A1 → Prop) → A1 → Prop) (x1 : A1) : Prop := ∃ n, lpc (fun _ => False) body n x1
theorem lpu1 {A1 : Type} {body : (A1 → Prop) → A1 → Prop} {x1 : A1} {G : Prop} (h : LP1 body x1) (P : (A1 → Prop) → Prop) (h0 : P (fun _ => False)) (hs : ∀ K, P K → P (body K)) (hG : ∀ K, P K → K x1 → G) : G := by
  obtain ⟨n, h⟩ := h
  exact hG _ (lp_e P h0 hs n) h
theorem lpi1 {A1 : Type} {body : (A1 → Prop) → A1 → Prop} (I : A1 → Prop) (μ : A1 → Nat) (hs : ∀ (K : A1 → Prop) (x1 : A1), I x1 → (∀ (y1 : A1), I y1 → μ y1 < μ x1 → K y1) → body K x1) (x1 : A1) (h : I x1) : LP1 body x1 := by
  have key : ∀ (n : Nat) (x1 : A1), I x1 → μ x1 < n → lpc (fun _ => False) body n x1 := by
    intro n
    induction n with
    | zero => intro x1 _ hm; exact absurd hm (Nat.not_lt_zero _)
    | succ n ih => intro x1 hi hm; exact hs _ x1 hi (fun y1 hj hlt => ih y1 hj (by omega))
  exact ⟨_, key _ x1 h (Nat.lt_succ_self _)⟩
def LP2 {A1 A2 : Type} (body : (A1 → A2 → Prop) → A1 → A2 → Prop) (x1 : A1) (x2 : A2) : Prop := ∃ n, lpc (fun _ _ => False) body n x1 x2
theorem lpu2 {A1 A2 : Type} {body : (A1 → A2 → Prop) → A1 → A2 → Prop} {x1 : A1} {x2 : A2} {G : Prop} (h : LP2 body x1 x2) (P : (A1 → A2 → Prop) → Prop) (h0 : P (fun _ _ => False)) (hs : ∀ K, P K → P (body K)) (hG : ∀ K, P K → K x1 x2 → G) : G := by
  obtain ⟨n, h⟩ := h
  exact hG _ (lp_e P h0 hs n) h
theorem lpi2 {A1 A2 : Type} {body : (A1 → A2 → Prop) → A1 → A2 → Prop} (I : A1 → A2 → Prop) (μ : A1 → A2 → Nat) (hs : ∀ (K : A1 → A2 → Prop) (x1 : A1) (x2 : A2), I x1 x2 → (∀ (y1 : A1) (y2 : A2), I y1 y2 → μ y1 y2 < μ x1 x2 → K y1 y2) → body K x1 x2) (x1 : A1) (x2 : A2) (h : I x1 x2) : LP2 body x1 x2 := by
  have key : ∀ (n : Nat) (x1 : A1) (x2 : A2), I x1 x2 → μ x1 x2 < n → lpc (fun _ _ => False) body n x1 x2 := by
    intro n
    induction n with
    | zero => intro x1 x2 _ hm; exact absurd hm (Nat.not_lt_zero _)
    | succ n ih => intro x1 x2 hi hm; exact hs _ x1 x2 hi (fun y1 y2 hj hlt => ih y1 y2 hj (by omega))
  exact ⟨_, key _ x1 x2 h (Nat.lt_succ_self _)⟩
def LP3 {A1 A2 A3 : Type} (body : (A1 → A2 → A3 → Prop) → A1 → A2 → A3 → Prop) (x1 : A1) (x2 : A2) (x3 : A3) : Prop := ∃ n, lpc (fun _ _ _ => False) body n x1 x2 x3
theorem lpu3 {A1 A2 A3 : Type} {body : (A1 → A2 → A3 → Prop) → A1 → A2 → A3 → Prop} {x1 : A1} {x2 : A2} {x3 : A3} {G : Prop} (h : LP3 body x1 x2 x3) (P : (A1 → A2 → A3 → Prop) → Prop) (h0 : P (fun _ _ _ => False)) (hs : ∀ K, P K → P (body K)) (hG : ∀ K, P K → K x1 x2 x3 → G) : G := by
  obtain ⟨n, h⟩ := h
  exact hG _ (lp_e P h0 hs n) h
theorem lpi3 {A1 A2 A3 : Type} {body : (A1 → A2 → A3 → Prop) → A1 → A2 → A3 → Prop} (I : A1 → A2 → A3 → Prop) (μ : A1 → A2 → A3 → Nat) (hs : ∀ (K : A1 → A2 → A3 → Prop) (x1 : A1) (x2 : A2) (x3 : A3), I x1 x2 x3 → (∀ (y1 : A1) (y2 : A2) (y3 : A3), I y1 y2 y3 → μ y1 y2 y3 < μ x1 x2 x3 → K y1 y2 y3) → body K x1 x2 x3) (x1 : A1) (x2 : A2) (x3 : A3) (h : I x1 x2 x3) : LP3 body x1 x2 x3 := by
  have key : ∀ (n : Nat) (x1 : A1) (x2 : A2) (x3 : A3), I x1 x2 x3 → μ x1 x2 x3 < n → lpc (fun _ _ _ => False) body n x1 x2 x3 := by
    intro n
    induction n with
    | zero => intro x1 x2 x3 _ hm; exact absurd hm (Nat.not_lt_zero _)
    | succ n ih => intro x1 x2 x3 hi hm; exact hs _ x1 x2 x3 hi (fun y1 y2 y3 hj hlt => ih y1 y2 y3 hj (by omega))
  exact ⟨_, key _ x1 x2 x3 h (Nat.lt_succ_self _)⟩
def LP4 {A1 A2 A3 A4 : Type} (body : (A1 → A2 → A3 → A4 → Prop) → A1 → A2 → A3 → A4 → Prop) (x1 : A1) (x2 : A2) (x3 : A3) (x4 : A4) : Prop := ∃ n, lpc (fun _ _ _ _ => False) body n x1 x2 x3 x4
theorem lpu4 {A1 A2 A3 A4 : Type} {body : (A1 → A2 → A3 → A4 → Prop) → A1 → A2 → A3 → A4 → Prop} {x1 : A1} {x2 : A2} {x3 : A3} {x4 : A4} {G : Prop} (h : LP4 body x1 x2 x3 x4) (P : (A1 → A2 → A3 → A4 → Prop) → Prop) (h0 : P (fun _ _ _ _ => False)) (hs : ∀ K, P K → P (body K)) (hG : ∀ K, P K → K x1 x2 x3 x4 → G) : G := by
  obtain ⟨n, h⟩ := h
  exact hG _ (lp_e P h0 hs n) h
theorem lpi4 {A1 A2 A3 A4 : Type} {body : (A1 → A2 → A3 → A4 → Prop) → A1 → A2 → A3 → A4 → Prop} (I : A1 → A2 → A3 → A4 → Prop) (μ : A1 → A2 → A3 → A4 → Nat) (hs : ∀ (K : A1 → A2 → A3 → A4 → Prop) (x1 : A1) (x2 : A2) (x3 : A3) (x4 : A4), I x1 x2 x3 x4 → (∀ (y1 : A1) (y2 : A2) (y3 : A3) (y4 : A4), I y1 y2 y3 y4 → μ y1 y2 y3 y4 < μ x1 x2 x3 x4 → K y1 y2 y3 y4) → body K x1 x2 x3 x4) (x1 : A1) (x2 : A2) (x3 : A3) (x4 : A4) (h : I x1 x2 x3 x4) : LP4 body x1 x2 x3 x4 := by
  have key : ∀ (n : Nat) (x1 : A1) (x2 : A2) (x3 : A3) (x4 : A4), I x1 x2 x3 x4 → μ x1 x2 x3 x4 < n → lpc (fun _ _ _ _ => False) body n x1 x2 x3 x4 := by
    intro n
    induction n with
    | zero => intro x1 x2 x3 x4 _ hm; exact absurd hm (Nat.not_lt_zero _)
    | succ n ih => intro x1 x2 x3 x4 hi hm; exact hs _ x1 x2 x3 x4 hi (fun y1 y2 y3 y4 hj hlt => ih y1 y2 y3 y4 hj (by omega))
  exact ⟨_, key _ x1 x2 x3 x4 h (Nat.lt_succ_self _)⟩
def LP5 {A1 A2 A3 A4 A5 : Type} (body : (A1 → A2 → A3 → A4 → A5 → Prop) → A1 → A2 → A3 → A4 → A5 → Prop) (x1 : A1) (x2 : A2) (x3 : A3) (x4 : A4) (x5 : A5) : Prop := ∃ n, lpc (fun _ _ _ _ _ => False) body n x1 x2 x3 x4 x5
theorem lpu5 {A1 A2 A3 A4 A5 : Type} {body : (A1 → A2 → A3 → A4 → A5 → Prop) → A1 → A2 → A3 → A4 → A5 → Prop} {x1 : A1} {x2 : A2} {x3 : A3} {x4 : A4} {x5 : A5} {G : Prop} (h : LP5 body x1 x2 x3 x4 x5) (P : (A1 → A2 → A3 → A4 → A5 → Prop) → Prop) (h0 : P (fun _ _ _ _ _ => False)) (hs : ∀ K, P K → P (body K)) (hG : ∀ K, P K → K x1 x2 x3 x4 x5 → G) : G := by
  obtain ⟨n, h⟩ := h
  exact hG _ (lp_e P h0 hs n) h
theorem lpi5 {A1 A2 A3 A4 A5 : Type} {body : (A1 → A2 → A3 → A4 → A5 → Prop) → A1 → A2 → A3 → A4 → A5 → Prop} (I : A1 → A2 → A3 → A4 → A5 → Prop) (μ : A1 → A2 → A3 → A4 → A5 → Nat) (hs : ∀ (K : A1 → A2 → A3 → A4 → A5 → Prop) (x1 : A1) (x2 : A2) (x3 : A3) (x4 : A4) (x5 : A5), I x1 x2 x3 x4 x5 → (∀ (y1 : A1) (y2 : A2) (y3 : A3) (y4 : A4) (y5 : A5), I y1 y2 y3 y4 y5 → μ y1 y2 y3 y4 y5 < μ x1 x2 x3 x4 x5 → K y1 y2 y3 y4 y5) → body K x1 x2 x3 x4 x5) (x1 : A1) (x2 : A2) (x3 : A3) (x4 : A4) (x5 : A5) (h : I x1 x2 x3 x4 x5) : LP5 body x1 x2 x3 x4 x5 := by
  have key : ∀ (n : Nat) (x1 : A1) (x2 : A2) (x3 : A3) (x4 : A4) (x5 : A5), I x1 x2 x3 x4 x5 → μ x1 x2 x3 x4 x5 < n → lpc (fun _ _ _ _ _ => False) body n x1 x2 x3 x4 x5 := by
    intro n
    induction n with
    | zero => intro x1 x2 x3 x4 x5 _ hm; exact absurd hm (Nat.not_lt_zero _)
    | succ n ih => intro x1 x2 x3 x4 x5 hi hm; exact hs _ x1 x2 x3 x4 x5 hi (fun y1 y2 y3 y4 y5 hj hlt => ih y1 y2 y3 y4 y5 hj (by omega))
  exact ⟨_, key _ x1 x2 x3 x4 x5 h (Nat.lt_succ_self _)⟩
def LP6 {A1 A2 A3 A4 A5 A6 : Type} (body : (A1 → A2 → A3 → A4 → A5 → A6 → Prop) → A1 → A2 → A3 → A4 → A5 → A6 → Prop) (x1 : A1) (x2 : A2) (x3 : A3) (x4 : A4) (x5 : A5) (x6 : A6) : Prop := ∃ n, lpc (fun _ _ _ _ _ _ => False) body n x1 x2 x3 x4 x5 x6
theorem lpu6 {A1 A2 A3 A4 A5 A6 : Type} {body : (A1 → A2 → A3 → A4 → A5 → A6 → Prop) → A1 → A2 → A3 → A4 → A5 → A6 → Prop} {x1 : A1} {x2 : A2} {x3 : A3} {x4 : A4} {x5 : A5} {x6 : A6} {G : Prop} (h : LP6 body x1 x2 x3 x4 x5 x6) (P : (A1 → A2 → A3 → A4 → A5 → A6 → Prop) → Prop) (h0 : P (fun _ _ _ _ _ _ => False)) (hs : ∀ K, P K → P (body K)) (hG : ∀ K, P K → K x1 x2 x3 x4 x5 x6 → G) : G := by
  obtain ⟨n, h⟩ := h
  exact hG _ (lp_e P h0 hs n) h
theorem lpi6 {A1 A2 A3 A4 A5 A6 : Type} {body : (A1 → A2 → A3 → A4 → A5 → A6 → Prop) → A1 → A2 → A3 → A4 → A5 → A6 → Prop} (I : A1 → A2 → A3 → A4 → A5 → A6 → Prop) (μ : A1 → A2 → A3 → A4 → A5 → A6 → Nat) (hs : ∀ (K : A1 → A2 → A3 → A4 → A5 → A6 → Prop) (x1 : A1) (x2 : A2) (x3 : A3) (x4 : A4) (x5 : A5) (x6 : A6), I x1 x2 x3 x4 x5 x6 → (∀ (y1 : A1) (y2 : A2) (y3 : A3) (y4 : A4) (y5 : A5) (y6 : A6), I y1 y2 y3 y4 y5 y6 → μ y1 y2 y3 y4 y5 y6 < μ x1 x2 x3 x4 x5 x6 → K y1 y2 y3 y4 y5 y6) → body K x1 x2 x3 x4 x5 x6) (x1 : A1) (x2 : A2) (x3 : A3) (x4 : A4) (x5 : A5) (x6 : A6) (h : I x1 x2 x3 x4 x5 x6) : LP6 body x1 x2 x3 x4 x5 x6 := by
  have key : ∀ (n : Nat) (x1 : A1) (x2 : A2) (x3 : A3) (x4 : A4) (x5 : A5) (x6 : A6), I x1 x2 x3 x4 x5 x6 → μ x1 x2 x3 x4 x5 x6 < n → lpc (fun _ _ _ _ _ _ => False) body n x1 x2 x3 x4 x5 x6 := by
    intro n
    induction n with
    | zero => intro x1 x2 x3 x4 x5 x6 _ hm; exact absurd hm (Nat.not_lt_zero _)
    | succ n ih => intro x1 x2 x3 x4 x5 x6 hi hm; exact hs _ x1 x2 x3 x4 x5 x6 hi (fun y1 y2 y3 y4 y5 y6 hj hlt => ih y1 y2 y3 y4 y5 y6 hj (by omega))
  exact ⟨_, key _ x1 x2 x3 x4 x5 x6 h (Nat.lt_succ_self _)⟩
section
variable {p : Program} {l : Launch} {e : Env} {R : Room} {s : State} {m : MethodId} {args : Array Value} {below : List Frame} {meth : Method} {c : Code} {H H0 : Heap} {locs : List Loc} {cells slots : Nat} {Q : State → Prop} {A : Nat → Prop} {D : va_G} {T : List (ClassId × FieldType)} {wc : va_W} {pc : Nat} {ls : Array Slot} {rest st0 : List Value}
variable {y : MethodName} {bytes cc : ByteArray} {maxL nL n index : Nat} {ret : Option FieldType} {rm : Room} {own C : String} {b : Addr} {As : List Value} {W9 : List Cond}
theorem perm0 {α : Type} {w : List α} : w.Perm (w ++ []) := by rw [List.append_nil]
theorem rwVi0 {S : Type} {post : Int32 → S → Prop} {wf : S → va_W} {mc ms : Nat} (F : CallFix p m c cc nL s args wsT own) (hM : Met l y W9 rm (va_Pc (.ref b :: As) (rwP D T wc H.size)) (va_Qi post (fun u t => va_P D vwCl (wf u) t.heap ∧ va_D (va_A wc H.size) (wf u)) (va_A wc H.size)) mc ms (va_A wc H.size)) (cw : CallW R s args own C index y bytes maxL ret W9 rm mc ms n)
    (hK : KK D T s) (hP : va_P D vwCl wc H) (hD : va_D A wc) (hS : va_S A H0 H locs) (hA : ∀ q, H0.size ≤ q → A q) (hr : ∃ cell : Cell, H[b]? = some cell ∧ cell.vm.isStatics = false ∧ s.vm.findClass C = some cell.cls) (hn : As.length = n) (hsz : ls.size = nL) (hst : st0 = As.reverse ++ .ref b :: rest) (hW : (rest.map fun v => v.category).sum ≤ 8) (hdg : decode cc pc = .ok (.invokevirtual index, 3)) (hf : cells + mc ≤ R.cells ∧ slots + ms ≤ R.slots)
    (kk : ∀ r u H1 locs1, post r u → va_P D vwCl (wf u) H1 → va_D A (wf u) → va_S A H0 H1 locs1 → W p l e R s m args below meth c H1 locs1 (cells + mc) (slots + ms) Q (F0 m (pc + 3) ls (.int r :: rest))) : W p l e R s m args below meth c H locs cells slots Q (F0 m pc ls st0) :=
  rwVi perm0 F hM cw hK hP hD hS hA hr hn hsz hst hW hdg hf (fun r u H1 locs1 h1 h2 h3 h4 => kk r u H1 locs1 h1 (by rw [List.append_nil] at h2; exact h2) (by rw [List.append_nil] at h3; exact h3) h4)
theorem rwVv0 {S : Type} {post : S → Prop} {wf : S → va_W} {mc ms : Nat} (F : CallFix p m c cc nL s args wsT own) (hM : Met l y W9 rm (va_Pc (.ref b :: As) (rwP D T wc H.size)) (va_Qv post (fun u t => va_P D vwCl (wf u) t.heap ∧ va_D (va_A wc H.size) (wf u)) (va_A wc H.size)) mc ms (va_A wc H.size)) (cw : CallW R s args own C index y bytes maxL ret W9 rm mc ms n)
    (hK : KK D T s) (hP : va_P D vwCl wc H) (hD : va_D A wc) (hS : va_S A H0 H locs) (hA : ∀ q, H0.size ≤ q → A q) (hr : ∃ cell : Cell, H[b]? = some cell ∧ cell.vm.isStatics = false ∧ s.vm.findClass C = some cell.cls) (hn : As.length = n) (hsz : ls.size = nL) (hst : st0 = As.reverse ++ .ref b :: rest) (hW : (rest.map fun v => v.category).sum ≤ 8) (hdg : decode cc pc = .ok (.invokevirtual index, 3)) (hf : cells + mc ≤ R.cells ∧ slots + ms ≤ R.slots)
    (kk : ∀ u H1 locs1, post u → va_P D vwCl (wf u) H1 → va_D A (wf u) → va_S A H0 H1 locs1 → W p l e R s m args below meth c H1 locs1 (cells + mc) (slots + ms) Q (F0 m (pc + 3) ls rest)) : W p l e R s m args below meth c H locs cells slots Q (F0 m pc ls st0) :=
  rwVv perm0 F hM cw hK hP hD hS hA hr hn hsz hst hW hdg hf (fun u H1 locs1 h1 h2 h3 h4 => kk u H1 locs1 h1 (by rw [List.append_nil] at h2; exact h2) (by rw [List.append_nil] at h3; exact h3) h4)
end
/-- switches -/
theorem lk_hit {ps : List (Int × Int)} {d off : Int} {x y : Int32} (hx : x = y) (h : Op.lookupswitch.offset ps d y.toInt = off) : Op.lookupswitch.offset ps d x.toInt = off := by rw [hx]; exact h
theorem lk_n {d v : Int} : Op.lookupswitch.offset [] d v = d := rfl
theorem lk_c {k o d v : Int} {ps : List (Int × Int)} (h : ¬ k = v) (t : Op.lookupswitch.offset ps d v = d) : Op.lookupswitch.offset ((k, o) :: ps) d v = d := by
  unfold Op.lookupswitch.offset
  rw [if_neg h]
  exact t
theorem lk_d {x y : Int32} {k : Int} (h : ¬ x = y) (hk : y.toInt = k) : ¬ k = x.toInt := fun q => h (Int32.toInt_inj.mp (q.symm.trans hk.symm))
theorem ne_toInt {x y : Int32} {k : Int} (h : ¬ x = y) (hk : y.toInt = k) : x.toInt ≠ k := fun q => h (Int32.toInt_inj.mp (q.trans hk.symm))
