/-! what the law's questions rest on -/
/-- the share: a number from 0 to 1 -/
def shOk (d : UInt64) : Prop := ¬ Op.cmpValue (FP.dcmp d FP.dconst0) CmpOp.l < nI 0 ∧ ¬ nI 0 < Op.cmpValue (FP.dcmp d FP.dconst1) CmpOp.g
theorem sh_one : shOk FP.dconst1 := by unfold shOk; decide +kernel
def shB (a b : Nat) : Bool := decide ((FP.ddiv (FP.i2d (nI a)) (FP.i2d (nI b))) &&& 0x7fffffffffffffff ≤ 0x7ff0000000000000) && (decide (¬ Op.cmpValue (FP.dcmp (FP.ddiv (FP.i2d (nI a)) (FP.i2d (nI b))) FP.dconst0) CmpOp.l < nI 0) && decide (¬ nI 0 < Op.cmpValue (FP.dcmp (FP.ddiv (FP.i2d (nI a)) (FP.i2d (nI b))) FP.dconst1) CmpOp.g))
set_option maxRecDepth 100000 in
theorem sh_tab : ∀ b, b < 75 → ∀ a, a < 75 → (b = 0 ∨ b < a ∨ shB a b = true) := by decide +kernel
theorem sh_ok {a b : Nat} (hb : b < 75) (hab : a ≤ b) (h0 : b ≠ 0) : vf_n64 (FP.ddiv (FP.i2d (nI a)) (FP.i2d (nI b))) ∧ shOk (FP.ddiv (FP.i2d (nI a)) (FP.i2d (nI b))) := by
  rcases sh_tab b hb a (by omega) with h | h | h
  · exact absurd h h0
  · omega
  · unfold shB at h
    obtain ⟨h1, h2⟩ := (Bool.and_eq_true _ _).mp h
    obtain ⟨h3, h4⟩ := (Bool.and_eq_true _ _).mp h2
    exact ⟨by unfold vf_n64; exact of_decide_eq_true h1, of_decide_eq_true h3, of_decide_eq_true h4⟩
theorem N_share {N : Ne} {T : AT} {S : List AT} {t : Nat} (H : NR N T S) (Q : QB T g0 t) (ht : t < 75) {post : UInt64 → Prop} (hp : ∀ d, shOk d → post d) : wp_X3_deliveredShare N post := by
  obtain ⟨c, hc, hb, ho, h0, h2⟩ := Q
  refine N_deliveredShare H (hc 0 (by omega)) (hc 1 (by omega)) (by omega) (fun _ => hp _ sh_one) (fun hz => ?_)
  have k := sh_ok (a := c 1) (b := c 0) (by omega) (by omega) hz
  exact ⟨k.1, hp _ k.2⟩
/-! the inns that serve, in their order -/
theorem leN_c (T : AT) (pl : Nat) : (∃ i, i < 8 ∧ goN T pl i ∧ leN T pl = nI i) ∨ ((∀ i, i < 8 → ¬ goN T pl i) ∧ leN T pl = nM) := by
  rcases leG_s T pl 8 (by omega) with ⟨j, -, h2, h3, h4⟩ | ⟨h1, h2⟩
  · exact Or.inl ⟨j, h2, h3, h4⟩
  · exact Or.inr ⟨fun i hi => h1 i (by omega) hi, h2⟩
theorem cn_down (T : AT) (c : Nat) : ∀ x, cnN T x 8 = c + 1 → ∃ j, j < 8 ∧ T.2.2.1 j = true ∧ cnN T (kyN T j) 8 = c
  | 0, h => by rw [cnN_0] at h; omega
  | x + 1, h => by
    have s := cnN_step T (x / 8) (x % 8) (by omega) 8 (by omega)
    rw [show 8 * (x / 8) + x % 8 = x by omega] at s
    by_cases q : x % 8 < 8 ∧ T.2.2.1 (x % 8) = true ∧ wkN T (x % 8) T.1 = x / 8
    · rw [if_pos q] at s
      refine ⟨x % 8, q.1, q.2.1, ?_⟩
      have e : kyN T (x % 8) = x := by unfold kyN; rw [q.2.2]; omega
      rw [e]
      omega
    · rw [if_neg q] at s
      exact cn_down T c x (by omega)
theorem go_down {T : AT} {i c : Nat} (h : goN T (c + 2) i) : ∃ j, j < 8 ∧ goN T (c + 1) j := by
  obtain ⟨j, h1, h2, h3⟩ := cn_down T c (kyN T i) (by have := h.2; omega)
  exact ⟨j, h1, h2, by omega⟩
theorem go_ne {T : AT} {i j p q : Nat} (h1 : goN T p i) (h2 : goN T q j) (h : p ≠ q) : i ≠ j := by
  intro e
  subst e
  have a := h1.2
  have b := h2.2
  omega
/-- the first three -/
theorem least3 (T : AT) : (leN T 1 = nM ∧ leN T 2 = nM ∧ leN T 3 = nM) ∨ (∃ i, i < 8 ∧ T.2.2.1 i = true ∧ leN T 1 = nI i ∧ leN T 2 = nM ∧ leN T 3 = nM) ∨ (∃ i j, i < 8 ∧ j < 8 ∧ i ≠ j ∧ T.2.2.1 i = true ∧ T.2.2.1 j = true ∧ leN T 1 = nI i ∧ leN T 2 = nI j ∧ leN T 3 = nM) ∨ (∃ i j k, i < 8 ∧ j < 8 ∧ k < 8 ∧ i ≠ j ∧ i ≠ k ∧ j ≠ k ∧ T.2.2.1 i = true ∧ T.2.2.1 j = true ∧ T.2.2.1 k = true ∧ leN T 1 = nI i ∧ leN T 2 = nI j ∧ leN T 3 = nI k) := by
  rcases leN_c T 3 with ⟨k, hk, g3, e3⟩ | ⟨n3, e3⟩
  · obtain ⟨j, hj, g2⟩ := go_down (c := 1) g3
    obtain ⟨i, hi, g1⟩ := go_down (c := 0) g2
    exact Or.inr (Or.inr (Or.inr ⟨i, j, k, hi, hj, hk, go_ne g1 g2 (by omega), go_ne g1 g3 (by omega), go_ne g2 g3 (by omega), g1.1, g2.1, g3.1, leN_hit hi g1, leN_hit hj g2, e3⟩))
  · rcases leN_c T 2 with ⟨j, hj, g2, e2⟩ | ⟨n2, e2⟩
    · obtain ⟨i, hi, g1⟩ := go_down (c := 0) g2
      exact Or.inr (Or.inr (Or.inl ⟨i, j, hi, hj, go_ne g1 g2 (by omega), g1.1, g2.1, leN_hit hi g1, e2, e3⟩))
    · rcases leN_c T 1 with ⟨i, hi, g1, e1⟩ | ⟨n1, e1⟩
      · exact Or.inr (Or.inl ⟨i, hi, g1.1, e1, e2, e3⟩)
      · exact Or.inl ⟨e1, e2, e3⟩
/-! what an inn knows -/
theorem biN_k : ∀ k, k < 8 → ∀ j, j < 8 → bt (biN (nI k)) j = decide (k = j) := by decide +kernel
theorem biN_M : biN nM = nI 0 := by decide +kernel
theorem biN_o : ∀ k, k < 14 → 8 ≤ k → biN (nI k) = nI 0 := by decide +kernel
def sB (T : AT) (r i j : Nat) : Bool := bt (biN (seN T i r 0)) j || bt (biN (seN T i r 1)) j
/-- the inns of a road are three -/
def DI (T : AT) : Prop := ∀ r, r < T.1 → T.2.2.2.2.1 r 1 ≠ T.2.2.2.2.1 r 2 ∧ T.2.2.2.2.1 r 1 ≠ T.2.2.2.2.1 r 3 ∧ T.2.2.2.2.1 r 2 ≠ T.2.2.2.2.1 r 3
section
variable {T : AT} {g : Nat → Bool} {i j r : Nat}
theorem plN_1 (h : T.2.2.2.2.1 r 1 = i) : plN T r i = 1 := by unfold plN; rw [if_pos h]
theorem plN_2 (h1 : T.2.2.2.2.1 r 1 ≠ i) (h : T.2.2.2.2.1 r 2 = i) : plN T r i = 2 := by unfold plN; rw [if_neg h1, if_pos h]
theorem plN_3 (h1 : T.2.2.2.2.1 r 1 ≠ i) (h2 : T.2.2.2.2.1 r 2 ≠ i) (h : T.2.2.2.2.1 r 3 = i) : plN T r i = 3 := by unfold plN; rw [if_neg h1, if_neg h2, if_pos h]
theorem plN_0 (h1 : T.2.2.2.2.1 r 1 ≠ i) (h2 : T.2.2.2.2.1 r 2 ≠ i) (h : T.2.2.2.2.1 r 3 ≠ i) : plN T r i = 0 := by unfold plN; rw [if_neg h1, if_neg h2, if_neg h]
theorem b_00 (j : Nat) : bt (nI 0) j = false := b_0 j
theorem sB_is (V : AV T g) (D : DI T) (hr : r < T.1) (hj : j < 8) : sB T r i j = decide ((i = T.2.2.2.2.1 r 1 ∧ j = T.2.2.2.2.1 r 2) ∨ (i = T.2.2.2.2.1 r 2 ∧ (j = T.2.2.2.2.1 r 1 ∨ j = T.2.2.2.2.1 r 3)) ∨ (i = T.2.2.2.2.1 r 3 ∧ j = T.2.2.2.2.1 r 2)) := by
  obtain ⟨d1, d2, d3⟩ := D r hr
  have b1 := v_ri V hr (p := 1) (by omega) (by omega)
  have b2 := v_ri V hr (p := 2) (by omega) (by omega)
  have b3 := v_ri V hr (p := 3) (by omega) (by omega)
  have hh := v_rh V hr
  unfold sB
  by_cases h1 : T.2.2.2.2.1 r 1 = i
  · have e0 : seN T i r 0 = nI 8 := by unfold seN; rw [plN_1 h1]; rfl
    have e1 : seN T i r 1 = nI (T.2.2.2.2.1 r 2) := by unfold seN; rw [plN_1 h1]; rfl
    rw [e0, e1, biN_o 8 (by omega) (by omega), biN_k _ b2 _ hj, b_00, Bool.false_or]
    apply decide_eq_decide.mpr
    omega
  · by_cases h2 : T.2.2.2.2.1 r 2 = i
    · have e0 : seN T i r 0 = nI (T.2.2.2.2.1 r 1) := by unfold seN; rw [plN_2 h1 h2]; rfl
      have e1 : seN T i r 1 = nI (T.2.2.2.2.1 r 3) := by unfold seN; rw [plN_2 h1 h2]; rfl
      rw [e0, e1, biN_k _ b1 _ hj, biN_k _ b3 _ hj, ← Bool.decide_or]
      apply decide_eq_decide.mpr
      omega
    · by_cases h3 : T.2.2.2.2.1 r 3 = i
      · have e0 : seN T i r 0 = nI (T.2.2.2.2.1 r 2) := by unfold seN; rw [plN_3 h1 h2 h3]; rfl
        have e1 : seN T i r 1 = nI (10 + T.2.2.2.2.2.2.1 r) := by unfold seN; rw [plN_3 h1 h2 h3]; rfl
        rw [e0, e1, biN_k _ b2 _ hj, biN_o _ (by omega) (by omega), b_00, Bool.or_false]
        apply decide_eq_decide.mpr
        omega
      · have e0 : seN T i r 0 = nM := by unfold seN; rw [plN_0 h1 h2 h3]; rfl
        have e1 : seN T i r 1 = nM := by unfold seN; rw [plN_0 h1 h2 h3]; rfl
        rw [e0, e1, biN_M, b_00]
        symm
        apply decide_eq_false
        omega
theorem sB_sym (V : AV T g) (D : DI T) (hr : r < T.1) (hi : i < 8) (hj : j < 8) : sB T r i j = sB T r j i := by
  rw [sB_is V D hr hj, sB_is V D hr hi]
  apply decide_eq_decide.mpr
  omega
theorem sB_self (V : AV T g) (D : DI T) (hr : r < T.1) (hi : i < 8) : sB T r i i = false := by
  obtain ⟨d1, d2, d3⟩ := D r hr
  rw [sB_is V D hr hi]
  apply decide_eq_false
  omega
theorem kn_s {n : Nat} : bt (knN T i (n + 1)) j = (bt (knN T i n) j || sB T n i j) := by
  show bt (knN T i n ||| (biN (seN T i n 0) ||| biN (seN T i n 1))) j = _
  rw [b_or, b_or]
  rfl
theorem kn_sym (V : AV T g) (D : DI T) (hi : i < 8) (hj : j < 8) : ∀ n, n ≤ T.1 → bt (knN T i n) j = bt (knN T j n) i
  | 0, _ => by show bt (nI 0) j = bt (nI 0) i; rw [b_00, b_00]
  | n + 1, h => by rw [kn_s, kn_s, kn_sym V D hi hj n (by omega), sB_sym V D (by omega) hi hj]
theorem kn_self (V : AV T g) (D : DI T) (hi : i < 8) : ∀ n, n ≤ T.1 → bt (knN T i n) i = false
  | 0, _ => b_00 i
  | n + 1, h => by rw [kn_s, kn_self V D hi n (by omega), sB_self V D (by omega) hi]; rfl
theorem zopv {m : Int32} {i : Nat} (hi : i < 31) : ((m >>> (nI i &&& nI 31)) &&& nI 1) = bI (bt m i) := by
  apply b_ext
  intro k hk
  have hs : bt (m >>> (nI i &&& nI 31)) k = if i + k < 32 then bt m (i + k) else bt m 31 := b_sshr i (by omega) m hk
  have h1 : bt (nI 1) k = decide (k = 0) := b_1 k hk
  rw [b_and, hs, h1]
  by_cases e : k = 0
  · subst e
    rw [if_pos (by omega), decide_eq_true rfl, Bool.and_true, Nat.add_zero]
    cases bt m i <;> rfl
  · rw [decide_eq_false e, Bool.and_false]
    cases bt m i
    · exact (b_00 k).symm
    · show false = bt (nI 1) k
      rw [h1, decide_eq_false e]
/-! losses -/
theorem opB_same {op : Nat → Bool} (h : op i = false) : opB op i = op := by
  funext k
  unfold opB
  split
  · rename_i e; rw [e, h]
  · rfl
theorem blk_B {op : Nat → Bool} {k : Nat} (h : blk T op j k = true) : blk T (opB op i) j k = true := by
  unfold blk at h ⊢
  obtain ⟨h1, h2⟩ := (Bool.and_eq_true _ _).mp h
  refine (Bool.and_eq_true _ _).mpr ⟨h1, ?_⟩
  unfold opB
  split
  · rfl
  · exact h2
theorem arN_B {op : Nat → Bool} (he : T.2.2.2.2.2.2.2.1 j 1 ≤ 4) (h : arN T op j = nM) : arN T (opB op i) j = nM := by
  unfold arN at h ⊢
  by_cases q : (blk T op j 1 || blk T op j 2 || blk T op j 3) = true
  · rw [if_pos]
    rcases (Bool.or_eq_true _ _).mp q with q | q
    · rcases (Bool.or_eq_true _ _).mp q with q | q
      · rw [blk_B q]; rfl
      · rw [blk_B q, Bool.or_true]; rfl
    · rw [blk_B q, Bool.or_true]
  · rw [if_neg q] at h
    split at h
    · rw [zeM1 (by omega)] at h; exact h.elim
    · rw [zeM1 (by omega)] at h; exact h.elim
theorem lsN_B {op : Nat → Bool} : ∀ n, (∀ j, j < n → T.2.2.2.2.2.2.2.1 j 1 ≤ 4) → lsN T op n ≤ lsN T (opB op i) n
  | 0, _ => Nat.le_refl _
  | n + 1, he => by
    have ih := lsN_B (op := op) n (fun j hj => he j (by omega))
    show lsN T op n + (if arN T op n = nM then 1 else 0) ≤ lsN T (opB op i) n + (if arN T (opB op i) n = nM then 1 else 0)
    by_cases q : arN T op n = nM
    · rw [if_pos q, if_pos (arN_B (he n (by omega)) q)]; omega
    · rw [if_neg q]; omega
theorem ev_4 (V : AV T g0) (hj : j < T.2.1) : T.2.2.2.2.2.2.2.1 j 1 ≤ 4 := by
  have hv := v_ev V hj rfl
  unfold envOk at hv
  omega
end
/-! numbers out of the script -/
def upN (v : Int32) (n : Nat) : Nat := v.toBitVec.toNat % 2 ^ 31 % n
theorem upN_lt {v : Int32} {n : Nat} (h : 0 < n) : upN v n < n := Nat.mod_lt _ h
theorem L_up {v : Int32} {n : Nat} (h0 : 0 < n) (hn : n < 2147483648) {post : Int32 → Prop} (hp : post (nI (upN v n))) : wp_L_up v (nI n) post := by
  have e : v &&& (2147483647 : Int32) = nI (v.toBitVec.toNat % 2 ^ 31) := pk_and v 31 (by decide)
  have hl : v.toBitVec.toNat % 2 ^ 31 < 2 ^ 31 := Nat.mod_lt _ (by decide)
  unfold wp_L_up
  refine ⟨?_, ?_⟩
  · intro q
    rw [z0, zeq_f (by omega) hn (by omega)] at q
    exact q
  · rw [e, pk_rem hl h0 hn]
    exact hp
/-! a body uncovered is as it was -/
theorem unc_cov {b k : Nat} (hb : b < 10000) (hk : k < 10000) : uncN (covN b k) k = b := by unfold uncN covN; omega
theorem cov_unc {b k : Nat} (hb : b < 10000) (hk : k < 10000) : covN (uncN b k) k = b := by unfold uncN covN; omega
/-- where ways meet: the value that comes there -/
theorem jn_v {A : Type} {K : A → Prop} {B : (A → Prop) → Prop} (v : A) (hk : K v) (hB : ∀ J : A → Prop, J v → B J) : jn K B := hB K hk
theorem jn_n {K : Prop} {B : Prop → Prop} (hB : ∀ J : Prop, B J) : jn K B := hB K
theorem jn_p {K : Prop} {B : Prop → Prop} (hk : K) (hB : ∀ J : Prop, J → B J) : jn K B := hB K hk
theorem jn_w {A B9 : Type} {K : A → B9 → Prop} {B : (A → B9 → Prop) → Prop} (v : A) (w : B9) (hk : K v w) (hB : ∀ J : A → B9 → Prop, J v w → B J) : jn K B := hB K hk
theorem jn_x {A : Type} {K : A → Prop} {B : (A → Prop) → Prop} (hB : ∀ J : A → Prop, B J) : jn K B := hB K
theorem lpn3 {A B : Type} {body : (A → B → Int32 → Prop) → A → B → Int32 → Prop} (N : Nat) (P : Nat → A → B → Prop) (step : ∀ (K : A → B → Int32 → Prop) (j : Nat) (x : A) (y : B), j < N → P j x y → (∀ x' y', P (j + 1) x' y' → K x' y' (nI (j + 1))) → body K x y (nI j)) (last : ∀ (K : A → B → Int32 → Prop) (x : A) (y : B), P N x y → body K x y (nI N)) {j : Nat} {x : A} {y : B} (hj : j ≤ N) (h : P j x y) : LP3 body x y (nI j) := by
  have key : ∀ (d j : Nat) (x : A) (y : B), j + d = N → P j x y → lpc (fun _ _ _ => False) body (d + 1) x y (nI j) := by
    intro d
    induction d with
    | zero => intro j x y hd hp; obtain rfl : j = N := by omega
              exact last _ x y hp
    | succ d ih => intro j x y hd hp; exact step _ j x y (by omega) hp (fun x' y' q => ih (j + 1) x' y' (by omega) q)
  exact ⟨_, key (N - j) j x y (by omega) h⟩
