/-! what changes the reference's rows -/
section
variable {v : Md} {T : AT} {g : Nat → Bool}
theorem r_envo {f f' : Nat → Int32} (H : RR f T g) (he : T.2.1 ≤ 12) (hf : ∀ k, 66 ≤ k → k < 66 + 4 * T.2.1 → f' k = f k) : ∀ j, j < T.2.1 → if g j then f' (66 + 4 * j) = nM else ∀ w, w < 4 → f' (66 + 4 * j + w) = nI (T.2.2.2.2.2.2.2.1 j w) := by
  intro j hj
  have h9 := H.2.2.2.2.2.2.2.2.2.1 j hj
  cases hg : g j
  · rw [hg] at h9
    intro w hw
    rw [hf _ (by omega) (by omega)]
    exact h9 w hw
  · rw [hg] at h9
    show f' (66 + 4 * j) = nM
    rw [hf _ (by omega) (by omega)]
    exact h9
theorem RR_open (H : RR v.2.1 T g0) (V : AV T g0) {i : Nat} (hi : i < 8) (b : Bool) : RR (upd v.2.1 (8 + i) (bI b)) (tTurn T i b) g0 := by
  have hn := v_n V
  have he := v_e V
  exact ⟨(by simp (disch := omega) only [upd_t, upd_f]; exact r_n (T := T) H), (by simp (disch := omega) only [upd_t, upd_f]; exact r_e (T := T) H), (by simp (disch := omega) only [upd_t, upd_f]; exact r_an (T := T) H), (fun k hk => by have hk : k < 5 := hk; simp (disch := omega) only [upd_t, upd_f]; exact r_ct (T := T) H hk), (fun k hk => by
    show _ = bI (if k = i then b else T.2.2.1 k)
    by_cases e : k = i
    · rw [if_pos e, e]; simp (disch := omega) only [upd_t]
    · rw [if_neg e]; simp (disch := omega) only [upd_f]; exact r_op (T := T) H hk), (fun i hi => by simp (disch := omega) only [upd_t, upd_f]; exact r_key (T := T) H hi), (fun r p hr h1 h2 => by have hr : r < T.1 := hr; simp (disch := omega) only [upd_t, upd_f]; exact r_ri (T := T) H hr h1 h2), (fun r p hr h1 h2 => by have hr : r < T.1 := hr; simp (disch := omega) only [upd_t, upd_f]; exact r_rk (T := T) H hr h1 h2), (fun r hr => by have hr : r < T.1 := hr; simp (disch := omega) only [upd_t, upd_f]; exact r_rh (T := T) H hr), (r_envo (T := T) H (by omega) (fun k hk1 hk2 => by simp (disch := omega) only [upd_t, upd_f])), (fun h hh => by simp (disch := omega) only [upd_t, upd_f]; exact r_lt (T := T) H hh), (fun h hh => by simp (disch := omega) only [upd_t, upd_f]; exact r_on (T := T) H hh)⟩
theorem RR_key (H : RR v.2.1 T g0) (V : AV T g0) {i x : Nat} (hi : i < 8) : RR (upd v.2.1 (16 + i) (nI x)) (tKey T i x) g0 := by
  have hn := v_n V
  have he := v_e V
  exact ⟨(by simp (disch := omega) only [upd_t, upd_f]; exact r_n (T := T) H), (by simp (disch := omega) only [upd_t, upd_f]; exact r_e (T := T) H), (by simp (disch := omega) only [upd_t, upd_f]; exact r_an (T := T) H), (fun k hk => by have hk : k < 5 := hk; simp (disch := omega) only [upd_t, upd_f]; exact r_ct (T := T) H hk), (fun i hi => by simp (disch := omega) only [upd_t, upd_f]; exact r_op (T := T) H hi), (fun k hk => by
    show _ = nI (if k = i then x else T.2.2.2.1 k)
    by_cases e : k = i
    · rw [if_pos e, e]; simp (disch := omega) only [upd_t]
    · rw [if_neg e]; simp (disch := omega) only [upd_f]; exact r_key (T := T) H hk), (fun r p hr h1 h2 => by have hr : r < T.1 := hr; simp (disch := omega) only [upd_t, upd_f]; exact r_ri (T := T) H hr h1 h2), (fun r p hr h1 h2 => by have hr : r < T.1 := hr; simp (disch := omega) only [upd_t, upd_f]; exact r_rk (T := T) H hr h1 h2), (fun r hr => by have hr : r < T.1 := hr; simp (disch := omega) only [upd_t, upd_f]; exact r_rh (T := T) H hr), (r_envo (T := T) H (by omega) (fun k hk1 hk2 => by simp (disch := omega) only [upd_t, upd_f])), (fun h hh => by simp (disch := omega) only [upd_t, upd_f]; exact r_lt (T := T) H hh), (fun h hh => by simp (disch := omega) only [upd_t, upd_f]; exact r_on (T := T) H hh)⟩
set_option maxHeartbeats 4000000 in
theorem X4_lays (H : RR v.2.1 T g0) (V : AV T g0) (hn : T.1 < 6) {a b c h : Nat} (ha : a < 8) (hb : b < 8) (hc : c < 8) {post : Int32 → Md → Prop} (hp : ∀ f, RR f (tLay T a b c h) g0 → (∀ k, 122 ≤ k → f k = v.2.1 k) → post (nI T.1) (v.1, f, v.2.2.1, v.2.2.2.1, v.2.2.2.2.1, v.2.2.2.2.2.1, v.2.2.2.2.2.2.1, v.2.2.2.2.2.2.2.1, v.2.2.2.2.2.2.2.2.1, v.2.2.2.2.2.2.2.2.2.1, v.2.2.2.2.2.2.2.2.2.2.1, v.2.2.2.2.2.2.2.2.2.2.2)) : wp_X4_lays v (nI a) (nI b) (nI c) (nI h) post := by
  have he := v_e V
  unfold wp_X4_lays
  simp (disch := omega) only [jn, Nat.reduceAdd, Nat.reduceSub, Nat.reduceMul, z0, z1, z2, z3, z4, z5, z6, z7, z8, z9, z10, z12, z16, z18, z24, z31, z33, z48, z49, z51, z53, z55, z57, z59, z60, z61, z63, z66, z97, z99, z111, z114, z115, z116, z118, z122, z126, z255, z854, z1000, z1111, z7143, z9999, z10000, zM, zMn, nI_add, pk_mul, zsub, zlt_t, zlt_f, zle_t, zle_f, zeq_t, zeq_f, zeM1, zeM2, zeM3, zltM, zleM, nI_clamp, zin, false_or, or_false, true_and, and_true, false_and, and_false, not_true_eq_false, not_false_eq_true, true_imp_iff, false_imp_iff, implies_true, if_true, if_false, M_thrown, M_s, M_saved, M_text, M_length, M_at, M_letter, M_first, M_second, M_third, M_fourth, M_hash, sM_thrown, sM_saved, sM_length, sM_at, sM_letter, sM_first, sM_second, sM_third, sM_fourth, sM_hash, aM_s, wM_s, aM_text, wM_text, r_n H, r_key H, upd_t, upd_f]
  rw [show T.1 + 1 - 1 = T.1 by omega]
  refine hp _ ?_ (fun k hk => by simp (disch := omega) only [upd_t, upd_f])
  refine ⟨(by simp (disch := omega) only [upd_t]; rfl), (by simp (disch := omega) only [upd_t, upd_f]; exact r_e (T := T) H), (by simp (disch := omega) only [upd_t, upd_f]; exact r_an (T := T) H), (fun k hk => by have hk : k < 5 := hk; simp (disch := omega) only [upd_t, upd_f]; exact r_ct (T := T) H hk), (fun i hi => by simp (disch := omega) only [upd_t, upd_f]; exact r_op (T := T) H hi), (fun i hi => by simp (disch := omega) only [upd_t, upd_f]; exact r_key (T := T) H hi), ?_, ?_, ?_, (r_envo (T := T) H (by omega) (fun k hk1 hk2 => by simp (disch := omega) only [upd_f])), (fun h hh => by simp (disch := omega) only [upd_t, upd_f]; exact r_lt (T := T) H hh), (fun h hh => by simp (disch := omega) only [upd_t, upd_f]; exact r_on (T := T) H hh)⟩
  · intro r p hr h1 h2
    have hr : r < T.1 + 1 := hr
    show _ = nI (if r = T.1 then sel3 a b c p else T.2.2.2.2.1 r p)
    by_cases e : r = T.1
    · subst e
      rw [if_pos rfl]
      rcases (show p = 1 ∨ p = 2 ∨ p = 3 by omega) with rfl | rfl | rfl <;> simp (disch := omega) only [upd_t, upd_f] <;> rfl
    · rw [if_neg e]
      simp (disch := omega) only [upd_t, upd_f]
      exact r_ri (T := T) H (by omega) h1 h2
  · intro r p hr h1 h2
    have hr : r < T.1 + 1 := hr
    show _ = nI (if r = T.1 then sel3 (T.2.2.2.1 a) (T.2.2.2.1 b) (T.2.2.2.1 c) p else T.2.2.2.2.2.1 r p)
    by_cases e : r = T.1
    · subst e
      rw [if_pos rfl]
      rcases (show p = 1 ∨ p = 2 ∨ p = 3 by omega) with rfl | rfl | rfl <;> simp (disch := omega) only [upd_t, upd_f] <;> rfl
    · rw [if_neg e]
      simp (disch := omega) only [upd_t, upd_f]
      exact r_rk (T := T) H (by omega) h1 h2
  · intro r hr
    have hr : r < T.1 + 1 := hr
    show _ = nI (if r = T.1 then h else T.2.2.2.2.2.2.1 r)
    by_cases e : r = T.1
    · rw [if_pos e]; simp (disch := omega) only [upd_t, upd_f]
    · rw [if_neg e]
      simp (disch := omega) only [upd_t, upd_f]
      exact r_rh (T := T) H (by omega)
theorem X4_puts (H : RR v.2.1 T g0) (V : AV T g0) (he : T.2.1 < 12) {c r p b d : Nat} (hc : c < 5) {post : Int32 → Md → Prop} (hp : ∀ f, RR f (tPut T c r p b d) g0 → (∀ k, 122 ≤ k → f k = v.2.1 k) → post (nI T.2.1) (v.1, f, v.2.2.1, v.2.2.2.1, v.2.2.2.2.1, v.2.2.2.2.2.1, v.2.2.2.2.2.2.1, v.2.2.2.2.2.2.2.1, v.2.2.2.2.2.2.2.2.1, v.2.2.2.2.2.2.2.2.2.1, v.2.2.2.2.2.2.2.2.2.2.1, v.2.2.2.2.2.2.2.2.2.2.2)) : wp_X4_puts (v.1, (upd v.2.1 (3 + c) (T.2.2.2.2.2.2.2.2.2.2.2 c + nI 1)), v.2.2.1, v.2.2.2.1, v.2.2.2.2.1, v.2.2.2.2.2.1, v.2.2.2.2.2.2.1, v.2.2.2.2.2.2.2.1, v.2.2.2.2.2.2.2.2.1, v.2.2.2.2.2.2.2.2.2.1, v.2.2.2.2.2.2.2.2.2.2.1, v.2.2.2.2.2.2.2.2.2.2.2) (nI r) (nI p) (nI b) (nI d) post := by
  have hn := v_n V
  unfold wp_X4_puts wp_X4_lay4
  simp (disch := omega) only [jn, Nat.reduceAdd, Nat.reduceSub, Nat.reduceMul, z0, z1, z2, z3, z4, z5, z6, z7, z8, z9, z10, z12, z16, z18, z24, z31, z33, z48, z49, z51, z53, z55, z57, z59, z60, z61, z63, z66, z97, z99, z111, z114, z115, z116, z118, z122, z126, z255, z854, z1000, z1111, z7143, z9999, z10000, zM, zMn, nI_add, pk_mul, zsub, zlt_t, zlt_f, zle_t, zle_f, zeq_t, zeq_f, zeM1, zeM2, zeM3, zltM, zleM, nI_clamp, zin, false_or, or_false, true_and, and_true, false_and, and_false, not_true_eq_false, not_false_eq_true, true_imp_iff, false_imp_iff, implies_true, if_true, if_false, M_thrown, M_s, M_saved, M_text, M_length, M_at, M_letter, M_first, M_second, M_third, M_fourth, M_hash, sM_thrown, sM_saved, sM_length, sM_at, sM_letter, sM_first, sM_second, sM_third, sM_fourth, sM_hash, aM_s, wM_s, aM_text, wM_text, r_e H, upd_t, upd_f]
  refine hp _ ?_ (fun k hk => by simp (disch := omega) only [upd_t, upd_f])
  refine ⟨(by simp (disch := omega) only [upd_t, upd_f]; exact r_n (T := T) H), (by simp (disch := omega) only [upd_t]; rfl), (by simp (disch := omega) only [upd_t, upd_f]; exact r_an (T := T) H), ?_, (fun i hi => by simp (disch := omega) only [upd_t, upd_f]; exact r_op (T := T) H hi), (fun i hi => by simp (disch := omega) only [upd_t, upd_f]; exact r_key (T := T) H hi), (fun r p hr h1 h2 => by have hr : r < T.1 := hr; simp (disch := omega) only [upd_t, upd_f]; exact r_ri (T := T) H hr h1 h2), (fun r p hr h1 h2 => by have hr : r < T.1 := hr; simp (disch := omega) only [upd_t, upd_f]; exact r_rk (T := T) H hr h1 h2), (fun r hr => by have hr : r < T.1 := hr; simp (disch := omega) only [upd_t, upd_f]; exact r_rh (T := T) H hr), ?_, (fun h hh => by simp (disch := omega) only [upd_t, upd_f]; exact r_lt (T := T) H hh), (fun h hh => by simp (disch := omega) only [upd_t, upd_f]; exact r_on (T := T) H hh)⟩
  · intro k hk
    have hk : k < 5 := hk
    show _ = if k = c then T.2.2.2.2.2.2.2.2.2.2.2 k + nI 1 else T.2.2.2.2.2.2.2.2.2.2.2 k
    by_cases e : k = c
    · rw [if_pos e, e]; simp (disch := omega) only [upd_t, upd_f]
    · rw [if_neg e]; simp (disch := omega) only [upd_t, upd_f]; exact r_ct (T := T) H hk
  · intro j hj
    have hj : j < T.2.1 + 1 := hj
    show ∀ w, w < 4 → _ = nI (if j = T.2.1 then sel4 r p b d w else T.2.2.2.2.2.2.2.1 j w)
    intro w hw
    by_cases e : j = T.2.1
    · subst e
      rw [if_pos rfl]
      rcases (show w = 0 ∨ w = 1 ∨ w = 2 ∨ w = 3 by omega) with rfl | rfl | rfl | rfl <;> simp (disch := omega) only [upd_t, upd_f] <;> rfl
    · rw [if_neg e]
      simp (disch := omega) only [upd_t, upd_f]
      exact r_ev (T := T) H (by omega) rfl hw
theorem X4_sends (H : RR v.2.1 T g0) (V : AV T g0) (he : T.2.1 < 12) {r b : Nat} (hr : r < T.1) (hb : b < 10000) {post : Int32 → Md → Prop} (hp : ∀ f, RR f (tPut T 0 r 0 (nest T r b) 0) g0 → (∀ k, 122 ≤ k → f k = v.2.1 k) → post (nI T.2.1) (v.1, f, v.2.2.1, v.2.2.2.1, v.2.2.2.2.1, v.2.2.2.2.2.1, v.2.2.2.2.2.2.1, v.2.2.2.2.2.2.2.1, v.2.2.2.2.2.2.2.2.1, v.2.2.2.2.2.2.2.2.2.1, v.2.2.2.2.2.2.2.2.2.2.1, v.2.2.2.2.2.2.2.2.2.2.2)) : wp_X4_sends v (nI r) (nI b) post := by
  have k1 := v_rk V hr (p := 1) (by omega) (by omega)
  have k2 := v_rk V hr (p := 2) (by omega) (by omega)
  have k3 := v_rk V hr (p := 3) (by omega) (by omega)
  have m1 : ∀ a, 1 ≤ a → nI a + nM = nI (a - 1) := fun a h => zaM h
  have c3 : v.2.1 3 = T.2.2.2.2.2.2.2.2.2.2.2 0 := r_ct H (k := 0) (by omega)
  have main := X4_puts (c := 0) (r := r) (p := 0) (b := nest T r b) (d := 0) H V he (by omega) hp
  unfold wp_X4_sends
  rw [z3, zin (by decide) (by decide)]
  refine ⟨5, ?_⟩
  simp (disch := omega) only [lpc, jn, Nat.reduceAdd, Nat.reduceSub, Nat.reduceMul, z0, z1, z2, z3, z4, z5, z6, z7, z8, z9, z10, z12, z16, z18, z24, z31, z33, z48, z49, z51, z53, z55, z57, z59, z60, z61, z63, z66, z97, z99, z111, z114, z115, z116, z118, z122, z126, z255, z854, z1000, z1111, z7143, z9999, z10000, zM, zMn, nI_add, pk_mul, zsub, zlt_t, zlt_f, zle_t, zle_f, zeq_t, zeq_f, zeM1, zeM2, zeM3, zltM, zleM, nI_clamp, zin, false_or, or_false, true_and, and_true, false_and, and_false, not_true_eq_false, not_false_eq_true, true_imp_iff, false_imp_iff, implies_true, if_true, if_false, M_thrown, M_s, M_saved, M_text, M_length, M_at, M_letter, M_first, M_second, M_third, M_fourth, M_hash, sM_thrown, sM_saved, sM_length, sM_at, sM_letter, sM_first, sM_second, sM_third, sM_fourth, sM_hash, aM_s, wM_s, aM_text, wM_text, m1, X4_keyOf H V hr, c3]
  refine X4_covered hb k3 ?_
  refine X4_covered (covN_lt _ _) k2 ?_
  refine X4_covered (covN_lt _ _) k1 ?_
  exact main
theorem X4_answers (H : RR v.2.1 T g0) (V : AV T g0) (he : T.2.1 < 12) {h r b : Nat} (hh : h < 4) (hr : T.2.2.2.2.2.2.2.2.2.1 h = nI r) {post : Int32 → Md → Prop} (hp : ∀ f, RR f (tPut T 2 r 4 b 1) g0 → (∀ k, 122 ≤ k → f k = v.2.1 k) → post (nI T.2.1) (v.1, f, v.2.2.1, v.2.2.2.1, v.2.2.2.2.1, v.2.2.2.2.2.1, v.2.2.2.2.2.2.1, v.2.2.2.2.2.2.2.1, v.2.2.2.2.2.2.2.2.1, v.2.2.2.2.2.2.2.2.2.1, v.2.2.2.2.2.2.2.2.2.2.1, v.2.2.2.2.2.2.2.2.2.2.2)) : wp_X4_answers v (nI h) (nI b) post := by
  have c5 : v.2.1 5 = T.2.2.2.2.2.2.2.2.2.2.2 2 := r_ct H (k := 2) (by omega)
  have main := X4_puts (c := 2) (r := r) (p := 4) (b := b) (d := 1) H V he (by omega) hp
  have ho := r_on H hh
  unfold wp_X4_answers
  simp (disch := omega) only [jn, Nat.reduceAdd, Nat.reduceSub, Nat.reduceMul, z0, z1, z2, z3, z4, z5, z6, z7, z8, z9, z10, z12, z16, z18, z24, z31, z33, z48, z49, z51, z53, z55, z57, z59, z60, z61, z63, z66, z97, z99, z111, z114, z115, z116, z118, z122, z126, z255, z854, z1000, z1111, z7143, z9999, z10000, zM, zMn, nI_add, pk_mul, zsub, zlt_t, zlt_f, zle_t, zle_f, zeq_t, zeq_f, zeM1, zeM2, zeM3, zltM, zleM, nI_clamp, zin, false_or, or_false, true_and, and_true, false_and, and_false, not_true_eq_false, not_false_eq_true, true_imp_iff, false_imp_iff, implies_true, if_true, if_false, M_thrown, M_s, M_saved, M_text, M_length, M_at, M_letter, M_first, M_second, M_third, M_fourth, M_hash, sM_thrown, sM_saved, sM_length, sM_at, sM_letter, sM_first, sM_second, sM_third, sM_fourth, sM_hash, aM_s, wM_s, aM_text, wM_text, c5, upd_t, upd_f, ho, hr]
  exact main
/-! one move -/
theorem RR_hall (H : RR v.2.1 T g) (V : AV T g) {i : Nat} (hi : i < T.2.1) (hg : g i = false) {p : Int32} : RR (upd (upd (upd (upd (upd v.2.1 (66 + 4 * i + 1) p) (114 + T.2.2.2.2.2.2.1 (T.2.2.2.2.2.2.2.1 i 0)) (nI (T.2.2.2.2.2.2.2.1 i 2))) (118 + T.2.2.2.2.2.2.1 (T.2.2.2.2.2.2.2.1 i 0)) (nI (T.2.2.2.2.2.2.2.1 i 0))) 4 (T.2.2.2.2.2.2.2.2.2.2.2 1 + nI 1)) (66 + 4 * i + 0) nM) (tHall T i) (gU g i true) := by
  have hn := v_n V
  have he := v_e V
  have hh9 := v_rh V (v_ev V hi hg).1
  exact ⟨(by simp (disch := omega) only [upd_t, upd_f]; exact r_n (T := T) H), (by simp (disch := omega) only [upd_t, upd_f]; exact r_e (T := T) H), (by simp (disch := omega) only [upd_t, upd_f]; exact r_an (T := T) H), (fun k hk => by
    have hk : k < 5 := hk
    show _ = if k = 1 then T.2.2.2.2.2.2.2.2.2.2.2 k + nI 1 else T.2.2.2.2.2.2.2.2.2.2.2 k
    by_cases e : k = 1
    · rw [if_pos e, e]; simp (disch := omega) only [upd_t, upd_f]
    · rw [if_neg e]; simp (disch := omega) only [upd_t, upd_f]; exact r_ct (T := T) H hk), (fun i hi => by simp (disch := omega) only [upd_t, upd_f]; exact r_op (T := T) H hi), (fun i hi => by simp (disch := omega) only [upd_t, upd_f]; exact r_key (T := T) H hi), (fun r p hr h1 h2 => by have hr : r < T.1 := hr; simp (disch := omega) only [upd_t, upd_f]; exact r_ri (T := T) H hr h1 h2), (fun r p hr h1 h2 => by have hr : r < T.1 := hr; simp (disch := omega) only [upd_t, upd_f]; exact r_rk (T := T) H hr h1 h2), (fun r hr => by have hr : r < T.1 := hr; simp (disch := omega) only [upd_t, upd_f]; exact r_rh (T := T) H hr), (fun j hj => by
    have hj : j < T.2.1 := hj
    show if (if j = i then true else g j) then _ else _
    by_cases e : j = i
    · subst e
      simp only [if_true]
      simp (disch := omega) only [upd_t, upd_f]
    · rw [if_neg e]
      have h9 := H.2.2.2.2.2.2.2.2.2.1 j hj
      cases hgj : g j
      · rw [hgj] at h9
        intro w hw
        simp (disch := omega) only [upd_t, upd_f]
        exact h9 w hw
      · rw [hgj] at h9
        simp only [if_true]
        simp (disch := omega) only [upd_t, upd_f]
        exact h9), (fun h hh => by
    show _ = if h = T.2.2.2.2.2.2.1 (T.2.2.2.2.2.2.2.1 i 0) then nI (T.2.2.2.2.2.2.2.1 i 2) else T.2.2.2.2.2.2.2.2.1 h
    by_cases e : h = T.2.2.2.2.2.2.1 (T.2.2.2.2.2.2.2.1 i 0)
    · rw [if_pos e, e]; simp (disch := omega) only [upd_t, upd_f]
    · rw [if_neg e]; simp (disch := omega) only [upd_t, upd_f]; exact r_lt (T := T) H hh), (fun h hh => by
    show _ = if h = T.2.2.2.2.2.2.1 (T.2.2.2.2.2.2.2.1 i 0) then nI (T.2.2.2.2.2.2.2.1 i 0) else T.2.2.2.2.2.2.2.2.2.1 h
    by_cases e : h = T.2.2.2.2.2.2.1 (T.2.2.2.2.2.2.2.1 i 0)
    · rw [if_pos e, e]; simp (disch := omega) only [upd_t, upd_f]
    · rw [if_neg e]; simp (disch := omega) only [upd_t, upd_f]; exact r_on (T := T) H hh)⟩
theorem RR_trav (H : RR v.2.1 T g) (V : AV T g) {i : Nat} (hi : i < T.2.1) {p : Int32} : RR (upd (upd (upd (upd v.2.1 (66 + 4 * i + 1) p) 2 (nI (unc3 T i))) 6 (T.2.2.2.2.2.2.2.2.2.2.2 3 + nI 1)) (66 + 4 * i + 0) nM) (tTrav T i) (gU g i true) := by
  have hn := v_n V
  have he := v_e V
  exact ⟨(by simp (disch := omega) only [upd_t, upd_f]; exact r_n (T := T) H), (by simp (disch := omega) only [upd_t, upd_f]; exact r_e (T := T) H), (by simp (disch := omega) only [upd_t, upd_f]; rfl), (fun k hk => by
    have hk : k < 5 := hk
    show _ = if k = 3 then T.2.2.2.2.2.2.2.2.2.2.2 k + nI 1 else T.2.2.2.2.2.2.2.2.2.2.2 k
    by_cases e : k = 3
    · rw [if_pos e, e]; simp (disch := omega) only [upd_t, upd_f]
    · rw [if_neg e]; simp (disch := omega) only [upd_t, upd_f]; exact r_ct (T := T) H hk), (fun i hi => by simp (disch := omega) only [upd_t, upd_f]; exact r_op (T := T) H hi), (fun i hi => by simp (disch := omega) only [upd_t, upd_f]; exact r_key (T := T) H hi), (fun r p hr h1 h2 => by have hr : r < T.1 := hr; simp (disch := omega) only [upd_t, upd_f]; exact r_ri (T := T) H hr h1 h2), (fun r p hr h1 h2 => by have hr : r < T.1 := hr; simp (disch := omega) only [upd_t, upd_f]; exact r_rk (T := T) H hr h1 h2), (fun r hr => by have hr : r < T.1 := hr; simp (disch := omega) only [upd_t, upd_f]; exact r_rh (T := T) H hr), (fun j hj => by
    have hj : j < T.2.1 := hj
    show if (if j = i then true else g j) then _ else _
    by_cases e : j = i
    · subst e
      simp only [if_true]
      simp (disch := omega) only [upd_t, upd_f]
    · rw [if_neg e]
      have h9 := H.2.2.2.2.2.2.2.2.2.1 j hj
      cases hgj : g j
      · rw [hgj] at h9
        intro w hw
        simp (disch := omega) only [upd_t, upd_f]
        exact h9 w hw
      · rw [hgj] at h9
        simp only [if_true]
        simp (disch := omega) only [upd_t, upd_f]
        exact h9), (fun h hh => by simp (disch := omega) only [upd_t, upd_f]; exact r_lt (T := T) H hh), (fun h hh => by simp (disch := omega) only [upd_t, upd_f]; exact r_on (T := T) H hh)⟩
theorem RR_lost (H : RR v.2.1 T g) (V : AV T g) {i : Nat} (hi : i < T.2.1) {p : Int32} : RR (upd (upd (upd v.2.1 (66 + 4 * i + 1) p) 7 (T.2.2.2.2.2.2.2.2.2.2.2 4 + nI 1)) (66 + 4 * i + 0) nM) (tLost T) (gU g i true) := by
  have hn := v_n V
  have he := v_e V
  exact ⟨(by simp (disch := omega) only [upd_t, upd_f]; exact r_n (T := T) H), (by simp (disch := omega) only [upd_t, upd_f]; exact r_e (T := T) H), (by simp (disch := omega) only [upd_t, upd_f]; exact r_an (T := T) H), (fun k hk => by
    have hk : k < 5 := hk
    show _ = if k = 4 then T.2.2.2.2.2.2.2.2.2.2.2 k + nI 1 else T.2.2.2.2.2.2.2.2.2.2.2 k
    by_cases e : k = 4
    · rw [if_pos e, e]; simp (disch := omega) only [upd_t, upd_f]
    · rw [if_neg e]; simp (disch := omega) only [upd_t, upd_f]; exact r_ct (T := T) H hk), (fun i hi => by simp (disch := omega) only [upd_t, upd_f]; exact r_op (T := T) H hi), (fun i hi => by simp (disch := omega) only [upd_t, upd_f]; exact r_key (T := T) H hi), (fun r p hr h1 h2 => by have hr : r < T.1 := hr; simp (disch := omega) only [upd_t, upd_f]; exact r_ri (T := T) H hr h1 h2), (fun r p hr h1 h2 => by have hr : r < T.1 := hr; simp (disch := omega) only [upd_t, upd_f]; exact r_rk (T := T) H hr h1 h2), (fun r hr => by have hr : r < T.1 := hr; simp (disch := omega) only [upd_t, upd_f]; exact r_rh (T := T) H hr), (fun j hj => by
    have hj : j < T.2.1 := hj
    show if (if j = i then true else g j) then _ else _
    by_cases e : j = i
    · subst e
      simp only [if_true]
      simp (disch := omega) only [upd_t, upd_f]
    · rw [if_neg e]
      have h9 := H.2.2.2.2.2.2.2.2.2.1 j hj
      cases hgj : g j
      · rw [hgj] at h9
        intro w hw
        simp (disch := omega) only [upd_t, upd_f]
        exact h9 w hw
      · rw [hgj] at h9
        simp only [if_true]
        simp (disch := omega) only [upd_t, upd_f]
        exact h9), (fun h hh => by simp (disch := omega) only [upd_t, upd_f]; exact r_lt (T := T) H hh), (fun h hh => by simp (disch := omega) only [upd_t, upd_f]; exact r_on (T := T) H hh)⟩
theorem RR_step (H : RR v.2.1 T g) (V : AV T g) {i : Nat} (hi : i < T.2.1) (hg : g i = false) : RR (upd (upd v.2.1 (66 + 4 * i + 1) (nI (mvP T i))) (66 + 4 * i + 2) (nI (mvB T i))) (tStep T i) (gU g i false) := by
  have hn := v_n V
  have he := v_e V
  exact ⟨(by simp (disch := omega) only [upd_t, upd_f]; exact r_n (T := T) H), (by simp (disch := omega) only [upd_t, upd_f]; exact r_e (T := T) H), (by simp (disch := omega) only [upd_t, upd_f]; exact r_an (T := T) H), (fun k hk => by have hk : k < 5 := hk; simp (disch := omega) only [upd_t, upd_f]; exact r_ct (T := T) H hk), (fun i hi => by simp (disch := omega) only [upd_t, upd_f]; exact r_op (T := T) H hi), (fun i hi => by simp (disch := omega) only [upd_t, upd_f]; exact r_key (T := T) H hi), (fun r p hr h1 h2 => by have hr : r < T.1 := hr; simp (disch := omega) only [upd_t, upd_f]; exact r_ri (T := T) H hr h1 h2), (fun r p hr h1 h2 => by have hr : r < T.1 := hr; simp (disch := omega) only [upd_t, upd_f]; exact r_rk (T := T) H hr h1 h2), (fun r hr => by have hr : r < T.1 := hr; simp (disch := omega) only [upd_t, upd_f]; exact r_rh (T := T) H hr), (fun j hj => by
    show if (if j = i then false else g j) then _ else ∀ w, w < 4 → _ = nI (if j = i then sel4 (T.2.2.2.2.2.2.2.1 i 0) (mvP T i) (mvB T i) (T.2.2.2.2.2.2.2.1 i 3) w else T.2.2.2.2.2.2.2.1 j w)
    by_cases e : j = i
    · subst e
      simp only [if_true]
      intro w hw
      rcases (show w = 0 ∨ w = 1 ∨ w = 2 ∨ w = 3 by omega) with rfl | rfl | rfl | rfl <;> simp (disch := omega) only [upd_t, upd_f, r_ev H hj hg] <;> rfl
    · rw [if_neg e]
      have h9 := H.2.2.2.2.2.2.2.2.2.1 j hj
      cases hgj : g j
      · rw [hgj] at h9
        intro w hw
        rw [if_neg e]
        simp (disch := omega) only [upd_t, upd_f]
        exact h9 w hw
      · rw [hgj] at h9
        simp only [if_true]
        simp (disch := omega) only [upd_t, upd_f]
        exact h9), (fun h hh => by simp (disch := omega) only [upd_t, upd_f]; exact r_lt (T := T) H hh), (fun h hh => by simp (disch := omega) only [upd_t, upd_f]; exact r_on (T := T) H hh)⟩
end
