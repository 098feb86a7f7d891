/-! more ways to call -/
theorem perm_kk {α : Type} (ws : List α) (i j : Nat) {x y : α} (hx : ws[i]? = some x) (hy : ws[j]? = some y) (hij : i ≠ j) : ∃ wr, ws.Perm ([x, y] ++ wr) ∧ ∀ y', ([x, y'] ++ wr).Perm (ws.set j y') := by
  have hm : x ∈ ws.eraseIdx j := by
    rcases Nat.lt_or_ge i j with h | h
    · exact List.mem_of_getElem? (i := i) (by rw [List.getElem?_eraseIdx_of_lt h]; exact hx)
    · have h2 : j < i := by omega
      exact List.mem_of_getElem? (i := i - 1) (by rw [List.getElem?_eraseIdx_of_ge (by omega), show i - 1 + 1 = i by omega]; exact hx)
  obtain ⟨s, t, he⟩ := List.append_of_mem hm
  refine ⟨s ++ t, ?_, fun y' => ?_⟩
  · exact ((perm_k ws j hy).trans ((by rw [he]; exact List.perm_middle : (ws.eraseIdx j).Perm (x :: (s ++ t))).cons y)).trans (List.Perm.swap x y _)
  · exact (List.Perm.swap y' x _).trans ((((by rw [he]; exact List.perm_middle : (ws.eraseIdx j).Perm (x :: (s ++ t))).symm).cons y').trans (perm_set ws j y' hy))
abbrev rm_J7_fill_53178 : Room := { frames := 0, cells := 0, slots := 0, locals := 0 }
abbrev rm_X3_copyRow : Room := { frames := 1, cells := 0, slots := 0, locals := 60 }
abbrev rm_X2_become : Room := { frames := 2, cells := 0, slots := 0, locals := 81 }
theorem q_35 : Cond.initialized "java/lang/System" ∈ wsT := tw 35 (by decide +kernel) rfl
theorem q_231 : Cond.static yX3_copyRow ∈ wsT := tw 231 (by decide +kernel) rfl
theorem q_232 : Cond.code yX3_copyRow cX3_copyRow 2 none ∈ wsT := tw 232 (by decide +kernel) rfl
theorem q_233 : Cond.methodLink RX3 268 yJ9_min_7cf53 ∈ wsT := tw 233 (by decide +kernel) rfl
theorem q_234 : Cond.static yJ9_min_7cf53 ∈ wsT := tw 234 (by decide +kernel) rfl
theorem q_235 : Cond.code yJ9_min_7cf53 cJ9_min_7cf53 2 (some .int) ∈ wsT := tw 235 (by decide +kernel) rfl
theorem q_236 : Cond.methodLink RX3 271 arraycopyName ∈ wsT := tw 236 (by decide +kernel) rfl
theorem q_237 : Cond.static arraycopyName ∈ wsT := tw 237 (by decide +kernel) rfl
theorem q_238 : Cond.native arraycopyName ∈ wsT := tw 238 (by decide +kernel) rfl
theorem cw_X3_268 {R : Room} {s : State} {args : Array Value} (hts : ∀ w ∈ wsT, w.before args s = true) (hf : 0 + 1 ≤ R.frames) (hl : 8 + (2 + 11) + 0 ≤ R.locals) : CallB R s args RX3 268 yJ9_min_7cf53 cJ9_min_7cf53 2 (some .int) (wsA yJ9_min_7cf53 cJ9_min_7cf53 2 (some .int)) rm_J9_min_7cf53 0 0 2 ∧ (Cond.static yJ9_min_7cf53).before args s = true := cwAS 2 hts q_233 q_234 q_34 q_235 rfl rfl (by decide +kernel) ⟨hf, hl⟩
theorem cw_X2_49 {R : Room} {s : State} {args : Array Value} (hts : ∀ w ∈ wsT, w.before args s = true) (hN : va_Nw (.methodLinkNest RX2 49 yX3_copyRow RX3) s) (hf : 1 + 1 ≤ R.frames) (hl : 8 + (2 + 11) + 60 ≤ R.locals) : va_CN R s args RX2 49 yX3_copyRow RX3 cX3_copyRow 2 none (wsA yX3_copyRow cX3_copyRow 2 none) rm_X3_copyRow 0 0 2 ∧ (Cond.static yX3_copyRow).before args s = true := cwAN 2 hts hN q_231 q_23 q_232 rfl rfl (by decide +kernel) ⟨hf, hl⟩
def wp_J7_fill_53178 (n0 : Nat) (f0 : Nat → Int32) (p1 : Int32) (post : (Nat → Int32) → Prop) : Prop :=
  LP2 (fun (K3 : Int32 → (Nat → Int32) → Prop) (x1 : Int32) (f2 : (Nat → Int32)) => ((nI n0) ≤ x1 → post f2) ∧ (¬ (nI n0) ≤ x1 → (vp_in x1 n0) ∧ (K3 (x1 + 1) (upd f2 (Int32.toNatClampNeg x1) p1)))) (0 : Int32) f0
set_option maxHeartbeats 4000000 in
set_option maxRecDepth 100000 in
theorem c_J7_fill_53178 (l : Launch) (D : va_G) (cI cS cJ : ClassId) (r0 : Nat) (n0 : Nat) (f0 : Nat → Int32) (sz : Nat) (p1 : Int32) {post : (Nat → Int32) → Prop} (h : wp_J7_fill_53178 n0 f0 p1 post) : Met l yJ7_fill_53178 (wsA yJ7_fill_53178 cJ7_fill_53178 4 none) rm_J7_fill_53178 (va_Pc [.ref r0, .int p1] (rwP D (tysA cI cS cJ) ([(r0, .inl (cI, n0, .inl f0))]) sz)) (va_Qv post (fun u9 t => va_P D vwCl ((fun f9 => [(r0, .inl (cI, n0, .inl f9))]) u9) t.heap ∧ va_D (va_A ([(r0, .inl (cI, n0, .inl f0))]) sz) ((fun f9 => [(r0, .inl (cI, n0, .inl f9))]) u9)) (va_A ([(r0, .inl (cI, n0, .inl f0))]) sz)) 0 0 (va_A ([(r0, .inl (cI, n0, .inl f0))]) sz) := by
  refine mkRWv (wf := (fun f9 => [(r0, .inl (cI, n0, .inl f9))])) (by decide +kernel) (Nat.le_of_ble_eq_true rfl) (fun {p e s m args below meth c Q ls A H0 H locs} hx hb F hts hown hin hK hP hD hS hA hl hQ => ?_)
  have hown : s.vm.findClass RJ7 = some m.cls := hown
  have F : CallFix p m c cJ7_fill_53178 4 s args wsT RJ7 := F
  have hl : lv_has ls 4 [(0, .ref r0), (1, .int p1)] := hl
  unfold wp_J7_fill_53178 at h
  refine lv_iconst (v := (0 : Int32)) hx hb dJ7_fill_53178_0 (by decide) ?_
  refine lv_istore_n (lv' := [(2, .int (0 : Int32)), (0, .ref r0), (1, .int p1)]) hx hb dJ7_fill_53178_1 rfl hl (by decide) rfl (fun ls hl => ?_)
  refine lv_aload_n hx hb dJ7_fill_53178_2 rfl (lv_at hl 1 rfl) ?_
  refine va_alen (v := (nI n0)) hx hb hK.k hP 0 0 rfl rfl rfl dJ7_fill_53178_3 ?_
  refine lv_istore_n (lv' := [(3, .int (nI n0)), (2, .int (0 : Int32)), (0, .ref r0), (1, .int p1)]) hx hb dJ7_fill_53178_4 rfl hl (by decide) rfl (fun ls hl => ?_)
  refine lpu2 h (fun K3 : Int32 → (Nat → Int32) → Prop => ∀ (x1 : Int32) (f2 : (Nat → Int32)) (ls : Array Slot) (H : Heap) (locs : List Loc), lv_has ls 4 [(0, .ref r0), (1, .int p1), (2, .int x1), (3, .int (nI n0))] → va_P D vwCl ([(r0, .inl (cI, n0, .inl f2))]) H → va_D A ([(r0, .inl (cI, n0, .inl f2))]) → va_S A H0 H locs → K3 x1 f2 → W p l e rm_J7_fill_53178 s m args below meth c H locs 0 0 Q (F0 m 5 ls [])) ?_ ?_ ?_
  · intro x1 f2 ls H locs hl hP hD hS h
    exact h.elim
  · intro K3
    intro w4 x1 f2 ls H locs hl hP hD hS h
    refine lv_iload_n hx hb dJ7_fill_53178_5 rfl (lv_at hl 2 rfl) ?_
    refine lv_iload_n hx hb dJ7_fill_53178_6 rfl (lv_at hl 3 rfl) ?_
    refine lv_icmp_ge (tgt := 20) hx hb dJ7_fill_53178_7 (by decide) (fun c5 => ?_) (fun c5 => ?_)
    · replace h := h.1 c5
      exact hQ h hP hD hS dJ7_fill_53178_20
    · replace h := h.2 c5
      refine lv_aload_n hx hb dJ7_fill_53178_10 rfl (lv_at hl 0 rfl) ?_
      refine lv_iload_n hx hb dJ7_fill_53178_11 rfl (lv_at hl 2 rfl) ?_
      refine lv_iload_n hx hb dJ7_fill_53178_12 rfl (lv_at hl 1 rfl) ?_
      refine va_iast hx hb hK.k hP hD hS 0 0 rfl rfl h.1 dJ7_fill_53178_13 (fun H locs hP hD hS => ?_)
      replace h := h.2
      have hP : va_P D vwCl ([(r0, .inl (cI, n0, .inl (upd f2 (Int32.toNatClampNeg x1) p1)))]) H := hP
      have hD : va_D A ([(r0, .inl (cI, n0, .inl (upd f2 (Int32.toNatClampNeg x1) p1)))]) := hD
      refine lv_iinc (v := (x1 + 1)) (lv' := [(2, .int (x1 + 1)), (0, .ref r0), (1, .int p1), (3, .int (nI n0))]) hx hb dJ7_fill_53178_14 hl (k := 2) rfl rfl (by decide) rfl (fun ls hl => ?_)
      refine lv_goto (tgt := 5) hx hb dJ7_fill_53178_17 (by decide) ?_
      exact w4 (x1 + 1) (upd f2 (Int32.toNatClampNeg x1) p1) _ _ _ (lv_sub hl [1, 2, 0, 3] rfl) hP hD hS h
  · intro K3 w4 h
    exact w4 (0 : Int32) f0 _ _ _ (lv_sub hl [2, 3, 1, 0] rfl) hP hD hS h

def wp_X3_copyRow (n0 : Nat) (f0 : Nat → Int32) (n1 : Nat) (f1 : Nat → Int32)  (post : (Nat → Int32) → Prop) : Prop :=
  wp_J9_min_7cf53 (nI n0) (nI n1) (fun r1 => (¬ r1 < 0) ∧ ((Int32.toNatClampNeg (0 : Int32)) + (Int32.toNatClampNeg r1) ≤ n0) ∧ ((Int32.toNatClampNeg (0 : Int32)) + (Int32.toNatClampNeg r1) ≤ n1) ∧ (post (va_cpy f0 f1 (Int32.toNatClampNeg (0 : Int32)) (Int32.toNatClampNeg (0 : Int32)) (Int32.toNatClampNeg r1))))
set_option maxHeartbeats 4000000 in
set_option maxRecDepth 100000 in
theorem c_X3_copyRow (l : Launch) (D : va_G) (cI cS cJ : ClassId) (r0 : Nat) (n0 : Nat) (f0 : Nat → Int32) (rr1 : Nat) (n1 : Nat) (f1 : Nat → Int32) (sz : Nat)  {post : (Nat → Int32) → Prop} (h : wp_X3_copyRow n0 f0 n1 f1 post) : Met l yX3_copyRow (wsA yX3_copyRow cX3_copyRow 2 none) rm_X3_copyRow (va_Pc [.ref r0, .ref rr1] (rwP D (tysA cI cS cJ) ([(r0, .inl (cI, n0, .inl f0)), (rr1, .inl (cI, n1, .inl f1))]) sz)) (va_Qv post (fun u9 t => va_P D vwCl ((fun f9 => [(r0, .inl (cI, n0, .inl f0)), (rr1, .inl (cI, n1, .inl f9))]) u9) t.heap ∧ va_D (va_A ([(r0, .inl (cI, n0, .inl f0)), (rr1, .inl (cI, n1, .inl f1))]) sz) ((fun f9 => [(r0, .inl (cI, n0, .inl f0)), (rr1, .inl (cI, n1, .inl f9))]) u9)) (va_A ([(r0, .inl (cI, n0, .inl f0)), (rr1, .inl (cI, n1, .inl f1))]) sz)) 0 0 (va_A ([(r0, .inl (cI, n0, .inl f0)), (rr1, .inl (cI, n1, .inl f1))]) sz) := by
  refine mkRWv (wf := (fun f9 => [(r0, .inl (cI, n0, .inl f0)), (rr1, .inl (cI, n1, .inl f9))])) (by decide +kernel) (Nat.le_of_ble_eq_true rfl) (fun {p e s m args below meth c Q ls A H0 H locs} hx hb F hts hown hin hK hP hD hS hA hl hQ => ?_)
  have hown : s.vm.findClass RX3 = some m.cls := hown
  have F : CallFix p m c cX3_copyRow 2 s args wsT RX3 := F
  have hl : lv_has ls 2 [(0, .ref r0), (1, .ref rr1)] := hl
  unfold wp_X3_copyRow at h
  refine lv_aload_n hx hb dX3_copyRow_0 rfl (lv_at hl 0 rfl) ?_
  refine lv_iconst (v := (0 : Int32)) hx hb dX3_copyRow_1 (by decide) ?_
  refine lv_aload_n hx hb dX3_copyRow_2 rfl (lv_at hl 1 rfl) ?_
  refine lv_iconst (v := (0 : Int32)) hx hb dX3_copyRow_3 (by decide) ?_
  refine lv_aload_n hx hb dX3_copyRow_4 rfl (lv_at hl 0 rfl) ?_
  refine va_alen (v := (nI n0)) hx hb hK.k hP 0 0 rfl rfl rfl dX3_copyRow_5 ?_
  refine lv_aload_n hx hb dX3_copyRow_6 rfl (lv_at hl 1 rfl) ?_
  refine va_alen (v := (nI n1)) hx hb hK.k hP 1 0 rfl rfl rfl dX3_copyRow_7 ?_
  refine roSi (As := [.int (nI n0), .int (nI n1)]) (rest := [.int (0 : Int32), .ref rr1, .int (0 : Int32), .ref r0]) F (c_J9_min_7cf53 l D cI cS cJ H (nI n0) (nI n1) h) (cw_X3_268 hts (Nat.le_of_ble_eq_true rfl) (Nat.le_of_ble_eq_true rfl)) hK vP_nil rfl hl.1 rfl (Nat.le_of_ble_eq_true rfl) dX3_copyRow_8 ⟨Nat.zero_le _, Nat.zero_le _⟩ (fun r1 h => ?_)
  refine va_copyi hx hb (F.2.2.1.trans hl.1.symm) hown (hts _ q_236) (hts _ q_238) (hts _ q_237) (hts _ q_35) hK.k hP hD hS 0 1 0 0 rfl rfl rfl rfl rfl (by decide) (by decide) h.1 h.2.1 h.2.2.1 (fun _ _ => rfl) (Nat.le_of_ble_eq_true rfl) (by decide +kernel) dX3_copyRow_11 (fun H locs hP hD hS => ?_)
  replace h := h.2.2.2
  have hP : va_P D vwCl ([(r0, .inl (cI, n0, .inl f0)), (rr1, .inl (cI, n1, .inl (va_cpy f0 f1 (Int32.toNatClampNeg (0 : Int32)) (Int32.toNatClampNeg (0 : Int32)) (Int32.toNatClampNeg r1))))]) H := hP
  have hD : va_D A ([(r0, .inl (cI, n0, .inl f0)), (rr1, .inl (cI, n1, .inl (va_cpy f0 f1 (Int32.toNatClampNeg (0 : Int32)) (Int32.toNatClampNeg (0 : Int32)) (Int32.toNatClampNeg r1))))]) := hD
  exact hQ h hP hD hS dX3_copyRow_14

def wp_X2_become (u : St) (w : St)  (post : St → Prop) : Prop :=
  wp_X3_copyRow 8 (S_keys w) 8 (S_keys (sS_openMask u (S_openMask w))) (fun f2 => wp_X3_copyRow 18 (S_roadInns w) 18 (S_roadInns (sS_roadCount (aS_keys (sS_openMask u (S_openMask w)) f2) (S_roadCount w))) (fun f5 => wp_X3_copyRow 18 (S_roadKeys w) 18 (S_roadKeys (aS_roadInns (sS_roadCount (aS_keys (sS_openMask u (S_openMask w)) f2) (S_roadCount w)) f5)) (fun f8 => wp_X3_copyRow 6 (S_roadHalls w) 6 (S_roadHalls (aS_roadKeys (aS_roadInns (sS_roadCount (aS_keys (sS_openMask u (S_openMask w)) f2) (S_roadCount w)) f5) f8)) (fun f11 => wp_X3_copyRow 48 (S_envelopeNumbers w) 48 (S_envelopeNumbers (sS_envelopeCount (aS_roadHalls (aS_roadKeys (aS_roadInns (sS_roadCount (aS_keys (sS_openMask u (S_openMask w)) f2) (S_roadCount w)) f5) f8) f11) (S_envelopeCount w))) (fun f14 => wp_X3_copyRow 4 (S_letters w) 4 (S_letters (aS_envelopeNumbers (sS_envelopeCount (aS_roadHalls (aS_roadKeys (aS_roadInns (sS_roadCount (aS_keys (sS_openMask u (S_openMask w)) f2) (S_roadCount w)) f5) f8) f11) (S_envelopeCount w)) f14)) (fun f17 => wp_X3_copyRow 4 (S_answerRoads w) 4 (S_answerRoads (aS_letters (aS_envelopeNumbers (sS_envelopeCount (aS_roadHalls (aS_roadKeys (aS_roadInns (sS_roadCount (aS_keys (sS_openMask u (S_openMask w)) f2) (S_roadCount w)) f5) f8) f11) (S_envelopeCount w)) f14) f17)) (fun f20 => wp_X3_copyRow 5 (S_counts w) 5 (S_counts (sS_answerGot (aS_answerRoads (aS_letters (aS_envelopeNumbers (sS_envelopeCount (aS_roadHalls (aS_roadKeys (aS_roadInns (sS_roadCount (aS_keys (sS_openMask u (S_openMask w)) f2) (S_roadCount w)) f5) f8) f11) (S_envelopeCount w)) f14) f17) f20) (S_answerGot w))) (fun f23 => post (aS_counts (sS_answerGot (aS_answerRoads (aS_letters (aS_envelopeNumbers (sS_envelopeCount (aS_roadHalls (aS_roadKeys (aS_roadInns (sS_roadCount (aS_keys (sS_openMask u (S_openMask w)) f2) (S_roadCount w)) f5) f8) f11) (S_envelopeCount w)) f14) f17) f20) (S_answerGot w)) f23)))))))))
set_option maxHeartbeats 4000000 in
set_option maxRecDepth 100000 in
theorem c_X2_become (l : Launch) (D : va_G) (cI cS cJ : ClassId) (a : Nat → Nat) (u : St) (b : Nat → Nat) (w : St) (sz : Nat)  {post : St → Prop} (h : wp_X2_become u w post) : Met l yX2_become (wsA yX2_become cX2_become 2 none) rm_X2_become (va_Pc [.ref (a 0), .ref (b 0)] (rwP D (tysA cI cS cJ) (stW cI a u ++ stW cI b w) sz)) (va_Qv post (fun u9 t => va_P D vwCl ((fun f9 => stW cI a f9 ++ stW cI b w) u9) t.heap ∧ va_D (va_A (stW cI a u ++ stW cI b w) sz) ((fun f9 => stW cI a f9 ++ stW cI b w) u9)) (va_A (stW cI a u ++ stW cI b w) sz)) 0 0 (va_A (stW cI a u ++ stW cI b w) sz) := by
  refine mkRWv (wf := (fun f9 => stW cI a f9 ++ stW cI b w)) (by decide +kernel) (Nat.le_of_ble_eq_true rfl) (fun {p e s m args below meth c Q ls A H0 H locs} hx hb F hts hown hin hK hP hD hS hA hl hQ => ?_)
  have hown : s.vm.findClass RX2 = some m.cls := hown
  have F : CallFix p m c cX2_become 2 s args wsT RX2 := F
  have hl : lv_has ls 2 [(0, .ref (a 0)), (1, .ref (b 0))] := hl
  unfold wp_X2_become at h
  refine lv_aload_n hx hb dX2_become_0 rfl (lv_at hl 0 rfl) ?_
  refine lv_aload_n hx hb dX2_become_1 rfl (lv_at hl 1 rfl) ?_
  refine va_get (D := D) (ci := 2) (v := .int (S_openMask w)) (C := RX2) (T := TX2) (N := 12) hx hb hts inT2 hown hK.k hP 9 rfl rfl 0 (by decide) (hts _ q_53) (fun _ h9 => h9) rfl dX2_become_2 ?_
  refine va_put (D := D) (ci := 2) (v := .int (S_openMask w)) (ty := .int) (C := RX2) (T := TX2) (N := 12) hx hb hts inT2 tyX2 tyX2_ok nmX2 hown hK.k hP hD hS 0 rfl rfl 0 (by decide) (hts _ q_53) (fun _ h9 => h9) rfl (by decide +kernel) rfl rfl (Nat.le_of_ble_eq_true rfl) dX2_become_5 (fun H locs hP hD hS => ?_)
  have hP : va_P D vwCl (stW cI a (sS_openMask u (S_openMask w)) ++ stW cI b w) H := hP
  have hD : va_D A (stW cI a (sS_openMask u (S_openMask w)) ++ stW cI b w) := hD
  refine lv_aload_n hx hb dX2_become_8 rfl (lv_at hl 1 rfl) ?_
  refine va_get (D := D) (ci := 2) (v := .ref (b 1)) (C := RX2) (T := TX2) (N := 12) hx hb hts inT2 hown hK.k hP 9 rfl rfl 1 (by decide) (hts _ q_55) (fun _ h9 => h9) rfl dX2_become_9 ?_
  refine lv_aload_n hx hb dX2_become_12 rfl (lv_at hl 0 rfl) ?_
  refine va_get (D := D) (ci := 2) (v := .ref (a 1)) (C := RX2) (T := TX2) (N := 12) hx hb hts inT2 hown hK.k hP 0 rfl rfl 1 (by decide) (hts _ q_55) (fun _ h9 => h9) rfl dX2_become_13 ?_
  obtain ⟨wr, hp31, hp32⟩ := perm_kk (stW cI a (sS_openMask u (S_openMask w)) ++ stW cI b w) 10 1 (x := ((b 1), .inl (cI, 8, .inl (S_keys w)))) (y := ((a 1), .inl (cI, 8, .inl (S_keys (sS_openMask u (S_openMask w)))))) rfl rfl (by decide)
  refine rwNv (wr := wr) (wf := fun f1 => [((b 1), .inl (cI, 8, .inl (S_keys w))), ((a 1), .inl (cI, 8, .inl f1))]) (As := [.ref (b 1), .ref (a 1)]) (rest := []) hp31 F (c_X3_copyRow l D cI cS cJ (b 1) 8 (S_keys w) (a 1) 8 (S_keys (sS_openMask u (S_openMask w))) H.size h) (cw_X2_49 hts (nw0 hK) (Nat.le_of_ble_eq_true rfl) (Nat.le_of_ble_eq_true rfl)) hK hP hD hS hA rfl hl.1 rfl (Nat.le_of_ble_eq_true rfl) dX2_become_16 ⟨Nat.zero_le _, Nat.zero_le _⟩ (fun f2 H locs h hP hD hS => ?_)
  have hP : va_P D vwCl (stW cI a (aS_keys (sS_openMask u (S_openMask w)) f2) ++ stW cI b w) H := vP_perm (hp32 _) hP
  have hD : va_D A (stW cI a (aS_keys (sS_openMask u (S_openMask w)) f2) ++ stW cI b w) := vD_perm (hp32 _) hD
  clear hp31 hp32
  refine lv_aload_n hx hb dX2_become_19 rfl (lv_at hl 0 rfl) ?_
  refine lv_aload_n hx hb dX2_become_20 rfl (lv_at hl 1 rfl) ?_
  refine va_get (D := D) (ci := 2) (v := .int (S_roadCount w)) (C := RX2) (T := TX2) (N := 12) hx hb hts inT2 hown hK.k hP 9 rfl rfl 2 (by decide) (hts _ q_57) (fun _ h9 => h9) rfl dX2_become_21 ?_
  refine va_put (D := D) (ci := 2) (v := .int (S_roadCount w)) (ty := .int) (C := RX2) (T := TX2) (N := 12) hx hb hts inT2 tyX2 tyX2_ok nmX2 hown hK.k hP hD hS 0 rfl rfl 2 (by decide) (hts _ q_57) (fun _ h9 => h9) rfl (by decide +kernel) rfl rfl (Nat.le_of_ble_eq_true rfl) dX2_become_24 (fun H locs hP hD hS => ?_)
  have hP : va_P D vwCl (stW cI a (sS_roadCount (aS_keys (sS_openMask u (S_openMask w)) f2) (S_roadCount w)) ++ stW cI b w) H := hP
  have hD : va_D A (stW cI a (sS_roadCount (aS_keys (sS_openMask u (S_openMask w)) f2) (S_roadCount w)) ++ stW cI b w) := hD
  refine lv_aload_n hx hb dX2_become_27 rfl (lv_at hl 1 rfl) ?_
  refine va_get (D := D) (ci := 2) (v := .ref (b 2)) (C := RX2) (T := TX2) (N := 12) hx hb hts inT2 hown hK.k hP 9 rfl rfl 3 (by decide) (hts _ q_59) (fun _ h9 => h9) rfl dX2_become_28 ?_
  refine lv_aload_n hx hb dX2_become_31 rfl (lv_at hl 0 rfl) ?_
  refine va_get (D := D) (ci := 2) (v := .ref (a 2)) (C := RX2) (T := TX2) (N := 12) hx hb hts inT2 hown hK.k hP 0 rfl rfl 3 (by decide) (hts _ q_59) (fun _ h9 => h9) rfl dX2_become_32 ?_
  obtain ⟨wr, hp61, hp62⟩ := perm_kk (stW cI a (sS_roadCount (aS_keys (sS_openMask u (S_openMask w)) f2) (S_roadCount w)) ++ stW cI b w) 11 2 (x := ((b 2), .inl (cI, 18, .inl (S_roadInns w)))) (y := ((a 2), .inl (cI, 18, .inl (S_roadInns (sS_roadCount (aS_keys (sS_openMask u (S_openMask w)) f2) (S_roadCount w)))))) rfl rfl (by decide)
  refine rwNv (wr := wr) (wf := fun f1 => [((b 2), .inl (cI, 18, .inl (S_roadInns w))), ((a 2), .inl (cI, 18, .inl f1))]) (As := [.ref (b 2), .ref (a 2)]) (rest := []) hp61 F (c_X3_copyRow l D cI cS cJ (b 2) 18 (S_roadInns w) (a 2) 18 (S_roadInns (sS_roadCount (aS_keys (sS_openMask u (S_openMask w)) f2) (S_roadCount w))) H.size h) (cw_X2_49 hts (nw0 hK) (Nat.le_of_ble_eq_true rfl) (Nat.le_of_ble_eq_true rfl)) hK hP hD hS hA rfl hl.1 rfl (Nat.le_of_ble_eq_true rfl) dX2_become_35 ⟨Nat.zero_le _, Nat.zero_le _⟩ (fun f5 H locs h hP hD hS => ?_)
  have hP : va_P D vwCl (stW cI a (aS_roadInns (sS_roadCount (aS_keys (sS_openMask u (S_openMask w)) f2) (S_roadCount w)) f5) ++ stW cI b w) H := vP_perm (hp62 _) hP
  have hD : va_D A (stW cI a (aS_roadInns (sS_roadCount (aS_keys (sS_openMask u (S_openMask w)) f2) (S_roadCount w)) f5) ++ stW cI b w) := vD_perm (hp62 _) hD
  clear hp61 hp62
  refine lv_aload_n hx hb dX2_become_38 rfl (lv_at hl 1 rfl) ?_
  refine va_get (D := D) (ci := 2) (v := .ref (b 3)) (C := RX2) (T := TX2) (N := 12) hx hb hts inT2 hown hK.k hP 9 rfl rfl 4 (by decide) (hts _ q_60) (fun _ h9 => h9) rfl dX2_become_39 ?_
  refine lv_aload_n hx hb dX2_become_42 rfl (lv_at hl 0 rfl) ?_
  refine va_get (D := D) (ci := 2) (v := .ref (a 3)) (C := RX2) (T := TX2) (N := 12) hx hb hts inT2 hown hK.k hP 0 rfl rfl 4 (by decide) (hts _ q_60) (fun _ h9 => h9) rfl dX2_become_43 ?_
  obtain ⟨wr, hp91, hp92⟩ := perm_kk (stW cI a (aS_roadInns (sS_roadCount (aS_keys (sS_openMask u (S_openMask w)) f2) (S_roadCount w)) f5) ++ stW cI b w) 12 3 (x := ((b 3), .inl (cI, 18, .inl (S_roadKeys w)))) (y := ((a 3), .inl (cI, 18, .inl (S_roadKeys (aS_roadInns (sS_roadCount (aS_keys (sS_openMask u (S_openMask w)) f2) (S_roadCount w)) f5))))) rfl rfl (by decide)
  refine rwNv (wr := wr) (wf := fun f1 => [((b 3), .inl (cI, 18, .inl (S_roadKeys w))), ((a 3), .inl (cI, 18, .inl f1))]) (As := [.ref (b 3), .ref (a 3)]) (rest := []) hp91 F (c_X3_copyRow l D cI cS cJ (b 3) 18 (S_roadKeys w) (a 3) 18 (S_roadKeys (aS_roadInns (sS_roadCount (aS_keys (sS_openMask u (S_openMask w)) f2) (S_roadCount w)) f5)) H.size h) (cw_X2_49 hts (nw0 hK) (Nat.le_of_ble_eq_true rfl) (Nat.le_of_ble_eq_true rfl)) hK hP hD hS hA rfl hl.1 rfl (Nat.le_of_ble_eq_true rfl) dX2_become_46 ⟨Nat.zero_le _, Nat.zero_le _⟩ (fun f8 H locs h hP hD hS => ?_)
  have hP : va_P D vwCl (stW cI a (aS_roadKeys (aS_roadInns (sS_roadCount (aS_keys (sS_openMask u (S_openMask w)) f2) (S_roadCount w)) f5) f8) ++ stW cI b w) H := vP_perm (hp92 _) hP
  have hD : va_D A (stW cI a (aS_roadKeys (aS_roadInns (sS_roadCount (aS_keys (sS_openMask u (S_openMask w)) f2) (S_roadCount w)) f5) f8) ++ stW cI b w) := vD_perm (hp92 _) hD
  clear hp91 hp92
  refine lv_aload_n hx hb dX2_become_49 rfl (lv_at hl 1 rfl) ?_
  refine va_get (D := D) (ci := 2) (v := .ref (b 4)) (C := RX2) (T := TX2) (N := 12) hx hb hts inT2 hown hK.k hP 9 rfl rfl 5 (by decide) (hts _ q_61) (fun _ h9 => h9) rfl dX2_become_50 ?_
  refine lv_aload_n hx hb dX2_become_53 rfl (lv_at hl 0 rfl) ?_
  refine va_get (D := D) (ci := 2) (v := .ref (a 4)) (C := RX2) (T := TX2) (N := 12) hx hb hts inT2 hown hK.k hP 0 rfl rfl 5 (by decide) (hts _ q_61) (fun _ h9 => h9) rfl dX2_become_54 ?_
  obtain ⟨wr, hp121, hp122⟩ := perm_kk (stW cI a (aS_roadKeys (aS_roadInns (sS_roadCount (aS_keys (sS_openMask u (S_openMask w)) f2) (S_roadCount w)) f5) f8) ++ stW cI b w) 13 4 (x := ((b 4), .inl (cI, 6, .inl (S_roadHalls w)))) (y := ((a 4), .inl (cI, 6, .inl (S_roadHalls (aS_roadKeys (aS_roadInns (sS_roadCount (aS_keys (sS_openMask u (S_openMask w)) f2) (S_roadCount w)) f5) f8))))) rfl rfl (by decide)
  refine rwNv (wr := wr) (wf := fun f1 => [((b 4), .inl (cI, 6, .inl (S_roadHalls w))), ((a 4), .inl (cI, 6, .inl f1))]) (As := [.ref (b 4), .ref (a 4)]) (rest := []) hp121 F (c_X3_copyRow l D cI cS cJ (b 4) 6 (S_roadHalls w) (a 4) 6 (S_roadHalls (aS_roadKeys (aS_roadInns (sS_roadCount (aS_keys (sS_openMask u (S_openMask w)) f2) (S_roadCount w)) f5) f8)) H.size h) (cw_X2_49 hts (nw0 hK) (Nat.le_of_ble_eq_true rfl) (Nat.le_of_ble_eq_true rfl)) hK hP hD hS hA rfl hl.1 rfl (Nat.le_of_ble_eq_true rfl) dX2_become_57 ⟨Nat.zero_le _, Nat.zero_le _⟩ (fun f11 H locs h hP hD hS => ?_)
  have hP : va_P D vwCl (stW cI a (aS_roadHalls (aS_roadKeys (aS_roadInns (sS_roadCount (aS_keys (sS_openMask u (S_openMask w)) f2) (S_roadCount w)) f5) f8) f11) ++ stW cI b w) H := vP_perm (hp122 _) hP
  have hD : va_D A (stW cI a (aS_roadHalls (aS_roadKeys (aS_roadInns (sS_roadCount (aS_keys (sS_openMask u (S_openMask w)) f2) (S_roadCount w)) f5) f8) f11) ++ stW cI b w) := vD_perm (hp122 _) hD
  clear hp121 hp122
  refine lv_aload_n hx hb dX2_become_60 rfl (lv_at hl 0 rfl) ?_
  refine lv_aload_n hx hb dX2_become_61 rfl (lv_at hl 1 rfl) ?_
  refine va_get (D := D) (ci := 2) (v := .int (S_envelopeCount w)) (C := RX2) (T := TX2) (N := 12) hx hb hts inT2 hown hK.k hP 9 rfl rfl 6 (by decide) (hts _ q_63) (fun _ h9 => h9) rfl dX2_become_62 ?_
  refine va_put (D := D) (ci := 2) (v := .int (S_envelopeCount w)) (ty := .int) (C := RX2) (T := TX2) (N := 12) hx hb hts inT2 tyX2 tyX2_ok nmX2 hown hK.k hP hD hS 0 rfl rfl 6 (by decide) (hts _ q_63) (fun _ h9 => h9) rfl (by decide +kernel) rfl rfl (Nat.le_of_ble_eq_true rfl) dX2_become_65 (fun H locs hP hD hS => ?_)
  have hP : va_P D vwCl (stW cI a (sS_envelopeCount (aS_roadHalls (aS_roadKeys (aS_roadInns (sS_roadCount (aS_keys (sS_openMask u (S_openMask w)) f2) (S_roadCount w)) f5) f8) f11) (S_envelopeCount w)) ++ stW cI b w) H := hP
  have hD : va_D A (stW cI a (sS_envelopeCount (aS_roadHalls (aS_roadKeys (aS_roadInns (sS_roadCount (aS_keys (sS_openMask u (S_openMask w)) f2) (S_roadCount w)) f5) f8) f11) (S_envelopeCount w)) ++ stW cI b w) := hD
  refine lv_aload_n hx hb dX2_become_68 rfl (lv_at hl 1 rfl) ?_
  refine va_get (D := D) (ci := 2) (v := .ref (b 5)) (C := RX2) (T := TX2) (N := 12) hx hb hts inT2 hown hK.k hP 9 rfl rfl 7 (by decide) (hts _ q_65) (fun _ h9 => h9) rfl dX2_become_69 ?_
  refine lv_aload_n hx hb dX2_become_72 rfl (lv_at hl 0 rfl) ?_
  refine va_get (D := D) (ci := 2) (v := .ref (a 5)) (C := RX2) (T := TX2) (N := 12) hx hb hts inT2 hown hK.k hP 0 rfl rfl 7 (by decide) (hts _ q_65) (fun _ h9 => h9) rfl dX2_become_73 ?_
  obtain ⟨wr, hp151, hp152⟩ := perm_kk (stW cI a (sS_envelopeCount (aS_roadHalls (aS_roadKeys (aS_roadInns (sS_roadCount (aS_keys (sS_openMask u (S_openMask w)) f2) (S_roadCount w)) f5) f8) f11) (S_envelopeCount w)) ++ stW cI b w) 14 5 (x := ((b 5), .inl (cI, 48, .inl (S_envelopeNumbers w)))) (y := ((a 5), .inl (cI, 48, .inl (S_envelopeNumbers (sS_envelopeCount (aS_roadHalls (aS_roadKeys (aS_roadInns (sS_roadCount (aS_keys (sS_openMask u (S_openMask w)) f2) (S_roadCount w)) f5) f8) f11) (S_envelopeCount w)))))) rfl rfl (by decide)
  refine rwNv (wr := wr) (wf := fun f1 => [((b 5), .inl (cI, 48, .inl (S_envelopeNumbers w))), ((a 5), .inl (cI, 48, .inl f1))]) (As := [.ref (b 5), .ref (a 5)]) (rest := []) hp151 F (c_X3_copyRow l D cI cS cJ (b 5) 48 (S_envelopeNumbers w) (a 5) 48 (S_envelopeNumbers (sS_envelopeCount (aS_roadHalls (aS_roadKeys (aS_roadInns (sS_roadCount (aS_keys (sS_openMask u (S_openMask w)) f2) (S_roadCount w)) f5) f8) f11) (S_envelopeCount w))) H.size h) (cw_X2_49 hts (nw0 hK) (Nat.le_of_ble_eq_true rfl) (Nat.le_of_ble_eq_true rfl)) hK hP hD hS hA rfl hl.1 rfl (Nat.le_of_ble_eq_true rfl) dX2_become_76 ⟨Nat.zero_le _, Nat.zero_le _⟩ (fun f14 H locs h hP hD hS => ?_)
  have hP : va_P D vwCl (stW cI a (aS_envelopeNumbers (sS_envelopeCount (aS_roadHalls (aS_roadKeys (aS_roadInns (sS_roadCount (aS_keys (sS_openMask u (S_openMask w)) f2) (S_roadCount w)) f5) f8) f11) (S_envelopeCount w)) f14) ++ stW cI b w) H := vP_perm (hp152 _) hP
  have hD : va_D A (stW cI a (aS_envelopeNumbers (sS_envelopeCount (aS_roadHalls (aS_roadKeys (aS_roadInns (sS_roadCount (aS_keys (sS_openMask u (S_openMask w)) f2) (S_roadCount w)) f5) f8) f11) (S_envelopeCount w)) f14) ++ stW cI b w) := vD_perm (hp152 _) hD
  clear hp151 hp152
  refine lv_aload_n hx hb dX2_become_79 rfl (lv_at hl 1 rfl) ?_
  refine va_get (D := D) (ci := 2) (v := .ref (b 6)) (C := RX2) (T := TX2) (N := 12) hx hb hts inT2 hown hK.k hP 9 rfl rfl 8 (by decide) (hts _ q_66) (fun _ h9 => h9) rfl dX2_become_80 ?_
  refine lv_aload_n hx hb dX2_become_83 rfl (lv_at hl 0 rfl) ?_
  refine va_get (D := D) (ci := 2) (v := .ref (a 6)) (C := RX2) (T := TX2) (N := 12) hx hb hts inT2 hown hK.k hP 0 rfl rfl 8 (by decide) (hts _ q_66) (fun _ h9 => h9) rfl dX2_become_84 ?_
  obtain ⟨wr, hp181, hp182⟩ := perm_kk (stW cI a (aS_envelopeNumbers (sS_envelopeCount (aS_roadHalls (aS_roadKeys (aS_roadInns (sS_roadCount (aS_keys (sS_openMask u (S_openMask w)) f2) (S_roadCount w)) f5) f8) f11) (S_envelopeCount w)) f14) ++ stW cI b w) 15 6 (x := ((b 6), .inl (cI, 4, .inl (S_letters w)))) (y := ((a 6), .inl (cI, 4, .inl (S_letters (aS_envelopeNumbers (sS_envelopeCount (aS_roadHalls (aS_roadKeys (aS_roadInns (sS_roadCount (aS_keys (sS_openMask u (S_openMask w)) f2) (S_roadCount w)) f5) f8) f11) (S_envelopeCount w)) f14))))) rfl rfl (by decide)
  refine rwNv (wr := wr) (wf := fun f1 => [((b 6), .inl (cI, 4, .inl (S_letters w))), ((a 6), .inl (cI, 4, .inl f1))]) (As := [.ref (b 6), .ref (a 6)]) (rest := []) hp181 F (c_X3_copyRow l D cI cS cJ (b 6) 4 (S_letters w) (a 6) 4 (S_letters (aS_envelopeNumbers (sS_envelopeCount (aS_roadHalls (aS_roadKeys (aS_roadInns (sS_roadCount (aS_keys (sS_openMask u (S_openMask w)) f2) (S_roadCount w)) f5) f8) f11) (S_envelopeCount w)) f14)) H.size h) (cw_X2_49 hts (nw0 hK) (Nat.le_of_ble_eq_true rfl) (Nat.le_of_ble_eq_true rfl)) hK hP hD hS hA rfl hl.1 rfl (Nat.le_of_ble_eq_true rfl) dX2_become_87 ⟨Nat.zero_le _, Nat.zero_le _⟩ (fun f17 H locs h hP hD hS => ?_)
  have hP : va_P D vwCl (stW cI a (aS_letters (aS_envelopeNumbers (sS_envelopeCount (aS_roadHalls (aS_roadKeys (aS_roadInns (sS_roadCount (aS_keys (sS_openMask u (S_openMask w)) f2) (S_roadCount w)) f5) f8) f11) (S_envelopeCount w)) f14) f17) ++ stW cI b w) H := vP_perm (hp182 _) hP
  have hD : va_D A (stW cI a (aS_letters (aS_envelopeNumbers (sS_envelopeCount (aS_roadHalls (aS_roadKeys (aS_roadInns (sS_roadCount (aS_keys (sS_openMask u (S_openMask w)) f2) (S_roadCount w)) f5) f8) f11) (S_envelopeCount w)) f14) f17) ++ stW cI b w) := vD_perm (hp182 _) hD
  clear hp181 hp182
  refine lv_aload_n hx hb dX2_become_90 rfl (lv_at hl 1 rfl) ?_
  refine va_get (D := D) (ci := 2) (v := .ref (b 7)) (C := RX2) (T := TX2) (N := 12) hx hb hts inT2 hown hK.k hP 9 rfl rfl 9 (by decide) (hts _ q_68) (fun _ h9 => h9) rfl dX2_become_91 ?_
  refine lv_aload_n hx hb dX2_become_94 rfl (lv_at hl 0 rfl) ?_
  refine va_get (D := D) (ci := 2) (v := .ref (a 7)) (C := RX2) (T := TX2) (N := 12) hx hb hts inT2 hown hK.k hP 0 rfl rfl 9 (by decide) (hts _ q_68) (fun _ h9 => h9) rfl dX2_become_95 ?_
  obtain ⟨wr, hp211, hp212⟩ := perm_kk (stW cI a (aS_letters (aS_envelopeNumbers (sS_envelopeCount (aS_roadHalls (aS_roadKeys (aS_roadInns (sS_roadCount (aS_keys (sS_openMask u (S_openMask w)) f2) (S_roadCount w)) f5) f8) f11) (S_envelopeCount w)) f14) f17) ++ stW cI b w) 16 7 (x := ((b 7), .inl (cI, 4, .inl (S_answerRoads w)))) (y := ((a 7), .inl (cI, 4, .inl (S_answerRoads (aS_letters (aS_envelopeNumbers (sS_envelopeCount (aS_roadHalls (aS_roadKeys (aS_roadInns (sS_roadCount (aS_keys (sS_openMask u (S_openMask w)) f2) (S_roadCount w)) f5) f8) f11) (S_envelopeCount w)) f14) f17))))) rfl rfl (by decide)
  refine rwNv (wr := wr) (wf := fun f1 => [((b 7), .inl (cI, 4, .inl (S_answerRoads w))), ((a 7), .inl (cI, 4, .inl f1))]) (As := [.ref (b 7), .ref (a 7)]) (rest := []) hp211 F (c_X3_copyRow l D cI cS cJ (b 7) 4 (S_answerRoads w) (a 7) 4 (S_answerRoads (aS_letters (aS_envelopeNumbers (sS_envelopeCount (aS_roadHalls (aS_roadKeys (aS_roadInns (sS_roadCount (aS_keys (sS_openMask u (S_openMask w)) f2) (S_roadCount w)) f5) f8) f11) (S_envelopeCount w)) f14) f17)) H.size h) (cw_X2_49 hts (nw0 hK) (Nat.le_of_ble_eq_true rfl) (Nat.le_of_ble_eq_true rfl)) hK hP hD hS hA rfl hl.1 rfl (Nat.le_of_ble_eq_true rfl) dX2_become_98 ⟨Nat.zero_le _, Nat.zero_le _⟩ (fun f20 H locs h hP hD hS => ?_)
  have hP : va_P D vwCl (stW cI a (aS_answerRoads (aS_letters (aS_envelopeNumbers (sS_envelopeCount (aS_roadHalls (aS_roadKeys (aS_roadInns (sS_roadCount (aS_keys (sS_openMask u (S_openMask w)) f2) (S_roadCount w)) f5) f8) f11) (S_envelopeCount w)) f14) f17) f20) ++ stW cI b w) H := vP_perm (hp212 _) hP
  have hD : va_D A (stW cI a (aS_answerRoads (aS_letters (aS_envelopeNumbers (sS_envelopeCount (aS_roadHalls (aS_roadKeys (aS_roadInns (sS_roadCount (aS_keys (sS_openMask u (S_openMask w)) f2) (S_roadCount w)) f5) f8) f11) (S_envelopeCount w)) f14) f17) f20) ++ stW cI b w) := vD_perm (hp212 _) hD
  clear hp211 hp212
  refine lv_aload_n hx hb dX2_become_101 rfl (lv_at hl 0 rfl) ?_
  refine lv_aload_n hx hb dX2_become_102 rfl (lv_at hl 1 rfl) ?_
  refine va_get (D := D) (ci := 2) (v := .int (S_answerGot w)) (C := RX2) (T := TX2) (N := 12) hx hb hts inT2 hown hK.k hP 9 rfl rfl 10 (by decide) (hts _ q_70) (fun _ h9 => h9) rfl dX2_become_103 ?_
  refine va_put (D := D) (ci := 2) (v := .int (S_answerGot w)) (ty := .int) (C := RX2) (T := TX2) (N := 12) hx hb hts inT2 tyX2 tyX2_ok nmX2 hown hK.k hP hD hS 0 rfl rfl 10 (by decide) (hts _ q_70) (fun _ h9 => h9) rfl (by decide +kernel) rfl rfl (Nat.le_of_ble_eq_true rfl) dX2_become_106 (fun H locs hP hD hS => ?_)
  have hP : va_P D vwCl (stW cI a (sS_answerGot (aS_answerRoads (aS_letters (aS_envelopeNumbers (sS_envelopeCount (aS_roadHalls (aS_roadKeys (aS_roadInns (sS_roadCount (aS_keys (sS_openMask u (S_openMask w)) f2) (S_roadCount w)) f5) f8) f11) (S_envelopeCount w)) f14) f17) f20) (S_answerGot w)) ++ stW cI b w) H := hP
  have hD : va_D A (stW cI a (sS_answerGot (aS_answerRoads (aS_letters (aS_envelopeNumbers (sS_envelopeCount (aS_roadHalls (aS_roadKeys (aS_roadInns (sS_roadCount (aS_keys (sS_openMask u (S_openMask w)) f2) (S_roadCount w)) f5) f8) f11) (S_envelopeCount w)) f14) f17) f20) (S_answerGot w)) ++ stW cI b w) := hD
  refine lv_aload_n hx hb dX2_become_109 rfl (lv_at hl 1 rfl) ?_
  refine va_get (D := D) (ci := 2) (v := .ref (b 8)) (C := RX2) (T := TX2) (N := 12) hx hb hts inT2 hown hK.k hP 9 rfl rfl 11 (by decide) (hts _ q_72) (fun _ h9 => h9) rfl dX2_become_110 ?_
  refine lv_aload_n hx hb dX2_become_113 rfl (lv_at hl 0 rfl) ?_
  refine va_get (D := D) (ci := 2) (v := .ref (a 8)) (C := RX2) (T := TX2) (N := 12) hx hb hts inT2 hown hK.k hP 0 rfl rfl 11 (by decide) (hts _ q_72) (fun _ h9 => h9) rfl dX2_become_114 ?_
  obtain ⟨wr, hp241, hp242⟩ := perm_kk (stW cI a (sS_answerGot (aS_answerRoads (aS_letters (aS_envelopeNumbers (sS_envelopeCount (aS_roadHalls (aS_roadKeys (aS_roadInns (sS_roadCount (aS_keys (sS_openMask u (S_openMask w)) f2) (S_roadCount w)) f5) f8) f11) (S_envelopeCount w)) f14) f17) f20) (S_answerGot w)) ++ stW cI b w) 17 8 (x := ((b 8), .inl (cI, 5, .inl (S_counts w)))) (y := ((a 8), .inl (cI, 5, .inl (S_counts (sS_answerGot (aS_answerRoads (aS_letters (aS_envelopeNumbers (sS_envelopeCount (aS_roadHalls (aS_roadKeys (aS_roadInns (sS_roadCount (aS_keys (sS_openMask u (S_openMask w)) f2) (S_roadCount w)) f5) f8) f11) (S_envelopeCount w)) f14) f17) f20) (S_answerGot w)))))) rfl rfl (by decide)
  refine rwNv (wr := wr) (wf := fun f1 => [((b 8), .inl (cI, 5, .inl (S_counts w))), ((a 8), .inl (cI, 5, .inl f1))]) (As := [.ref (b 8), .ref (a 8)]) (rest := []) hp241 F (c_X3_copyRow l D cI cS cJ (b 8) 5 (S_counts w) (a 8) 5 (S_counts (sS_answerGot (aS_answerRoads (aS_letters (aS_envelopeNumbers (sS_envelopeCount (aS_roadHalls (aS_roadKeys (aS_roadInns (sS_roadCount (aS_keys (sS_openMask u (S_openMask w)) f2) (S_roadCount w)) f5) f8) f11) (S_envelopeCount w)) f14) f17) f20) (S_answerGot w))) H.size h) (cw_X2_49 hts (nw0 hK) (Nat.le_of_ble_eq_true rfl) (Nat.le_of_ble_eq_true rfl)) hK hP hD hS hA rfl hl.1 rfl (Nat.le_of_ble_eq_true rfl) dX2_become_117 ⟨Nat.zero_le _, Nat.zero_le _⟩ (fun f23 H locs h hP hD hS => ?_)
  have hP : va_P D vwCl (stW cI a (aS_counts (sS_answerGot (aS_answerRoads (aS_letters (aS_envelopeNumbers (sS_envelopeCount (aS_roadHalls (aS_roadKeys (aS_roadInns (sS_roadCount (aS_keys (sS_openMask u (S_openMask w)) f2) (S_roadCount w)) f5) f8) f11) (S_envelopeCount w)) f14) f17) f20) (S_answerGot w)) f23) ++ stW cI b w) H := vP_perm (hp242 _) hP
  have hD : va_D A (stW cI a (aS_counts (sS_answerGot (aS_answerRoads (aS_letters (aS_envelopeNumbers (sS_envelopeCount (aS_roadHalls (aS_roadKeys (aS_roadInns (sS_roadCount (aS_keys (sS_openMask u (S_openMask w)) f2) (S_roadCount w)) f5) f8) f11) (S_envelopeCount w)) f14) f17) f20) (S_answerGot w)) f23) ++ stW cI b w) := vD_perm (hp242 _) hD
  clear hp241 hp242
  exact hQ h hP hD hS dX2_become_120
