def wp_X4_pass (u : Md) (p1 : Int32) (post : Int32 → Md → Prop) : Prop :=
  wp_X4_in p1 (1 : Int32) (9 : Int32) (fun r1 => jn (fun (x3 : Int32) => wp_X4_holds u x3 (fun r8 u10 => (¬ r8 = 0 → wp_X4_save u10 (fun u13 => wp_X4_passes u13 p1 (fun r14 u15 => post r14 u15))) ∧ (r8 = 0 → post (0 : Int32) u10))) (fun (J5 : Int32 → Prop) => (r1 = 0 → J5 (1 : Int32)) ∧ (¬ r1 = 0 → J5 (0 : Int32))))
set_option maxHeartbeats 4000000 in
set_option maxRecDepth 100000 in
theorem c_X4_pass (l : Launch) (D : va_G) (cI cS cJ : ClassId) (a : Nat → Nat) (u : Md) (sz : Nat) (p1 : Int32) {post : Int32 → Md → Prop} (h : wp_X4_pass u p1 post) : Met l yX4_pass (wsA yX4_pass cX4_pass 2 (some .int)) rm_X4_pass (va_Pc [.ref (a 0), .int p1] (rwP D (tysA cI cS cJ) (mdW cI a u) sz)) (va_Qi post (fun u9 t => va_P D vwCl ((mdW cI a) u9) t.heap ∧ va_D (va_A (mdW cI a u) sz) ((mdW cI a) u9)) (va_A (mdW cI a u) sz)) 0 0 (va_A (mdW cI a u) sz) := by
  refine mkRWi (wf := (mdW cI a)) (by decide +kernel) (Nat.le_of_ble_eq_true rfl) (fun {p e s m args below meth c Q ls A H0 H locs} hx hb F hts hown hK hP hD hS hA hl hQ => ?_)
  have hown : s.vm.findClass RX4 = some m.cls := hown
  have F : CallFix p m c cX4_pass 2 s args wsT RX4 := F
  have hl : lv_has ls 2 [(0, .ref (a 0)), (1, .int p1)] := hl
  unfold wp_X4_pass at h
  refine lv_aload_n hx hb dX4_pass_0 rfl (lv_at hl 0 rfl) ?_
  refine lv_iload_n hx hb dX4_pass_1 rfl (lv_at hl 1 rfl) ?_
  refine lv_iconst (v := (1 : Int32)) hx hb dX4_pass_2 (by decide) ?_
  refine lv_bipush (v := (9 : Int32)) hx hb dX4_pass_3 (by decide) ?_
  refine roSi (As := [.int p1, .int (1 : Int32), .int (9 : Int32)]) (rest := [.ref (a 0)]) F (c_X4_in l D cI cS cJ H p1 (1 : Int32) (9 : Int32) h) (cw_X4_20 hts (Nat.le_of_ble_eq_true rfl) (Nat.le_of_ble_eq_true rfl)) hK vP_nil rfl hl.1 rfl (Nat.le_of_ble_eq_true rfl) dX4_pass_5 ⟨Nat.zero_le _, Nat.zero_le _⟩ (fun r1 h => ?_)
  obtain ⟨b2, h⟩ := h
  refine jn_e h (fun J5 e7 h => ?_)
  have w6 : ∀ (x3 : Int32) (ls : Array Slot) (H : Heap) (locs : List Loc), bz x3 → lv_has ls 2 [(0, .ref (a 0)), (1, .int p1)] → va_P D vwCl (mdW cI a u) H → va_D A (mdW cI a u) → va_S A H0 H locs → J5 x3 → W p l e rm_X4_pass s m args below meth c H locs 0 0 Q (F0 m 16 ls [.int x3, .ref (a 0)]) := by
    intro x3 ls H locs b4 hl hP hD hS h
    subst e7
    refine rwVi0 (As := [.int x3]) (rest := []) F (c_X4_holds l D cI cS cJ a u H.size x3 h) (cw_X4_86 hts (Nat.le_of_ble_eq_true rfl) (Nat.le_of_ble_eq_true rfl)) hK hP hD hS hA (recv (ci := 4) (k0 := 0) hK hP rfl rfl) rfl hl.1 rfl (Nat.le_of_ble_eq_true rfl) dX4_pass_16 ⟨Nat.zero_le _, Nat.zero_le _⟩ (fun r8 u10 H locs h hP hD hS => ?_)
    obtain ⟨b9, h⟩ := h
    refine lv_if_ne (tgt := 24) hx hb dX4_pass_19 (by decide) (fun c11 => ?_) (fun c11 => ?_)
    · replace h := h.1 c11
      refine lv_aload_n hx hb dX4_pass_24 rfl (lv_at hl 0 rfl) ?_
      refine rwVv0 (As := []) (rest := []) F (c_X4_save l D cI cS cJ a u10 H.size  h) (cw_X4_80 hts (Nat.le_of_ble_eq_true rfl) (Nat.le_of_ble_eq_true rfl)) hK hP hD hS hA (recv (ci := 4) (k0 := 0) hK hP rfl rfl) rfl hl.1 rfl (Nat.le_of_ble_eq_true rfl) dX4_pass_25 ⟨Nat.zero_le _, Nat.zero_le _⟩ (fun u13 H locs h hP hD hS => ?_)
      refine lv_aload_n hx hb dX4_pass_28 rfl (lv_at hl 0 rfl) ?_
      refine lv_iload_n hx hb dX4_pass_29 rfl (lv_at hl 1 rfl) ?_
      refine rwVi0 (As := [.int p1]) (rest := []) F (c_X4_passes l D cI cS cJ a u13 H.size p1 h) (cw_X4_135 hts (Nat.le_of_ble_eq_true rfl) (Nat.le_of_ble_eq_true rfl)) hK hP hD hS hA (recv (ci := 4) (k0 := 0) hK hP rfl rfl) rfl hl.1 rfl (Nat.le_of_ble_eq_true rfl) dX4_pass_30 ⟨Nat.zero_le _, Nat.zero_le _⟩ (fun r14 u15 H locs h hP hD hS => ?_)
      exact hQ h hP hD hS dX4_pass_33
    · replace h := h.2 c11
      refine lv_iconst (v := (0 : Int32)) hx hb dX4_pass_22 (by decide) ?_
      exact hQ h hP hD hS dX4_pass_23
  clear e7
  refine lv_if_eq (tgt := 15) hx hb dX4_pass_8 (by decide) (fun c16 => ?_) (fun c16 => ?_)
  · replace h := h.1 c16
    refine lv_iconst (v := (1 : Int32)) hx hb dX4_pass_15 (by decide) ?_
    exact w6 (1 : Int32) _ _ _ bz1 hl hP hD hS h
  · replace h := h.2 c16
    refine lv_iconst (v := (0 : Int32)) hx hb dX4_pass_11 (by decide) ?_
    refine lv_goto (tgt := 16) hx hb dX4_pass_12 (by decide) ?_
    exact w6 (0 : Int32) _ _ _ bz0 hl hP hD hS h

def wp_X4_envelopes (u : Md)  (post : Int32 → Md → Prop) : Prop :=
  (vp_in (1 : Int32) 854) ∧ (wp_X4_told u ((M_s u) (Int32.toNatClampNeg (1 : Int32))) (fun r1 u2 => post r1 u2))
set_option maxHeartbeats 4000000 in
set_option maxRecDepth 100000 in
theorem c_X4_envelopes (l : Launch) (D : va_G) (cI cS cJ : ClassId) (a : Nat → Nat) (u : Md) (sz : Nat)  {post : Int32 → Md → Prop} (h : wp_X4_envelopes u post) : Met l yX4_envelopes (wsA yX4_envelopes cX4_envelopes 1 (some .int)) rm_X4_envelopes (va_Pc [.ref (a 0)] (rwP D (tysA cI cS cJ) (mdW cI a u) sz)) (va_Qi post (fun u9 t => va_P D vwCl ((mdW cI a) u9) t.heap ∧ va_D (va_A (mdW cI a u) sz) ((mdW cI a) u9)) (va_A (mdW cI a u) sz)) 0 0 (va_A (mdW cI a u) sz) := by
  refine mkRWi (wf := (mdW cI a)) (by decide +kernel) (Nat.le_of_ble_eq_true rfl) (fun {p e s m args below meth c Q ls A H0 H locs} hx hb F hts hown hK hP hD hS hA hl hQ => ?_)
  have hown : s.vm.findClass RX4 = some m.cls := hown
  have F : CallFix p m c cX4_envelopes 1 s args wsT RX4 := F
  have hl : lv_has ls 1 [(0, .ref (a 0))] := hl
  unfold wp_X4_envelopes at h
  refine lv_aload_n hx hb dX4_envelopes_0 rfl (lv_at hl 0 rfl) ?_
  refine lv_aload_n hx hb dX4_envelopes_1 rfl (lv_at hl 0 rfl) ?_
  refine va_get (D := D) (ci := 4) (v := .ref (a 1)) (C := RX4) (T := TX4) (N := 12) hx hb hts inT4 hown hK.k hP 0 rfl rfl 1 (by decide) (hts _ q_820) (fun _ h9 => h9) rfl dX4_envelopes_2 ?_
  refine lv_iconst (v := (1 : Int32)) hx hb dX4_envelopes_5 (by decide) ?_
  refine va_iald hx hb hK.k hP 1 0 rfl rfl h.1 dX4_envelopes_6 ?_
  replace h := h.2
  refine rwVi0 (As := [.int ((M_s u) (Int32.toNatClampNeg (1 : Int32)))]) (rest := []) F (c_X4_told l D cI cS cJ a u H.size ((M_s u) (Int32.toNatClampNeg (1 : Int32))) h) (cw_X4_107 hts (Nat.le_of_ble_eq_true rfl) (Nat.le_of_ble_eq_true rfl)) hK hP hD hS hA (recv (ci := 4) (k0 := 0) hK hP rfl rfl) rfl hl.1 rfl (Nat.le_of_ble_eq_true rfl) dX4_envelopes_7 ⟨Nat.zero_le _, Nat.zero_le _⟩ (fun r1 u2 H locs h hP hD hS => ?_)
  exact hQ h hP hD hS dX4_envelopes_10

def wp_X4_envelope (u : Md) (p1 : Int32) (p2 : Int32) (post : Int32 → Md → Prop) : Prop :=
  wp_X4_isEnvelope u p1 (fun r1 => jn (fun (x3 : Int32) => wp_X4_holds u x3 (fun r8 u10 => (r8 = 0 → post (0 : Int32) u10) ∧ (¬ r8 = 0 → wp_X4_of u10 p1 p2 (fun r12 => post r12 u10)))) (fun (J5 : Int32 → Prop) => jn (J5 (1 : Int32)) (fun (J13 : Prop) => (r1 = 0 → J13) ∧ (¬ r1 = 0 → wp_X4_in p2 (0 : Int32) (3 : Int32) (fun r17 => (r17 = 0 → J13) ∧ (¬ r17 = 0 → J5 (0 : Int32)))))))
set_option maxHeartbeats 4000000 in
set_option maxRecDepth 100000 in
theorem c_X4_envelope (l : Launch) (D : va_G) (cI cS cJ : ClassId) (a : Nat → Nat) (u : Md) (sz : Nat) (p1 : Int32) (p2 : Int32) {post : Int32 → Md → Prop} (h : wp_X4_envelope u p1 p2 post) : Met l yX4_envelope (wsA yX4_envelope cX4_envelope 3 (some .int)) rm_X4_envelope (va_Pc [.ref (a 0), .int p1, .int p2] (rwP D (tysA cI cS cJ) (mdW cI a u) sz)) (va_Qi post (fun u9 t => va_P D vwCl ((mdW cI a) u9) t.heap ∧ va_D (va_A (mdW cI a u) sz) ((mdW cI a) u9)) (va_A (mdW cI a u) sz)) 0 0 (va_A (mdW cI a u) sz) := by
  refine mkRWi (wf := (mdW cI a)) (by decide +kernel) (Nat.le_of_ble_eq_true rfl) (fun {p e s m args below meth c Q ls A H0 H locs} hx hb F hts hown hK hP hD hS hA hl hQ => ?_)
  have hown : s.vm.findClass RX4 = some m.cls := hown
  have F : CallFix p m c cX4_envelope 3 s args wsT RX4 := F
  have hl : lv_has ls 3 [(0, .ref (a 0)), (1, .int p1), (2, .int p2)] := hl
  unfold wp_X4_envelope at h
  refine lv_aload_n hx hb dX4_envelope_0 rfl (lv_at hl 0 rfl) ?_
  refine lv_aload_n hx hb dX4_envelope_1 rfl (lv_at hl 0 rfl) ?_
  refine lv_iload_n hx hb dX4_envelope_2 rfl (lv_at hl 1 rfl) ?_
  refine roVi (As := [.int p1]) (rest := [.ref (a 0)]) F (c_X4_isEnvelope l D cI cS cJ a u H p1 h) (cw_X4_138 hts (Nat.le_of_ble_eq_true rfl) (Nat.le_of_ble_eq_true rfl)) hK hP (recv (ci := 4) (k0 := 0) hK hP rfl rfl) rfl hl.1 rfl (Nat.le_of_ble_eq_true rfl) dX4_envelope_3 ⟨Nat.zero_le _, Nat.zero_le _⟩ (fun r1 h => ?_)
  obtain ⟨b2, h⟩ := h
  refine jn_e h (fun J5 e7 h => ?_)
  have w6 : ∀ (x3 : Int32) (ls : Array Slot) (H : Heap) (locs : List Loc), bz x3 → lv_has ls 3 [(0, .ref (a 0)), (1, .int p1), (2, .int p2)] → va_P D vwCl (mdW cI a u) H → va_D A (mdW cI a u) → va_S A H0 H locs → J5 x3 → W p l e rm_X4_envelope s m args below meth c H locs 0 0 Q (F0 m 23 ls [.int x3, .ref (a 0)]) := by
    intro x3 ls H locs b4 hl hP hD hS h
    subst e7
    refine rwVi0 (As := [.int x3]) (rest := []) F (c_X4_holds l D cI cS cJ a u H.size x3 h) (cw_X4_86 hts (Nat.le_of_ble_eq_true rfl) (Nat.le_of_ble_eq_true rfl)) hK hP hD hS hA (recv (ci := 4) (k0 := 0) hK hP rfl rfl) rfl hl.1 rfl (Nat.le_of_ble_eq_true rfl) dX4_envelope_23 ⟨Nat.zero_le _, Nat.zero_le _⟩ (fun r8 u10 H locs h hP hD hS => ?_)
    obtain ⟨b9, h⟩ := h
    refine lv_if_eq (tgt := 38) hx hb dX4_envelope_26 (by decide) (fun c11 => ?_) (fun c11 => ?_)
    · replace h := h.1 c11
      refine lv_iconst (v := (0 : Int32)) hx hb dX4_envelope_38 (by decide) ?_
      exact hQ h hP hD hS dX4_envelope_39
    · replace h := h.2 c11
      refine lv_aload_n hx hb dX4_envelope_29 rfl (lv_at hl 0 rfl) ?_
      refine lv_iload_n hx hb dX4_envelope_30 rfl (lv_at hl 1 rfl) ?_
      refine lv_iload_n hx hb dX4_envelope_31 rfl (lv_at hl 2 rfl) ?_
      refine roVi (As := [.int p1, .int p2]) (rest := []) F (c_X4_of l D cI cS cJ a u10 H p1 p2 h) (cw_X4_46 hts (Nat.le_of_ble_eq_true rfl) (Nat.le_of_ble_eq_true rfl)) hK hP (recv (ci := 4) (k0 := 0) hK hP rfl rfl) rfl hl.1 rfl (Nat.le_of_ble_eq_true rfl) dX4_envelope_32 ⟨Nat.zero_le _, Nat.zero_le _⟩ (fun r12 h => ?_)
      refine lv_goto (tgt := 39) hx hb dX4_envelope_35 (by decide) ?_
      exact hQ h hP hD hS dX4_envelope_39
  clear e7
  refine jn_e h (fun J13 e15 h => ?_)
  have w14 : ∀  (ls : Array Slot) (H : Heap) (locs : List Loc), lv_has ls 3 [(0, .ref (a 0)), (1, .int p1), (2, .int p2)] → va_P D vwCl (mdW cI a u) H → va_D A (mdW cI a u) → va_S A H0 H locs → J13 → W p l e rm_X4_envelope s m args below meth c H locs 0 0 Q (F0 m 22 ls [.ref (a 0)]) := by
    intro ls H locs hl hP hD hS h
    subst e15
    refine lv_iconst (v := (1 : Int32)) hx hb dX4_envelope_22 (by decide) ?_
    exact w6 (1 : Int32) _ _ _ bz1 hl hP hD hS h
  clear e15
  refine lv_if_eq (tgt := 22) hx hb dX4_envelope_6 (by decide) (fun c16 => ?_) (fun c16 => ?_)
  · replace h := h.1 c16
    exact w14 _ _ _ hl hP hD hS h
  · replace h := h.2 c16
    refine lv_iload_n hx hb dX4_envelope_9 rfl (lv_at hl 2 rfl) ?_
    refine lv_iconst (v := (0 : Int32)) hx hb dX4_envelope_10 (by decide) ?_
    refine lv_iconst (v := (3 : Int32)) hx hb dX4_envelope_11 (by decide) ?_
    refine roSi (As := [.int p2, .int (0 : Int32), .int (3 : Int32)]) (rest := [.ref (a 0)]) F (c_X4_in l D cI cS cJ H p2 (0 : Int32) (3 : Int32) h) (cw_X4_20 hts (Nat.le_of_ble_eq_true rfl) (Nat.le_of_ble_eq_true rfl)) hK vP_nil rfl hl.1 rfl (Nat.le_of_ble_eq_true rfl) dX4_envelope_12 ⟨Nat.zero_le _, Nat.zero_le _⟩ (fun r17 h => ?_)
    obtain ⟨b18, h⟩ := h
    refine lv_if_eq (tgt := 22) hx hb dX4_envelope_15 (by decide) (fun c19 => ?_) (fun c19 => ?_)
    · replace h := h.1 c19
      exact w14 _ _ _ hl hP hD hS h
    · replace h := h.2 c19
      refine lv_iconst (v := (0 : Int32)) hx hb dX4_envelope_18 (by decide) ?_
      refine lv_goto (tgt := 23) hx hb dX4_envelope_19 (by decide) ?_
      exact w6 (0 : Int32) _ _ _ bz0 hl hP hD hS h

def wp_X4_letter (u : Md) (p1 : Int32) (post : Int32 → Md → Prop) : Prop :=
  wp_X4_isHall p1 (fun r1 => jn (fun (x3 : Int32) => wp_X4_holds u x3 (fun r8 u10 => (r8 = 0 → post (0 : Int32) u10) ∧ (¬ r8 = 0 → (vp_in ((114 : Int32) + p1) 854) ∧ (post ((M_s u10) (Int32.toNatClampNeg ((114 : Int32) + p1))) u10)))) (fun (J5 : Int32 → Prop) => (r1 = 0 → J5 (1 : Int32)) ∧ (¬ r1 = 0 → J5 (0 : Int32))))
set_option maxHeartbeats 4000000 in
set_option maxRecDepth 100000 in
theorem c_X4_letter (l : Launch) (D : va_G) (cI cS cJ : ClassId) (a : Nat → Nat) (u : Md) (sz : Nat) (p1 : Int32) {post : Int32 → Md → Prop} (h : wp_X4_letter u p1 post) : Met l yX4_letter (wsA yX4_letter cX4_letter 2 (some .int)) rm_X4_letter (va_Pc [.ref (a 0), .int p1] (rwP D (tysA cI cS cJ) (mdW cI a u) sz)) (va_Qi post (fun u9 t => va_P D vwCl ((mdW cI a) u9) t.heap ∧ va_D (va_A (mdW cI a u) sz) ((mdW cI a) u9)) (va_A (mdW cI a u) sz)) 0 0 (va_A (mdW cI a u) sz) := by
  refine mkRWi (wf := (mdW cI a)) (by decide +kernel) (Nat.le_of_ble_eq_true rfl) (fun {p e s m args below meth c Q ls A H0 H locs} hx hb F hts hown hK hP hD hS hA hl hQ => ?_)
  have hown : s.vm.findClass RX4 = some m.cls := hown
  have F : CallFix p m c cX4_letter 2 s args wsT RX4 := F
  have hl : lv_has ls 2 [(0, .ref (a 0)), (1, .int p1)] := hl
  unfold wp_X4_letter at h
  refine lv_aload_n hx hb dX4_letter_0 rfl (lv_at hl 0 rfl) ?_
  refine lv_iload_n hx hb dX4_letter_1 rfl (lv_at hl 1 rfl) ?_
  refine roSi (As := [.int p1]) (rest := [.ref (a 0)]) F (c_X4_isHall l D cI cS cJ H p1 h) (cw_X4_95 hts (Nat.le_of_ble_eq_true rfl) (Nat.le_of_ble_eq_true rfl)) hK vP_nil rfl hl.1 rfl (Nat.le_of_ble_eq_true rfl) dX4_letter_2 ⟨Nat.zero_le _, Nat.zero_le _⟩ (fun r1 h => ?_)
  obtain ⟨b2, h⟩ := h
  refine jn_e h (fun J5 e7 h => ?_)
  have w6 : ∀ (x3 : Int32) (ls : Array Slot) (H : Heap) (locs : List Loc), bz x3 → lv_has ls 2 [(0, .ref (a 0)), (1, .int p1)] → va_P D vwCl (mdW cI a u) H → va_D A (mdW cI a u) → va_S A H0 H locs → J5 x3 → W p l e rm_X4_letter s m args below meth c H locs 0 0 Q (F0 m 13 ls [.int x3, .ref (a 0)]) := by
    intro x3 ls H locs b4 hl hP hD hS h
    subst e7
    refine rwVi0 (As := [.int x3]) (rest := []) F (c_X4_holds l D cI cS cJ a u H.size x3 h) (cw_X4_86 hts (Nat.le_of_ble_eq_true rfl) (Nat.le_of_ble_eq_true rfl)) hK hP hD hS hA (recv (ci := 4) (k0 := 0) hK hP rfl rfl) rfl hl.1 rfl (Nat.le_of_ble_eq_true rfl) dX4_letter_13 ⟨Nat.zero_le _, Nat.zero_le _⟩ (fun r8 u10 H locs h hP hD hS => ?_)
    obtain ⟨b9, h⟩ := h
    refine lv_if_eq (tgt := 31) hx hb dX4_letter_16 (by decide) (fun c11 => ?_) (fun c11 => ?_)
    · replace h := h.1 c11
      refine lv_iconst (v := (0 : Int32)) hx hb dX4_letter_31 (by decide) ?_
      exact hQ h hP hD hS dX4_letter_32
    · replace h := h.2 c11
      refine lv_aload_n hx hb dX4_letter_19 rfl (lv_at hl 0 rfl) ?_
      refine va_get (D := D) (ci := 4) (v := .ref (a 1)) (C := RX4) (T := TX4) (N := 12) hx hb hts inT4 hown hK.k hP 0 rfl rfl 1 (by decide) (hts _ q_820) (fun _ h9 => h9) rfl dX4_letter_20 ?_
      refine lv_bipush (v := (114 : Int32)) hx hb dX4_letter_23 (by decide) ?_
      refine lv_iload_n hx hb dX4_letter_25 rfl (lv_at hl 1 rfl) ?_
      refine lv_iadd hx hb dX4_letter_26 ?_
      refine va_iald hx hb hK.k hP 1 0 rfl rfl h.1 dX4_letter_27 ?_
      replace h := h.2
      refine lv_goto (tgt := 32) hx hb dX4_letter_28 (by decide) ?_
      exact hQ h hP hD hS dX4_letter_32
  clear e7
  refine lv_if_eq (tgt := 12) hx hb dX4_letter_5 (by decide) (fun c12 => ?_) (fun c12 => ?_)
  · replace h := h.1 c12
    refine lv_iconst (v := (1 : Int32)) hx hb dX4_letter_12 (by decide) ?_
    exact w6 (1 : Int32) _ _ _ bz1 hl hP hD hS h
  · replace h := h.2 c12
    refine lv_iconst (v := (0 : Int32)) hx hb dX4_letter_8 (by decide) ?_
    refine lv_goto (tgt := 13) hx hb dX4_letter_9 (by decide) ?_
    exact w6 (0 : Int32) _ _ _ bz0 hl hP hD hS h

def wp_X4_lastAnswer (u : Md)  (post : Int32 → Md → Prop) : Prop :=
  (vp_in (2 : Int32) 854) ∧ (wp_X4_told u ((M_s u) (Int32.toNatClampNeg (2 : Int32))) (fun r1 u2 => post r1 u2))
set_option maxHeartbeats 4000000 in
set_option maxRecDepth 100000 in
theorem c_X4_lastAnswer (l : Launch) (D : va_G) (cI cS cJ : ClassId) (a : Nat → Nat) (u : Md) (sz : Nat)  {post : Int32 → Md → Prop} (h : wp_X4_lastAnswer u post) : Met l yX4_lastAnswer (wsA yX4_lastAnswer cX4_lastAnswer 1 (some .int)) rm_X4_lastAnswer (va_Pc [.ref (a 0)] (rwP D (tysA cI cS cJ) (mdW cI a u) sz)) (va_Qi post (fun u9 t => va_P D vwCl ((mdW cI a) u9) t.heap ∧ va_D (va_A (mdW cI a u) sz) ((mdW cI a) u9)) (va_A (mdW cI a u) sz)) 0 0 (va_A (mdW cI a u) sz) := by
  refine mkRWi (wf := (mdW cI a)) (by decide +kernel) (Nat.le_of_ble_eq_true rfl) (fun {p e s m args below meth c Q ls A H0 H locs} hx hb F hts hown hK hP hD hS hA hl hQ => ?_)
  have hown : s.vm.findClass RX4 = some m.cls := hown
  have F : CallFix p m c cX4_lastAnswer 1 s args wsT RX4 := F
  have hl : lv_has ls 1 [(0, .ref (a 0))] := hl
  unfold wp_X4_lastAnswer at h
  refine lv_aload_n hx hb dX4_lastAnswer_0 rfl (lv_at hl 0 rfl) ?_
  refine lv_aload_n hx hb dX4_lastAnswer_1 rfl (lv_at hl 0 rfl) ?_
  refine va_get (D := D) (ci := 4) (v := .ref (a 1)) (C := RX4) (T := TX4) (N := 12) hx hb hts inT4 hown hK.k hP 0 rfl rfl 1 (by decide) (hts _ q_820) (fun _ h9 => h9) rfl dX4_lastAnswer_2 ?_
  refine lv_iconst (v := (2 : Int32)) hx hb dX4_lastAnswer_5 (by decide) ?_
  refine va_iald hx hb hK.k hP 1 0 rfl rfl h.1 dX4_lastAnswer_6 ?_
  replace h := h.2
  refine rwVi0 (As := [.int ((M_s u) (Int32.toNatClampNeg (2 : Int32)))]) (rest := []) F (c_X4_told l D cI cS cJ a u H.size ((M_s u) (Int32.toNatClampNeg (2 : Int32))) h) (cw_X4_107 hts (Nat.le_of_ble_eq_true rfl) (Nat.le_of_ble_eq_true rfl)) hK hP hD hS hA (recv (ci := 4) (k0 := 0) hK hP rfl rfl) rfl hl.1 rfl (Nat.le_of_ble_eq_true rfl) dX4_lastAnswer_7 ⟨Nat.zero_le _, Nat.zero_le _⟩ (fun r1 u2 H locs h hP hD hS => ?_)
  exact hQ h hP hD hS dX4_lastAnswer_10

def wp_X4_count (u : Md) (p1 : Int32) (post : Int32 → Md → Prop) : Prop :=
  wp_X4_in p1 (0 : Int32) (4 : Int32) (fun r1 => jn (fun (x3 : Int32) => wp_X4_holds u x3 (fun r8 u10 => (r8 = 0 → post (0 : Int32) u10) ∧ (¬ r8 = 0 → (vp_in ((3 : Int32) + p1) 854) ∧ (post ((M_s u10) (Int32.toNatClampNeg ((3 : Int32) + p1))) u10)))) (fun (J5 : Int32 → Prop) => (r1 = 0 → J5 (1 : Int32)) ∧ (¬ r1 = 0 → J5 (0 : Int32))))
set_option maxHeartbeats 4000000 in
set_option maxRecDepth 100000 in
theorem c_X4_count (l : Launch) (D : va_G) (cI cS cJ : ClassId) (a : Nat → Nat) (u : Md) (sz : Nat) (p1 : Int32) {post : Int32 → Md → Prop} (h : wp_X4_count u p1 post) : Met l yX4_count (wsA yX4_count cX4_count 2 (some .int)) rm_X4_count (va_Pc [.ref (a 0), .int p1] (rwP D (tysA cI cS cJ) (mdW cI a u) sz)) (va_Qi post (fun u9 t => va_P D vwCl ((mdW cI a) u9) t.heap ∧ va_D (va_A (mdW cI a u) sz) ((mdW cI a) u9)) (va_A (mdW cI a u) sz)) 0 0 (va_A (mdW cI a u) sz) := by
  refine mkRWi (wf := (mdW cI a)) (by decide +kernel) (Nat.le_of_ble_eq_true rfl) (fun {p e s m args below meth c Q ls A H0 H locs} hx hb F hts hown hK hP hD hS hA hl hQ => ?_)
  have hown : s.vm.findClass RX4 = some m.cls := hown
  have F : CallFix p m c cX4_count 2 s args wsT RX4 := F
  have hl : lv_has ls 2 [(0, .ref (a 0)), (1, .int p1)] := hl
  unfold wp_X4_count at h
  refine lv_aload_n hx hb dX4_count_0 rfl (lv_at hl 0 rfl) ?_
  refine lv_iload_n hx hb dX4_count_1 rfl (lv_at hl 1 rfl) ?_
  refine lv_iconst (v := (0 : Int32)) hx hb dX4_count_2 (by decide) ?_
  refine lv_iconst (v := (4 : Int32)) hx hb dX4_count_3 (by decide) ?_
  refine roSi (As := [.int p1, .int (0 : Int32), .int (4 : Int32)]) (rest := [.ref (a 0)]) F (c_X4_in l D cI cS cJ H p1 (0 : Int32) (4 : Int32) h) (cw_X4_20 hts (Nat.le_of_ble_eq_true rfl) (Nat.le_of_ble_eq_true rfl)) hK vP_nil rfl hl.1 rfl (Nat.le_of_ble_eq_true rfl) dX4_count_4 ⟨Nat.zero_le _, Nat.zero_le _⟩ (fun r1 h => ?_)
  obtain ⟨b2, h⟩ := h
  refine jn_e h (fun J5 e7 h => ?_)
  have w6 : ∀ (x3 : Int32) (ls : Array Slot) (H : Heap) (locs : List Loc), bz x3 → lv_has ls 2 [(0, .ref (a 0)), (1, .int p1)] → va_P D vwCl (mdW cI a u) H → va_D A (mdW cI a u) → va_S A H0 H locs → J5 x3 → W p l e rm_X4_count s m args below meth c H locs 0 0 Q (F0 m 15 ls [.int x3, .ref (a 0)]) := by
    intro x3 ls H locs b4 hl hP hD hS h
    subst e7
    refine rwVi0 (As := [.int x3]) (rest := []) F (c_X4_holds l D cI cS cJ a u H.size x3 h) (cw_X4_86 hts (Nat.le_of_ble_eq_true rfl) (Nat.le_of_ble_eq_true rfl)) hK hP hD hS hA (recv (ci := 4) (k0 := 0) hK hP rfl rfl) rfl hl.1 rfl (Nat.le_of_ble_eq_true rfl) dX4_count_15 ⟨Nat.zero_le _, Nat.zero_le _⟩ (fun r8 u10 H locs h hP hD hS => ?_)
    obtain ⟨b9, h⟩ := h
    refine lv_if_eq (tgt := 32) hx hb dX4_count_18 (by decide) (fun c11 => ?_) (fun c11 => ?_)
    · replace h := h.1 c11
      refine lv_iconst (v := (0 : Int32)) hx hb dX4_count_32 (by decide) ?_
      exact hQ h hP hD hS dX4_count_33
    · replace h := h.2 c11
      refine lv_aload_n hx hb dX4_count_21 rfl (lv_at hl 0 rfl) ?_
      refine va_get (D := D) (ci := 4) (v := .ref (a 1)) (C := RX4) (T := TX4) (N := 12) hx hb hts inT4 hown hK.k hP 0 rfl rfl 1 (by decide) (hts _ q_820) (fun _ h9 => h9) rfl dX4_count_22 ?_
      refine lv_iconst (v := (3 : Int32)) hx hb dX4_count_25 (by decide) ?_
      refine lv_iload_n hx hb dX4_count_26 rfl (lv_at hl 1 rfl) ?_
      refine lv_iadd hx hb dX4_count_27 ?_
      refine va_iald hx hb hK.k hP 1 0 rfl rfl h.1 dX4_count_28 ?_
      replace h := h.2
      refine lv_goto (tgt := 33) hx hb dX4_count_29 (by decide) ?_
      exact hQ h hP hD hS dX4_count_33
  clear e7
  refine lv_if_eq (tgt := 14) hx hb dX4_count_7 (by decide) (fun c12 => ?_) (fun c12 => ?_)
  · replace h := h.1 c12
    refine lv_iconst (v := (1 : Int32)) hx hb dX4_count_14 (by decide) ?_
    exact w6 (1 : Int32) _ _ _ bz1 hl hP hD hS h
  · replace h := h.2 c12
    refine lv_iconst (v := (0 : Int32)) hx hb dX4_count_10 (by decide) ?_
    refine lv_goto (tgt := 15) hx hb dX4_count_11 (by decide) ?_
    exact w6 (0 : Int32) _ _ _ bz0 hl hP hD hS h

def wp_X4_lostBy (u : Md) (p1 : Int32) (post : Int32 → Prop) : Prop :=
  LP2 (fun (K3 : Int32 → Int32 → Prop) (x1 : Int32) (x2 : Int32) => (vp_in (1 : Int32) 854) ∧ ((((M_s u) (Int32.toNatClampNeg (1 : Int32))) ≤ x2 → post x1) ∧ (¬ ((M_s u) (Int32.toNatClampNeg (1 : Int32))) ≤ x2 → wp_X4_arrivesIn u x2 p1 (fun r6 => jn (fun (x7 : Int32) => K3 (x1 + x7) (x2 + 1)) (fun (J9 : Int32 → Prop) => (¬ r6 = (-1 : Int32) → J9 (0 : Int32)) ∧ (r6 = (-1 : Int32) → J9 (1 : Int32))))))) (0 : Int32) (0 : Int32)
set_option maxHeartbeats 4000000 in
set_option maxRecDepth 100000 in
theorem c_X4_lostBy (l : Launch) (D : va_G) (cI cS cJ : ClassId) (a : Nat → Nat) (u : Md) (H0 : Heap) (p1 : Int32) {post : Int32 → Prop} (h : wp_X4_lostBy u p1 post) : Met l yX4_lostBy (wsA yX4_lostBy cX4_lostBy 4 (some .int)) rm_X4_lostBy (va_Pc [.ref (a 0), .int p1] (roP D (tysA cI cS cJ) (mdW cI a u) H0)) (va_Qi (fun r (_ : Unit) => post r) (fun _ t => t.heap = H0) nF) 0 0 nF := by
  refine mkROi (by decide +kernel) (Nat.le_of_ble_eq_true rfl) (fun {p e s m args below meth c Q ls} hx hb F hts hown hK hP hl hQ => ?_)
  have hown : s.vm.findClass RX4 = some m.cls := hown
  have F : CallFix p m c cX4_lostBy 4 s args wsT RX4 := F
  have hl : lv_has ls 4 [(0, .ref (a 0)), (1, .int p1)] := hl
  unfold wp_X4_lostBy at h
  refine lv_iconst (v := (0 : Int32)) hx hb dX4_lostBy_0 (by decide) ?_
  refine lv_istore_n (lv' := [(2, .int (0 : Int32)), (0, .ref (a 0)), (1, .int p1)]) hx hb dX4_lostBy_1 rfl hl (by decide) rfl (fun ls hl => ?_)
  refine lv_iconst (v := (0 : Int32)) hx hb dX4_lostBy_2 (by decide) ?_
  refine lv_istore_n (lv' := [(3, .int (0 : Int32)), (2, .int (0 : Int32)), (0, .ref (a 0)), (1, .int p1)]) hx hb dX4_lostBy_3 rfl hl (by decide) rfl (fun ls hl => ?_)
  refine lpu2 h (fun K3 : Int32 → Int32 → Prop => ∀ (x1 : Int32) (x2 : Int32) (ls : Array Slot), lv_has ls 4 [(0, .ref (a 0)), (1, .int p1), (2, .int x1), (3, .int x2)] → K3 x1 x2 → W p l e rm_X4_lostBy s m args below meth c H0 [] 0 0 Q (F0 m 4 ls [])) ?_ ?_ ?_
  · intro x1 x2 ls hl h
    exact h.elim
  · intro K3
    intro w4 x1 x2 ls hl h
    refine lv_iload_n hx hb dX4_lostBy_4 rfl (lv_at hl 3 rfl) ?_
    refine lv_aload_n hx hb dX4_lostBy_5 rfl (lv_at hl 0 rfl) ?_
    refine va_get (D := D) (ci := 4) (v := .ref (a 1)) (C := RX4) (T := TX4) (N := 12) hx hb hts inT4 hown hK.k hP 0 rfl rfl 1 (by decide) (hts _ q_820) (fun _ h9 => h9) rfl dX4_lostBy_6 ?_
    refine lv_iconst (v := (1 : Int32)) hx hb dX4_lostBy_9 (by decide) ?_
    refine va_iald hx hb hK.k hP 1 0 rfl rfl h.1 dX4_lostBy_10 ?_
    replace h := h.2
    refine lv_icmp_ge (tgt := 38) hx hb dX4_lostBy_11 (by decide) (fun c5 => ?_) (fun c5 => ?_)
    · replace h := h.1 c5
      refine lv_iload_n hx hb dX4_lostBy_38 rfl (lv_at hl 2 rfl) ?_
      exact hQ h dX4_lostBy_39
    · replace h := h.2 c5
      refine lv_iload_n hx hb dX4_lostBy_14 rfl (lv_at hl 2 rfl) ?_
      refine lv_aload_n hx hb dX4_lostBy_15 rfl (lv_at hl 0 rfl) ?_
      refine lv_iload_n hx hb dX4_lostBy_16 rfl (lv_at hl 3 rfl) ?_
      refine lv_iload_n hx hb dX4_lostBy_17 rfl (lv_at hl 1 rfl) ?_
      refine roVi (As := [.int x2, .int p1]) (rest := [.int x1]) F (c_X4_arrivesIn l D cI cS cJ a u H0 x2 p1 h) (cw_X4_141 hts (Nat.le_of_ble_eq_true rfl) (Nat.le_of_ble_eq_true rfl)) hK hP (recv (ci := 4) (k0 := 0) hK hP rfl rfl) rfl hl.1 rfl (Nat.le_of_ble_eq_true rfl) dX4_lostBy_18 ⟨Nat.zero_le _, Nat.zero_le _⟩ (fun r6 h => ?_)
      refine lv_iconst (v := (-1 : Int32)) hx hb dX4_lostBy_21 (by decide) ?_
      refine jn_e h (fun J9 e11 h => ?_)
      have w10 : ∀ (x7 : Int32) (ls : Array Slot), bz x7 → lv_has ls 4 [(0, .ref (a 0)), (1, .int p1), (3, .int x2)] → J9 x7 → W p l e rm_X4_lostBy s m args below meth c H0 [] 0 0 Q (F0 m 30 ls [.int x7, .int x1]) := by
        intro x7 ls b8 hl h
        subst e11
        refine lv_iadd hx hb dX4_lostBy_30 ?_
        refine lv_istore_n (lv' := [(2, .int (x1 + x7)), (0, .ref (a 0)), (1, .int p1), (3, .int x2)]) hx hb dX4_lostBy_31 rfl hl (by decide) rfl (fun ls hl => ?_)
        refine lv_iinc (v := (x2 + 1)) (lv' := [(3, .int (x2 + 1)), (2, .int (x1 + x7)), (0, .ref (a 0)), (1, .int p1)]) hx hb dX4_lostBy_32 hl (k := 3) rfl rfl (by decide) rfl (fun ls hl => ?_)
        refine lv_goto (tgt := 4) hx hb dX4_lostBy_35 (by decide) ?_
        exact w4 (x1 + x7) (x2 + 1) _ (lv_sub hl [2, 3, 1, 0] rfl) h
      clear e11
      refine lv_icmp_ne (tgt := 29) hx hb dX4_lostBy_22 (by decide) (fun c12 => ?_) (fun c12 => ?_)
      · replace h := h.1 c12
        refine lv_iconst (v := (0 : Int32)) hx hb dX4_lostBy_29 (by decide) ?_
        exact w10 (0 : Int32) _ bz0 (lv_sub hl [0, 1, 3] rfl) h
      · replace h := h.2 c12
        refine lv_iconst (v := (1 : Int32)) hx hb dX4_lostBy_25 (by decide) ?_
        refine lv_goto (tgt := 30) hx hb dX4_lostBy_26 (by decide) ?_
        exact w10 (1 : Int32) _ bz1 (lv_sub hl [0, 1, 3] rfl) h
  · intro K3 w4 h
    exact w4 (0 : Int32) (0 : Int32) _ (lv_sub hl [2, 3, 1, 0] rfl) h

def wp_X4_lostIfClosed (u : Md) (p1 : Int32) (post : Int32 → Md → Prop) : Prop :=
  wp_X4_isInn p1 (fun r1 => jn (fun (x3 : Int32) => wp_X4_holds u x3 (fun r8 u10 => (r8 = 0 → post (0 : Int32) u10) ∧ (¬ r8 = 0 → wp_X4_lostBy u10 p1 (fun r12 => post r12 u10)))) (fun (J5 : Int32 → Prop) => (r1 = 0 → J5 (1 : Int32)) ∧ (¬ r1 = 0 → J5 (0 : Int32))))
set_option maxHeartbeats 4000000 in
set_option maxRecDepth 100000 in
theorem c_X4_lostIfClosed (l : Launch) (D : va_G) (cI cS cJ : ClassId) (a : Nat → Nat) (u : Md) (sz : Nat) (p1 : Int32) {post : Int32 → Md → Prop} (h : wp_X4_lostIfClosed u p1 post) : Met l yX4_lostIfClosed (wsA yX4_lostIfClosed cX4_lostIfClosed 2 (some .int)) rm_X4_lostIfClosed (va_Pc [.ref (a 0), .int p1] (rwP D (tysA cI cS cJ) (mdW cI a u) sz)) (va_Qi post (fun u9 t => va_P D vwCl ((mdW cI a) u9) t.heap ∧ va_D (va_A (mdW cI a u) sz) ((mdW cI a) u9)) (va_A (mdW cI a u) sz)) 0 0 (va_A (mdW cI a u) sz) := by
  refine mkRWi (wf := (mdW cI a)) (by decide +kernel) (Nat.le_of_ble_eq_true rfl) (fun {p e s m args below meth c Q ls A H0 H locs} hx hb F hts hown hK hP hD hS hA hl hQ => ?_)
  have hown : s.vm.findClass RX4 = some m.cls := hown
  have F : CallFix p m c cX4_lostIfClosed 2 s args wsT RX4 := F
  have hl : lv_has ls 2 [(0, .ref (a 0)), (1, .int p1)] := hl
  unfold wp_X4_lostIfClosed at h
  refine lv_aload_n hx hb dX4_lostIfClosed_0 rfl (lv_at hl 0 rfl) ?_
  refine lv_iload_n hx hb dX4_lostIfClosed_1 rfl (lv_at hl 1 rfl) ?_
  refine roSi (As := [.int p1]) (rest := [.ref (a 0)]) F (c_X4_isInn l D cI cS cJ H p1 h) (cw_X4_83 hts (Nat.le_of_ble_eq_true rfl) (Nat.le_of_ble_eq_true rfl)) hK vP_nil rfl hl.1 rfl (Nat.le_of_ble_eq_true rfl) dX4_lostIfClosed_2 ⟨Nat.zero_le _, Nat.zero_le _⟩ (fun r1 h => ?_)
  obtain ⟨b2, h⟩ := h
  refine jn_e h (fun J5 e7 h => ?_)
  have w6 : ∀ (x3 : Int32) (ls : Array Slot) (H : Heap) (locs : List Loc), bz x3 → lv_has ls 2 [(0, .ref (a 0)), (1, .int p1)] → va_P D vwCl (mdW cI a u) H → va_D A (mdW cI a u) → va_S A H0 H locs → J5 x3 → W p l e rm_X4_lostIfClosed s m args below meth c H locs 0 0 Q (F0 m 13 ls [.int x3, .ref (a 0)]) := by
    intro x3 ls H locs b4 hl hP hD hS h
    subst e7
    refine rwVi0 (As := [.int x3]) (rest := []) F (c_X4_holds l D cI cS cJ a u H.size x3 h) (cw_X4_86 hts (Nat.le_of_ble_eq_true rfl) (Nat.le_of_ble_eq_true rfl)) hK hP hD hS hA (recv (ci := 4) (k0 := 0) hK hP rfl rfl) rfl hl.1 rfl (Nat.le_of_ble_eq_true rfl) dX4_lostIfClosed_13 ⟨Nat.zero_le _, Nat.zero_le _⟩ (fun r8 u10 H locs h hP hD hS => ?_)
    obtain ⟨b9, h⟩ := h
    refine lv_if_eq (tgt := 27) hx hb dX4_lostIfClosed_16 (by decide) (fun c11 => ?_) (fun c11 => ?_)
    · replace h := h.1 c11
      refine lv_iconst (v := (0 : Int32)) hx hb dX4_lostIfClosed_27 (by decide) ?_
      exact hQ h hP hD hS dX4_lostIfClosed_28
    · replace h := h.2 c11
      refine lv_aload_n hx hb dX4_lostIfClosed_19 rfl (lv_at hl 0 rfl) ?_
      refine lv_iload_n hx hb dX4_lostIfClosed_20 rfl (lv_at hl 1 rfl) ?_
      refine roVi (As := [.int p1]) (rest := []) F (c_X4_lostBy l D cI cS cJ a u10 H p1 h) (cw_X4_144 hts (Nat.le_of_ble_eq_true rfl) (Nat.le_of_ble_eq_true rfl)) hK hP (recv (ci := 4) (k0 := 0) hK hP rfl rfl) rfl hl.1 rfl (Nat.le_of_ble_eq_true rfl) dX4_lostIfClosed_21 ⟨Nat.zero_le _, Nat.zero_le _⟩ (fun r12 h => ?_)
      refine lv_goto (tgt := 28) hx hb dX4_lostIfClosed_24 (by decide) ?_
      exact hQ h hP hD hS dX4_lostIfClosed_28
  clear e7
  refine lv_if_eq (tgt := 12) hx hb dX4_lostIfClosed_5 (by decide) (fun c13 => ?_) (fun c13 => ?_)
  · replace h := h.1 c13
    refine lv_iconst (v := (1 : Int32)) hx hb dX4_lostIfClosed_12 (by decide) ?_
    exact w6 (1 : Int32) _ _ _ bz1 hl hP hD hS h
  · replace h := h.2 c13
    refine lv_iconst (v := (0 : Int32)) hx hb dX4_lostIfClosed_8 (by decide) ?_
    refine lv_goto (tgt := 13) hx hb dX4_lostIfClosed_9 (by decide) ?_
    exact w6 (0 : Int32) _ _ _ bz0 hl hP hD hS h

def wp_X4_ticksTo (u : Md) (p1 : Int32) (post : Int32 → Md → Prop) : Prop :=
  wp_X4_isEnvelope u p1 (fun r1 => jn (fun (x3 : Int32) => wp_X4_holds u x3 (fun r8 u10 => (r8 = 0 → post (0 : Int32) u10) ∧ (¬ r8 = 0 → wp_X4_arrivesIn u10 p1 (-1 : Int32) (fun r12 => post r12 u10)))) (fun (J5 : Int32 → Prop) => (r1 = 0 → J5 (1 : Int32)) ∧ (¬ r1 = 0 → J5 (0 : Int32))))
set_option maxHeartbeats 4000000 in
set_option maxRecDepth 100000 in
theorem c_X4_ticksTo (l : Launch) (D : va_G) (cI cS cJ : ClassId) (a : Nat → Nat) (u : Md) (sz : Nat) (p1 : Int32) {post : Int32 → Md → Prop} (h : wp_X4_ticksTo u p1 post) : Met l yX4_ticksTo (wsA yX4_ticksTo cX4_ticksTo 2 (some .int)) rm_X4_ticksTo (va_Pc [.ref (a 0), .int p1] (rwP D (tysA cI cS cJ) (mdW cI a u) sz)) (va_Qi post (fun u9 t => va_P D vwCl ((mdW cI a) u9) t.heap ∧ va_D (va_A (mdW cI a u) sz) ((mdW cI a) u9)) (va_A (mdW cI a u) sz)) 0 0 (va_A (mdW cI a u) sz) := by
  refine mkRWi (wf := (mdW cI a)) (by decide +kernel) (Nat.le_of_ble_eq_true rfl) (fun {p e s m args below meth c Q ls A H0 H locs} hx hb F hts hown hK hP hD hS hA hl hQ => ?_)
  have hown : s.vm.findClass RX4 = some m.cls := hown
  have F : CallFix p m c cX4_ticksTo 2 s args wsT RX4 := F
  have hl : lv_has ls 2 [(0, .ref (a 0)), (1, .int p1)] := hl
  unfold wp_X4_ticksTo at h
  refine lv_aload_n hx hb dX4_ticksTo_0 rfl (lv_at hl 0 rfl) ?_
  refine lv_aload_n hx hb dX4_ticksTo_1 rfl (lv_at hl 0 rfl) ?_
  refine lv_iload_n hx hb dX4_ticksTo_2 rfl (lv_at hl 1 rfl) ?_
  refine roVi (As := [.int p1]) (rest := [.ref (a 0)]) F (c_X4_isEnvelope l D cI cS cJ a u H p1 h) (cw_X4_138 hts (Nat.le_of_ble_eq_true rfl) (Nat.le_of_ble_eq_true rfl)) hK hP (recv (ci := 4) (k0 := 0) hK hP rfl rfl) rfl hl.1 rfl (Nat.le_of_ble_eq_true rfl) dX4_ticksTo_3 ⟨Nat.zero_le _, Nat.zero_le _⟩ (fun r1 h => ?_)
  obtain ⟨b2, h⟩ := h
  refine jn_e h (fun J5 e7 h => ?_)
  have w6 : ∀ (x3 : Int32) (ls : Array Slot) (H : Heap) (locs : List Loc), bz x3 → lv_has ls 2 [(0, .ref (a 0)), (1, .int p1)] → va_P D vwCl (mdW cI a u) H → va_D A (mdW cI a u) → va_S A H0 H locs → J5 x3 → W p l e rm_X4_ticksTo s m args below meth c H locs 0 0 Q (F0 m 14 ls [.int x3, .ref (a 0)]) := by
    intro x3 ls H locs b4 hl hP hD hS h
    subst e7
    refine rwVi0 (As := [.int x3]) (rest := []) F (c_X4_holds l D cI cS cJ a u H.size x3 h) (cw_X4_86 hts (Nat.le_of_ble_eq_true rfl) (Nat.le_of_ble_eq_true rfl)) hK hP hD hS hA (recv (ci := 4) (k0 := 0) hK hP rfl rfl) rfl hl.1 rfl (Nat.le_of_ble_eq_true rfl) dX4_ticksTo_14 ⟨Nat.zero_le _, Nat.zero_le _⟩ (fun r8 u10 H locs h hP hD hS => ?_)
    obtain ⟨b9, h⟩ := h
    refine lv_if_eq (tgt := 29) hx hb dX4_ticksTo_17 (by decide) (fun c11 => ?_) (fun c11 => ?_)
    · replace h := h.1 c11
      refine lv_iconst (v := (0 : Int32)) hx hb dX4_ticksTo_29 (by decide) ?_
      exact hQ h hP hD hS dX4_ticksTo_30
    · replace h := h.2 c11
      refine lv_aload_n hx hb dX4_ticksTo_20 rfl (lv_at hl 0 rfl) ?_
      refine lv_iload_n hx hb dX4_ticksTo_21 rfl (lv_at hl 1 rfl) ?_
      refine lv_iconst (v := (-1 : Int32)) hx hb dX4_ticksTo_22 (by decide) ?_
      refine roVi (As := [.int p1, .int (-1 : Int32)]) (rest := []) F (c_X4_arrivesIn l D cI cS cJ a u10 H p1 (-1 : Int32) h) (cw_X4_141 hts (Nat.le_of_ble_eq_true rfl) (Nat.le_of_ble_eq_true rfl)) hK hP (recv (ci := 4) (k0 := 0) hK hP rfl rfl) rfl hl.1 rfl (Nat.le_of_ble_eq_true rfl) dX4_ticksTo_23 ⟨Nat.zero_le _, Nat.zero_le _⟩ (fun r12 h => ?_)
      refine lv_goto (tgt := 30) hx hb dX4_ticksTo_26 (by decide) ?_
      exact hQ h hP hD hS dX4_ticksTo_30
  clear e7
  refine lv_if_eq (tgt := 13) hx hb dX4_ticksTo_6 (by decide) (fun c13 => ?_) (fun c13 => ?_)
  · replace h := h.1 c13
    refine lv_iconst (v := (1 : Int32)) hx hb dX4_ticksTo_13 (by decide) ?_
    exact w6 (1 : Int32) _ _ _ bz1 hl hP hD hS h
  · replace h := h.2 c13
    refine lv_iconst (v := (0 : Int32)) hx hb dX4_ticksTo_9 (by decide) ?_
    refine lv_goto (tgt := 14) hx hb dX4_ticksTo_10 (by decide) ?_
    exact w6 (0 : Int32) _ _ _ bz0 hl hP hD hS h

def wp_X4_work (u : Md) (p1 : Int32) (post : Int32 → Prop) : Prop :=
  LP2 (fun (K3 : Int32 → Int32 → Prop) (x1 : Int32) (x2 : Int32) => (vp_in (0 : Int32) 854) ∧ ((((M_s u) (Int32.toNatClampNeg (0 : Int32))) ≤ x2 → post (((8 : Int32) * x1) + p1)) ∧ (¬ ((M_s u) (Int32.toNatClampNeg (0 : Int32))) ≤ x2 → wp_X4_placeOn u p1 x2 (fun r6 => jn (fun (x7 : Int32) => K3 (x1 + x7) (x2 + 1)) (fun (J9 : Int32 → Prop) => (r6 ≤ 0 → J9 (0 : Int32)) ∧ (¬ r6 ≤ 0 → J9 (1 : Int32))))))) (0 : Int32) (0 : Int32)
set_option maxHeartbeats 4000000 in
set_option maxRecDepth 100000 in
theorem c_X4_work (l : Launch) (D : va_G) (cI cS cJ : ClassId) (a : Nat → Nat) (u : Md) (H0 : Heap) (p1 : Int32) {post : Int32 → Prop} (h : wp_X4_work u p1 post) : Met l yX4_work (wsA yX4_work cX4_work 4 (some .int)) rm_X4_work (va_Pc [.ref (a 0), .int p1] (roP D (tysA cI cS cJ) (mdW cI a u) H0)) (va_Qi (fun r (_ : Unit) => post r) (fun _ t => t.heap = H0) nF) 0 0 nF := by
  refine mkROi (by decide +kernel) (Nat.le_of_ble_eq_true rfl) (fun {p e s m args below meth c Q ls} hx hb F hts hown hK hP hl hQ => ?_)
  have hown : s.vm.findClass RX4 = some m.cls := hown
  have F : CallFix p m c cX4_work 4 s args wsT RX4 := F
  have hl : lv_has ls 4 [(0, .ref (a 0)), (1, .int p1)] := hl
  unfold wp_X4_work at h
  refine lv_iconst (v := (0 : Int32)) hx hb dX4_work_0 (by decide) ?_
  refine lv_istore_n (lv' := [(2, .int (0 : Int32)), (0, .ref (a 0)), (1, .int p1)]) hx hb dX4_work_1 rfl hl (by decide) rfl (fun ls hl => ?_)
  refine lv_iconst (v := (0 : Int32)) hx hb dX4_work_2 (by decide) ?_
  refine lv_istore_n (lv' := [(3, .int (0 : Int32)), (2, .int (0 : Int32)), (0, .ref (a 0)), (1, .int p1)]) hx hb dX4_work_3 rfl hl (by decide) rfl (fun ls hl => ?_)
  refine lpu2 h (fun K3 : Int32 → Int32 → Prop => ∀ (x1 : Int32) (x2 : Int32) (ls : Array Slot), lv_has ls 4 [(0, .ref (a 0)), (1, .int p1), (2, .int x1), (3, .int x2)] → K3 x1 x2 → W p l e rm_X4_work s m args below meth c H0 [] 0 0 Q (F0 m 4 ls [])) ?_ ?_ ?_
  · intro x1 x2 ls hl h
    exact h.elim
  · intro K3
    intro w4 x1 x2 ls hl h
    refine lv_iload_n hx hb dX4_work_4 rfl (lv_at hl 3 rfl) ?_
    refine lv_aload_n hx hb dX4_work_5 rfl (lv_at hl 0 rfl) ?_
    refine va_get (D := D) (ci := 4) (v := .ref (a 1)) (C := RX4) (T := TX4) (N := 12) hx hb hts inT4 hown hK.k hP 0 rfl rfl 1 (by decide) (hts _ q_820) (fun _ h9 => h9) rfl dX4_work_6 ?_
    refine lv_iconst (v := (0 : Int32)) hx hb dX4_work_9 (by decide) ?_
    refine va_iald hx hb hK.k hP 1 0 rfl rfl h.1 dX4_work_10 ?_
    replace h := h.2
    refine lv_icmp_ge (tgt := 37) hx hb dX4_work_11 (by decide) (fun c5 => ?_) (fun c5 => ?_)
    · replace h := h.1 c5
      refine lv_bipush (v := (8 : Int32)) hx hb dX4_work_37 (by decide) ?_
      refine lv_iload_n hx hb dX4_work_39 rfl (lv_at hl 2 rfl) ?_
      refine lv_imul hx hb dX4_work_40 ?_
      refine lv_iload_n hx hb dX4_work_41 rfl (lv_at hl 1 rfl) ?_
      refine lv_iadd hx hb dX4_work_42 ?_
      exact hQ h dX4_work_43
    · replace h := h.2 c5
      refine lv_iload_n hx hb dX4_work_14 rfl (lv_at hl 2 rfl) ?_
      refine lv_aload_n hx hb dX4_work_15 rfl (lv_at hl 0 rfl) ?_
      refine lv_iload_n hx hb dX4_work_16 rfl (lv_at hl 1 rfl) ?_
      refine lv_iload_n hx hb dX4_work_17 rfl (lv_at hl 3 rfl) ?_
      refine roVi (As := [.int p1, .int x2]) (rest := [.int x1]) F (c_X4_placeOn l D cI cS cJ a u H0 p1 x2 h) (cw_X4_116 hts (Nat.le_of_ble_eq_true rfl) (Nat.le_of_ble_eq_true rfl)) hK hP (recv (ci := 4) (k0 := 0) hK hP rfl rfl) rfl hl.1 rfl (Nat.le_of_ble_eq_true rfl) dX4_work_18 ⟨Nat.zero_le _, Nat.zero_le _⟩ (fun r6 h => ?_)
      refine jn_e h (fun J9 e11 h => ?_)
      have w10 : ∀ (x7 : Int32) (ls : Array Slot), bz x7 → lv_has ls 4 [(0, .ref (a 0)), (1, .int p1), (3, .int x2)] → J9 x7 → W p l e rm_X4_work s m args below meth c H0 [] 0 0 Q (F0 m 29 ls [.int x7, .int x1]) := by
        intro x7 ls b8 hl h
        subst e11
        refine lv_iadd hx hb dX4_work_29 ?_
        refine lv_istore_n (lv' := [(2, .int (x1 + x7)), (0, .ref (a 0)), (1, .int p1), (3, .int x2)]) hx hb dX4_work_30 rfl hl (by decide) rfl (fun ls hl => ?_)
        refine lv_iinc (v := (x2 + 1)) (lv' := [(3, .int (x2 + 1)), (2, .int (x1 + x7)), (0, .ref (a 0)), (1, .int p1)]) hx hb dX4_work_31 hl (k := 3) rfl rfl (by decide) rfl (fun ls hl => ?_)
        refine lv_goto (tgt := 4) hx hb dX4_work_34 (by decide) ?_
        exact w4 (x1 + x7) (x2 + 1) _ (lv_sub hl [2, 3, 1, 0] rfl) h
      clear e11
      refine lv_if_le (tgt := 28) hx hb dX4_work_21 (by decide) (fun c12 => ?_) (fun c12 => ?_)
      · replace h := h.1 c12
        refine lv_iconst (v := (0 : Int32)) hx hb dX4_work_28 (by decide) ?_
        exact w10 (0 : Int32) _ bz0 (lv_sub hl [0, 1, 3] rfl) h
      · replace h := h.2 c12
        refine lv_iconst (v := (1 : Int32)) hx hb dX4_work_24 (by decide) ?_
        refine lv_goto (tgt := 29) hx hb dX4_work_25 (by decide) ?_
        exact w10 (1 : Int32) _ bz1 (lv_sub hl [0, 1, 3] rfl) h
  · intro K3 w4 h
    exact w4 (0 : Int32) (0 : Int32) _ (lv_sub hl [2, 3, 1, 0] rfl) h

def wp_X4_least (u : Md) (p1 : Int32) (post : Int32 → Prop) : Prop :=
  LP1 (fun (K2 : Int32 → Prop) (x1 : Int32) => ((8 : Int32) ≤ x1 → post (-1 : Int32)) ∧ (¬ (8 : Int32) ≤ x1 → LP2 (fun (K7 : Int32 → Int32 → Prop) (x5 : Int32) (x6 : Int32) => ((8 : Int32) ≤ x6 → wp_X4_isOpenNow u x1 (fun r10 => (r10 = 0 → K2 (x1 + 1)) ∧ (¬ r10 = 0 → (¬ x5 = (p1 - (1 : Int32)) → K2 (x1 + 1)) ∧ (x5 = (p1 - (1 : Int32)) → post x1)))) ∧ (¬ (8 : Int32) ≤ x6 → wp_X4_isOpenNow u x6 (fun r14 => jn (fun (x16 : Int32) => K7 (x5 + x16) (x6 + 1)) (fun (J18 : Int32 → Prop) => jn (J18 (0 : Int32)) (fun (J21 : Prop) => (r14 = 0 → J21) ∧ (¬ r14 = 0 → wp_X4_work u x6 (fun r25 => wp_X4_work u x1 (fun r26 => (r26 ≤ r25 → J21) ∧ (¬ r26 ≤ r25 → J18 (1 : Int32)))))))))) (0 : Int32) (0 : Int32))) (0 : Int32)
set_option maxHeartbeats 4000000 in
set_option maxRecDepth 100000 in
theorem c_X4_least (l : Launch) (D : va_G) (cI cS cJ : ClassId) (a : Nat → Nat) (u : Md) (H0 : Heap) (p1 : Int32) {post : Int32 → Prop} (h : wp_X4_least u p1 post) : Met l yX4_least (wsA yX4_least cX4_least 5 (some .int)) rm_X4_least (va_Pc [.ref (a 0), .int p1] (roP D (tysA cI cS cJ) (mdW cI a u) H0)) (va_Qi (fun r (_ : Unit) => post r) (fun _ t => t.heap = H0) nF) 0 0 nF := by
  refine mkROi (by decide +kernel) (Nat.le_of_ble_eq_true rfl) (fun {p e s m args below meth c Q ls} hx hb F hts hown hK hP hl hQ => ?_)
  have hown : s.vm.findClass RX4 = some m.cls := hown
  have F : CallFix p m c cX4_least 5 s args wsT RX4 := F
  have hl : lv_has ls 5 [(0, .ref (a 0)), (1, .int p1)] := hl
  unfold wp_X4_least at h
  refine lv_iconst (v := (0 : Int32)) hx hb dX4_least_0 (by decide) ?_
  refine lv_istore_n (lv' := [(2, .int (0 : Int32)), (0, .ref (a 0)), (1, .int p1)]) hx hb dX4_least_1 rfl hl (by decide) rfl (fun ls hl => ?_)
  refine lpu1 h (fun K2 : Int32 → Prop => ∀ (x1 : Int32) (ls : Array Slot), lv_has ls 5 [(0, .ref (a 0)), (1, .int p1), (2, .int x1)] → K2 x1 → W p l e rm_X4_least s m args below meth c H0 [] 0 0 Q (F0 m 2 ls [])) ?_ ?_ ?_
  · intro x1 ls hl h
    exact h.elim
  · intro K2
    intro w3 x1 ls hl h
    refine lv_iload_n hx hb dX4_least_2 rfl (lv_at hl 2 rfl) ?_
    refine lv_bipush (v := (8 : Int32)) hx hb dX4_least_3 (by decide) ?_
    refine lv_icmp_ge (tgt := 80) hx hb dX4_least_5 (by decide) (fun c4 => ?_) (fun c4 => ?_)
    · replace h := h.1 c4
      refine lv_iconst (v := (-1 : Int32)) hx hb dX4_least_80 (by decide) ?_
      exact hQ h dX4_least_81
    · replace h := h.2 c4
      refine lv_iconst (v := (0 : Int32)) hx hb dX4_least_8 (by decide) ?_
      refine lv_istore_n (lv' := [(3, .int (0 : Int32)), (0, .ref (a 0)), (1, .int p1), (2, .int x1)]) hx hb dX4_least_9 rfl hl (by decide) rfl (fun ls hl => ?_)
      refine lv_iconst (v := (0 : Int32)) hx hb dX4_least_10 (by decide) ?_
      refine lv_istore (lv' := [(4, .int (0 : Int32)), (3, .int (0 : Int32)), (0, .ref (a 0)), (1, .int p1), (2, .int x1)]) hx hb dX4_least_11 hl (by decide) rfl (fun ls hl => ?_)
      refine lpu2 h (fun K7 : Int32 → Int32 → Prop => ∀ (x5 : Int32) (x6 : Int32) (ls : Array Slot), lv_has ls 5 [(0, .ref (a 0)), (1, .int p1), (2, .int x1), (3, .int x5), (4, .int x6)] → K7 x5 x6 → W p l e rm_X4_least s m args below meth c H0 [] 0 0 Q (F0 m 13 ls [])) ?_ ?_ ?_
      · intro x5 x6 ls hl h
        exact h.elim
      · intro K7
        intro w8 x5 x6 ls hl h
        refine lv_iload hx hb dX4_least_13 (lv_at hl 4 rfl) ?_
        refine lv_bipush (v := (8 : Int32)) hx hb dX4_least_15 (by decide) ?_
        refine lv_icmp_ge (tgt := 57) hx hb dX4_least_17 (by decide) (fun c9 => ?_) (fun c9 => ?_)
        · replace h := h.1 c9
          refine lv_aload_n hx hb dX4_least_57 rfl (lv_at hl 0 rfl) ?_
          refine lv_iload_n hx hb dX4_least_58 rfl (lv_at hl 2 rfl) ?_
          refine roVi (As := [.int x1]) (rest := []) F (c_X4_isOpenNow l D cI cS cJ a u H0 x1 h) (cw_X4_28 hts (Nat.le_of_ble_eq_true rfl) (Nat.le_of_ble_eq_true rfl)) hK hP (recv (ci := 4) (k0 := 0) hK hP rfl rfl) rfl hl.1 rfl (Nat.le_of_ble_eq_true rfl) dX4_least_59 ⟨Nat.zero_le _, Nat.zero_le _⟩ (fun r10 h => ?_)
          obtain ⟨b11, h⟩ := h
          refine lv_if_eq (tgt := 74) hx hb dX4_least_62 (by decide) (fun c12 => ?_) (fun c12 => ?_)
          · replace h := h.1 c12
            refine lv_iinc (v := (x1 + 1)) (lv' := [(2, .int (x1 + 1)), (0, .ref (a 0)), (1, .int p1), (3, .int x5), (4, .int x6)]) hx hb dX4_least_74 hl (k := 2) rfl rfl (by decide) rfl (fun ls hl => ?_)
            refine lv_goto (tgt := 2) hx hb dX4_least_77 (by decide) ?_
            exact w3 (x1 + 1) _ (lv_sub hl [1, 2, 0] rfl) h
          · replace h := h.2 c12
            refine lv_iload_n hx hb dX4_least_65 rfl (lv_at hl 3 rfl) ?_
            refine lv_iload_n hx hb dX4_least_66 rfl (lv_at hl 1 rfl) ?_
            refine lv_iconst (v := (1 : Int32)) hx hb dX4_least_67 (by decide) ?_
            refine lv_isub hx hb dX4_least_68 ?_
            refine lv_icmp_ne (tgt := 74) hx hb dX4_least_69 (by decide) (fun c13 => ?_) (fun c13 => ?_)
            · replace h := h.1 c13
              refine lv_iinc (v := (x1 + 1)) (lv' := [(2, .int (x1 + 1)), (0, .ref (a 0)), (1, .int p1), (3, .int x5), (4, .int x6)]) hx hb dX4_least_74 hl (k := 2) rfl rfl (by decide) rfl (fun ls hl => ?_)
              refine lv_goto (tgt := 2) hx hb dX4_least_77 (by decide) ?_
              exact w3 (x1 + 1) _ (lv_sub hl [1, 2, 0] rfl) h
            · replace h := h.2 c13
              refine lv_iload_n hx hb dX4_least_72 rfl (lv_at hl 2 rfl) ?_
              exact hQ h dX4_least_73
        · replace h := h.2 c9
          refine lv_iload_n hx hb dX4_least_20 rfl (lv_at hl 3 rfl) ?_
          refine lv_aload_n hx hb dX4_least_21 rfl (lv_at hl 0 rfl) ?_
          refine lv_iload hx hb dX4_least_22 (lv_at hl 4 rfl) ?_
          refine roVi (As := [.int x6]) (rest := [.int x5]) F (c_X4_isOpenNow l D cI cS cJ a u H0 x6 h) (cw_X4_28 hts (Nat.le_of_ble_eq_true rfl) (Nat.le_of_ble_eq_true rfl)) hK hP (recv (ci := 4) (k0 := 0) hK hP rfl rfl) rfl hl.1 rfl (Nat.le_of_ble_eq_true rfl) dX4_least_24 ⟨Nat.zero_le _, Nat.zero_le _⟩ (fun r14 h => ?_)
          obtain ⟨b15, h⟩ := h
          refine jn_e h (fun J18 e20 h => ?_)
          have w19 : ∀ (x16 : Int32) (ls : Array Slot), bz x16 → lv_has ls 5 [(0, .ref (a 0)), (1, .int p1), (2, .int x1), (4, .int x6)] → J18 x16 → W p l e rm_X4_least s m args below meth c H0 [] 0 0 Q (F0 m 49 ls [.int x16, .int x5]) := by
            intro x16 ls b17 hl h
            subst e20
            refine lv_iadd hx hb dX4_least_49 ?_
            refine lv_istore_n (lv' := [(3, .int (x5 + x16)), (0, .ref (a 0)), (1, .int p1), (2, .int x1), (4, .int x6)]) hx hb dX4_least_50 rfl hl (by decide) rfl (fun ls hl => ?_)
            refine lv_iinc (v := (x6 + 1)) (lv' := [(4, .int (x6 + 1)), (3, .int (x5 + x16)), (0, .ref (a 0)), (1, .int p1), (2, .int x1)]) hx hb dX4_least_51 hl (k := 4) rfl rfl (by decide) rfl (fun ls hl => ?_)
            refine lv_goto (tgt := 13) hx hb dX4_least_54 (by decide) ?_
            exact w8 (x5 + x16) (x6 + 1) _ (lv_sub hl [2, 3, 4, 1, 0] rfl) h
          clear e20
          refine jn_e h (fun J21 e23 h => ?_)
          have w22 : ∀  (ls : Array Slot), lv_has ls 5 [(0, .ref (a 0)), (1, .int p1), (2, .int x1), (4, .int x6)] → J21 → W p l e rm_X4_least s m args below meth c H0 [] 0 0 Q (F0 m 48 ls [.int x5]) := by
            intro ls hl h
            subst e23
            refine lv_iconst (v := (0 : Int32)) hx hb dX4_least_48 (by decide) ?_
            exact w19 (0 : Int32) _ bz0 hl h
          clear e23
          refine lv_if_eq (tgt := 48) hx hb dX4_least_27 (by decide) (fun c24 => ?_) (fun c24 => ?_)
          · replace h := h.1 c24
            exact w22 _ (lv_sub hl [0, 1, 2, 4] rfl) h
          · replace h := h.2 c24
            refine lv_aload_n hx hb dX4_least_30 rfl (lv_at hl 0 rfl) ?_
            refine lv_iload hx hb dX4_least_31 (lv_at hl 4 rfl) ?_
            refine roVi (As := [.int x6]) (rest := [.int x5]) F (c_X4_work l D cI cS cJ a u H0 x6 h) (cw_X4_147 hts (Nat.le_of_ble_eq_true rfl) (Nat.le_of_ble_eq_true rfl)) hK hP (recv (ci := 4) (k0 := 0) hK hP rfl rfl) rfl hl.1 rfl (Nat.le_of_ble_eq_true rfl) dX4_least_33 ⟨Nat.zero_le _, Nat.zero_le _⟩ (fun r25 h => ?_)
            refine lv_aload_n hx hb dX4_least_36 rfl (lv_at hl 0 rfl) ?_
            refine lv_iload_n hx hb dX4_least_37 rfl (lv_at hl 2 rfl) ?_
            refine roVi (As := [.int x1]) (rest := [.int r25, .int x5]) F (c_X4_work l D cI cS cJ a u H0 x1 h) (cw_X4_147 hts (Nat.le_of_ble_eq_true rfl) (Nat.le_of_ble_eq_true rfl)) hK hP (recv (ci := 4) (k0 := 0) hK hP rfl rfl) rfl hl.1 rfl (Nat.le_of_ble_eq_true rfl) dX4_least_38 ⟨Nat.zero_le _, Nat.zero_le _⟩ (fun r26 h => ?_)
            refine lv_icmp_ge (tgt := 48) hx hb dX4_least_41 (by decide) (fun c27 => ?_) (fun c27 => ?_)
            · replace h := h.1 c27
              exact w22 _ (lv_sub hl [0, 1, 2, 4] rfl) h
            · replace h := h.2 c27
              refine lv_iconst (v := (1 : Int32)) hx hb dX4_least_44 (by decide) ?_
              refine lv_goto (tgt := 49) hx hb dX4_least_45 (by decide) ?_
              exact w19 (1 : Int32) _ bz1 (lv_sub hl [0, 1, 2, 4] rfl) h
      · intro K7 w8 h
        exact w8 (0 : Int32) (0 : Int32) _ (lv_sub hl [2, 3, 4, 1, 0] rfl) h
  · intro K2 w3 h
    exact w3 (0 : Int32) _ (lv_sub hl [1, 2, 0] rfl) h

def wp_X4_leastWork (u : Md) (p1 : Int32) (post : Int32 → Md → Prop) : Prop :=
  wp_X4_in p1 (1 : Int32) (3 : Int32) (fun r1 => jn (fun (x3 : Int32) => wp_X4_holds u x3 (fun r8 u10 => (r8 = 0 → post (0 : Int32) u10) ∧ (¬ r8 = 0 → wp_X4_least u10 p1 (fun r12 => post r12 u10)))) (fun (J5 : Int32 → Prop) => (r1 = 0 → J5 (1 : Int32)) ∧ (¬ r1 = 0 → J5 (0 : Int32))))
set_option maxHeartbeats 4000000 in
set_option maxRecDepth 100000 in
theorem c_X4_leastWork (l : Launch) (D : va_G) (cI cS cJ : ClassId) (a : Nat → Nat) (u : Md) (sz : Nat) (p1 : Int32) {post : Int32 → Md → Prop} (h : wp_X4_leastWork u p1 post) : Met l yX4_leastWork (wsA yX4_leastWork cX4_leastWork 2 (some .int)) rm_X4_leastWork (va_Pc [.ref (a 0), .int p1] (rwP D (tysA cI cS cJ) (mdW cI a u) sz)) (va_Qi post (fun u9 t => va_P D vwCl ((mdW cI a) u9) t.heap ∧ va_D (va_A (mdW cI a u) sz) ((mdW cI a) u9)) (va_A (mdW cI a u) sz)) 0 0 (va_A (mdW cI a u) sz) := by
  refine mkRWi (wf := (mdW cI a)) (by decide +kernel) (Nat.le_of_ble_eq_true rfl) (fun {p e s m args below meth c Q ls A H0 H locs} hx hb F hts hown hK hP hD hS hA hl hQ => ?_)
  have hown : s.vm.findClass RX4 = some m.cls := hown
  have F : CallFix p m c cX4_leastWork 2 s args wsT RX4 := F
  have hl : lv_has ls 2 [(0, .ref (a 0)), (1, .int p1)] := hl
  unfold wp_X4_leastWork at h
  refine lv_aload_n hx hb dX4_leastWork_0 rfl (lv_at hl 0 rfl) ?_
  refine lv_iload_n hx hb dX4_leastWork_1 rfl (lv_at hl 1 rfl) ?_
  refine lv_iconst (v := (1 : Int32)) hx hb dX4_leastWork_2 (by decide) ?_
  refine lv_iconst (v := (3 : Int32)) hx hb dX4_leastWork_3 (by decide) ?_
  refine roSi (As := [.int p1, .int (1 : Int32), .int (3 : Int32)]) (rest := [.ref (a 0)]) F (c_X4_in l D cI cS cJ H p1 (1 : Int32) (3 : Int32) h) (cw_X4_20 hts (Nat.le_of_ble_eq_true rfl) (Nat.le_of_ble_eq_true rfl)) hK vP_nil rfl hl.1 rfl (Nat.le_of_ble_eq_true rfl) dX4_leastWork_4 ⟨Nat.zero_le _, Nat.zero_le _⟩ (fun r1 h => ?_)
  obtain ⟨b2, h⟩ := h
  refine jn_e h (fun J5 e7 h => ?_)
  have w6 : ∀ (x3 : Int32) (ls : Array Slot) (H : Heap) (locs : List Loc), bz x3 → lv_has ls 2 [(0, .ref (a 0)), (1, .int p1)] → va_P D vwCl (mdW cI a u) H → va_D A (mdW cI a u) → va_S A H0 H locs → J5 x3 → W p l e rm_X4_leastWork s m args below meth c H locs 0 0 Q (F0 m 15 ls [.int x3, .ref (a 0)]) := by
    intro x3 ls H locs b4 hl hP hD hS h
    subst e7
    refine rwVi0 (As := [.int x3]) (rest := []) F (c_X4_holds l D cI cS cJ a u H.size x3 h) (cw_X4_86 hts (Nat.le_of_ble_eq_true rfl) (Nat.le_of_ble_eq_true rfl)) hK hP hD hS hA (recv (ci := 4) (k0 := 0) hK hP rfl rfl) rfl hl.1 rfl (Nat.le_of_ble_eq_true rfl) dX4_leastWork_15 ⟨Nat.zero_le _, Nat.zero_le _⟩ (fun r8 u10 H locs h hP hD hS => ?_)
    obtain ⟨b9, h⟩ := h
    refine lv_if_eq (tgt := 29) hx hb dX4_leastWork_18 (by decide) (fun c11 => ?_) (fun c11 => ?_)
    · replace h := h.1 c11
      refine lv_iconst (v := (0 : Int32)) hx hb dX4_leastWork_29 (by decide) ?_
      exact hQ h hP hD hS dX4_leastWork_30
    · replace h := h.2 c11
      refine lv_aload_n hx hb dX4_leastWork_21 rfl (lv_at hl 0 rfl) ?_
      refine lv_iload_n hx hb dX4_leastWork_22 rfl (lv_at hl 1 rfl) ?_
      refine roVi (As := [.int p1]) (rest := []) F (c_X4_least l D cI cS cJ a u10 H p1 h) (cw_X4_150 hts (Nat.le_of_ble_eq_true rfl) (Nat.le_of_ble_eq_true rfl)) hK hP (recv (ci := 4) (k0 := 0) hK hP rfl rfl) rfl hl.1 rfl (Nat.le_of_ble_eq_true rfl) dX4_leastWork_23 ⟨Nat.zero_le _, Nat.zero_le _⟩ (fun r12 h => ?_)
      refine lv_goto (tgt := 30) hx hb dX4_leastWork_26 (by decide) ?_
      exact hQ h hP hD hS dX4_leastWork_30
  clear e7
  refine lv_if_eq (tgt := 14) hx hb dX4_leastWork_7 (by decide) (fun c13 => ?_) (fun c13 => ?_)
  · replace h := h.1 c13
    refine lv_iconst (v := (1 : Int32)) hx hb dX4_leastWork_14 (by decide) ?_
    exact w6 (1 : Int32) _ _ _ bz1 hl hP hD hS h
  · replace h := h.2 c13
    refine lv_iconst (v := (0 : Int32)) hx hb dX4_leastWork_10 (by decide) ?_
    refine lv_goto (tgt := 15) hx hb dX4_leastWork_11 (by decide) ?_
    exact w6 (0 : Int32) _ _ _ bz0 hl hP hD hS h

def wp_X4_append (u : Md) (p1 : Int32) (post : Int32 → Md → Prop) : Prop :=
  wp_X4_in p1 (33 : Int32) (126 : Int32) (fun r1 => jn (fun (x3 : Int32) => wp_X4_holds u x3 (fun r7 u9 => (¬ r7 = 0 → (vp_in (M_length u9) 60) ∧ (post (M_length (sM_length (wM_text u9 (Int32.toNatClampNeg (M_length u9)) p1) ((M_length (wM_text u9 (Int32.toNatClampNeg (M_length u9)) p1)) + (1 : Int32)))) (sM_length (wM_text u9 (Int32.toNatClampNeg (M_length u9)) p1) ((M_length (wM_text u9 (Int32.toNatClampNeg (M_length u9)) p1)) + (1 : Int32))))) ∧ (r7 = 0 → post (0 : Int32) u9))) (fun (J4 : Int32 → Prop) => (¬ r1 = 0 → (¬ (M_length u) = (60 : Int32) → J4 (0 : Int32)) ∧ ((M_length u) = (60 : Int32) → J4 (2 : Int32))) ∧ (r1 = 0 → J4 (1 : Int32))))
set_option maxHeartbeats 4000000 in
set_option maxRecDepth 100000 in
theorem c_X4_append (l : Launch) (D : va_G) (cI cS cJ : ClassId) (a : Nat → Nat) (u : Md) (sz : Nat) (p1 : Int32) {post : Int32 → Md → Prop} (h : wp_X4_append u p1 post) : Met l yX4_append (wsA yX4_append cX4_append 2 (some .int)) rm_X4_append (va_Pc [.ref (a 0), .int p1] (rwP D (tysA cI cS cJ) (mdW cI a u) sz)) (va_Qi post (fun u9 t => va_P D vwCl ((mdW cI a) u9) t.heap ∧ va_D (va_A (mdW cI a u) sz) ((mdW cI a) u9)) (va_A (mdW cI a u) sz)) 0 0 (va_A (mdW cI a u) sz) := by
  refine mkRWi (wf := (mdW cI a)) (by decide +kernel) (Nat.le_of_ble_eq_true rfl) (fun {p e s m args below meth c Q ls A H0 H locs} hx hb F hts hown hK hP hD hS hA hl hQ => ?_)
  have hown : s.vm.findClass RX4 = some m.cls := hown
  have F : CallFix p m c cX4_append 2 s args wsT RX4 := F
  have hl : lv_has ls 2 [(0, .ref (a 0)), (1, .int p1)] := hl
  unfold wp_X4_append at h
  refine lv_aload_n hx hb dX4_append_0 rfl (lv_at hl 0 rfl) ?_
  refine lv_iload_n hx hb dX4_append_1 rfl (lv_at hl 1 rfl) ?_
  refine lv_bipush (v := (33 : Int32)) hx hb dX4_append_2 (by decide) ?_
  refine lv_bipush (v := (126 : Int32)) hx hb dX4_append_4 (by decide) ?_
  refine roSi (As := [.int p1, .int (33 : Int32), .int (126 : Int32)]) (rest := [.ref (a 0)]) F (c_X4_in l D cI cS cJ H p1 (33 : Int32) (126 : Int32) h) (cw_X4_20 hts (Nat.le_of_ble_eq_true rfl) (Nat.le_of_ble_eq_true rfl)) hK vP_nil rfl hl.1 rfl (Nat.le_of_ble_eq_true rfl) dX4_append_6 ⟨Nat.zero_le _, Nat.zero_le _⟩ (fun r1 h => ?_)
  obtain ⟨b2, h⟩ := h
  refine jn_e h (fun J4 e6 h => ?_)
  have w5 : ∀ (x3 : Int32) (ls : Array Slot) (H : Heap) (locs : List Loc), lv_has ls 2 [(0, .ref (a 0)), (1, .int p1)] → va_P D vwCl (mdW cI a u) H → va_D A (mdW cI a u) → va_S A H0 H locs → J4 x3 → W p l e rm_X4_append s m args below meth c H locs 0 0 Q (F0 m 30 ls [.int x3, .ref (a 0)]) := by
    intro x3 ls H locs hl hP hD hS h
    subst e6
    refine rwVi0 (As := [.int x3]) (rest := []) F (c_X4_holds l D cI cS cJ a u H.size x3 h) (cw_X4_86 hts (Nat.le_of_ble_eq_true rfl) (Nat.le_of_ble_eq_true rfl)) hK hP hD hS hA (recv (ci := 4) (k0 := 0) hK hP rfl rfl) rfl hl.1 rfl (Nat.le_of_ble_eq_true rfl) dX4_append_30 ⟨Nat.zero_le _, Nat.zero_le _⟩ (fun r7 u9 H locs h hP hD hS => ?_)
    obtain ⟨b8, h⟩ := h
    refine lv_if_ne (tgt := 38) hx hb dX4_append_33 (by decide) (fun c10 => ?_) (fun c10 => ?_)
    · replace h := h.1 c10
      refine lv_aload_n hx hb dX4_append_38 rfl (lv_at hl 0 rfl) ?_
      refine va_get (D := D) (ci := 4) (v := .ref (a 2)) (C := RX4) (T := TX4) (N := 12) hx hb hts inT4 hown hK.k hP 0 rfl rfl 3 (by decide) (hts _ q_822) (fun _ h9 => h9) rfl dX4_append_39 ?_
      refine lv_aload_n hx hb dX4_append_42 rfl (lv_at hl 0 rfl) ?_
      refine va_get (D := D) (ci := 4) (v := .int (M_length u9)) (C := RX4) (T := TX4) (N := 12) hx hb hts inT4 hown hK.k hP 0 rfl rfl 4 (by decide) (hts _ q_823) (fun _ h9 => h9) rfl dX4_append_43 ?_
      refine lv_iload_n hx hb dX4_append_46 rfl (lv_at hl 1 rfl) ?_
      refine va_iast hx hb hK.k hP hD hS 2 0 rfl rfl h.1 dX4_append_47 (fun H locs hP hD hS => ?_)
      replace h := h.2
      have hP : va_P D vwCl (mdW cI a (wM_text u9 (Int32.toNatClampNeg (M_length u9)) p1)) H := hP
      have hD : va_D A (mdW cI a (wM_text u9 (Int32.toNatClampNeg (M_length u9)) p1)) := hD
      refine lv_aload_n hx hb dX4_append_48 rfl (lv_at hl 0 rfl) ?_
      refine lv_dup hx hb dX4_append_49 rfl ?_
      refine va_get (D := D) (ci := 4) (v := .int (M_length (wM_text u9 (Int32.toNatClampNeg (M_length u9)) p1))) (C := RX4) (T := TX4) (N := 12) hx hb hts inT4 hown hK.k hP 0 rfl rfl 4 (by decide) (hts _ q_823) (fun _ h9 => h9) rfl dX4_append_50 ?_
      refine lv_iconst (v := (1 : Int32)) hx hb dX4_append_53 (by decide) ?_
      refine lv_iadd hx hb dX4_append_54 ?_
      refine va_put (D := D) (ci := 4) (v := .int ((M_length (wM_text u9 (Int32.toNatClampNeg (M_length u9)) p1)) + (1 : Int32))) (ty := .int) (C := RX4) (T := TX4) (N := 12) hx hb hts inT4 tyX4 tyX4_ok nmX4 hown hK.k hP hD hS 0 rfl rfl 4 (by decide) (hts _ q_823) (fun _ h9 => h9) rfl (by decide +kernel) rfl rfl (Nat.le_of_ble_eq_true rfl) dX4_append_55 (fun H locs hP hD hS => ?_)
      have hP : va_P D vwCl (mdW cI a (sM_length (wM_text u9 (Int32.toNatClampNeg (M_length u9)) p1) ((M_length (wM_text u9 (Int32.toNatClampNeg (M_length u9)) p1)) + (1 : Int32)))) H := hP
      have hD : va_D A (mdW cI a (sM_length (wM_text u9 (Int32.toNatClampNeg (M_length u9)) p1) ((M_length (wM_text u9 (Int32.toNatClampNeg (M_length u9)) p1)) + (1 : Int32)))) := hD
      refine lv_aload_n hx hb dX4_append_58 rfl (lv_at hl 0 rfl) ?_
      refine va_get (D := D) (ci := 4) (v := .int (M_length (sM_length (wM_text u9 (Int32.toNatClampNeg (M_length u9)) p1) ((M_length (wM_text u9 (Int32.toNatClampNeg (M_length u9)) p1)) + (1 : Int32))))) (C := RX4) (T := TX4) (N := 12) hx hb hts inT4 hown hK.k hP 0 rfl rfl 4 (by decide) (hts _ q_823) (fun _ h9 => h9) rfl dX4_append_59 ?_
      exact hQ h hP hD hS dX4_append_62
    · replace h := h.2 c10
      refine lv_iconst (v := (0 : Int32)) hx hb dX4_append_36 (by decide) ?_
      exact hQ h hP hD hS dX4_append_37
  clear e6
  refine lv_if_ne (tgt := 16) hx hb dX4_append_9 (by decide) (fun c11 => ?_) (fun c11 => ?_)
  · replace h := h.1 c11
    refine lv_aload_n hx hb dX4_append_16 rfl (lv_at hl 0 rfl) ?_
    refine va_get (D := D) (ci := 4) (v := .int (M_length u)) (C := RX4) (T := TX4) (N := 12) hx hb hts inT4 hown hK.k hP 0 rfl rfl 4 (by decide) (hts _ q_823) (fun _ h9 => h9) rfl dX4_append_17 ?_
    refine lv_bipush (v := (60 : Int32)) hx hb dX4_append_20 (by decide) ?_
    refine lv_icmp_ne (tgt := 29) hx hb dX4_append_22 (by decide) (fun c12 => ?_) (fun c12 => ?_)
    · replace h := h.1 c12
      refine lv_iconst (v := (0 : Int32)) hx hb dX4_append_29 (by decide) ?_
      exact w5 (0 : Int32) _ _ _ hl hP hD hS h
    · replace h := h.2 c12
      refine lv_iconst (v := (2 : Int32)) hx hb dX4_append_25 (by decide) ?_
      refine lv_goto (tgt := 30) hx hb dX4_append_26 (by decide) ?_
      exact w5 (2 : Int32) _ _ _ hl hP hD hS h
  · replace h := h.2 c11
    refine lv_iconst (v := (1 : Int32)) hx hb dX4_append_12 (by decide) ?_
    refine lv_goto (tgt := 30) hx hb dX4_append_13 (by decide) ?_
    exact w5 (1 : Int32) _ _ _ hl hP hD hS h

def wp_X4_clearText (u : Md)  (post : Int32 → Md → Prop) : Prop :=
  post (M_length (sM_thrown u (0 : Int32))) (sM_length (sM_thrown u (0 : Int32)) (0 : Int32))
set_option maxHeartbeats 4000000 in
set_option maxRecDepth 100000 in
theorem c_X4_clearText (l : Launch) (D : va_G) (cI cS cJ : ClassId) (a : Nat → Nat) (u : Md) (sz : Nat)  {post : Int32 → Md → Prop} (h : wp_X4_clearText u post) : Met l yX4_clearText (wsA yX4_clearText cX4_clearText 2 (some .int)) rm_X4_clearText (va_Pc [.ref (a 0)] (rwP D (tysA cI cS cJ) (mdW cI a u) sz)) (va_Qi post (fun u9 t => va_P D vwCl ((mdW cI a) u9) t.heap ∧ va_D (va_A (mdW cI a u) sz) ((mdW cI a) u9)) (va_A (mdW cI a u) sz)) 0 0 (va_A (mdW cI a u) sz) := by
  refine mkRWi (wf := (mdW cI a)) (by decide +kernel) (Nat.le_of_ble_eq_true rfl) (fun {p e s m args below meth c Q ls A H0 H locs} hx hb F hts hown hK hP hD hS hA hl hQ => ?_)
  have hown : s.vm.findClass RX4 = some m.cls := hown
  have F : CallFix p m c cX4_clearText 2 s args wsT RX4 := F
  have hl : lv_has ls 2 [(0, .ref (a 0))] := hl
  unfold wp_X4_clearText at h
  refine lv_aload_n hx hb dX4_clearText_0 rfl (lv_at hl 0 rfl) ?_
  refine lv_iconst (v := (0 : Int32)) hx hb dX4_clearText_1 (by decide) ?_
  refine va_put (D := D) (ci := 4) (v := .int (0 : Int32)) (ty := .int) (C := RX4) (T := TX4) (N := 12) hx hb hts inT4 tyX4 tyX4_ok nmX4 hown hK.k hP hD hS 0 rfl rfl 0 (by decide) (hts _ q_819) (fun _ h9 => h9) rfl (by decide +kernel) rfl rfl (Nat.le_of_ble_eq_true rfl) dX4_clearText_2 (fun H locs hP hD hS => ?_)
  have hP : va_P D vwCl (mdW cI a (sM_thrown u (0 : Int32))) H := hP
  have hD : va_D A (mdW cI a (sM_thrown u (0 : Int32))) := hD
  refine lv_aload_n hx hb dX4_clearText_5 rfl (lv_at hl 0 rfl) ?_
  refine va_get (D := D) (ci := 4) (v := .int (M_length (sM_thrown u (0 : Int32)))) (C := RX4) (T := TX4) (N := 12) hx hb hts inT4 hown hK.k hP 0 rfl rfl 4 (by decide) (hts _ q_823) (fun _ h9 => h9) rfl dX4_clearText_6 ?_
  refine lv_istore_n (lv' := [(1, .int (M_length (sM_thrown u (0 : Int32)))), (0, .ref (a 0))]) hx hb dX4_clearText_9 rfl hl (by decide) rfl (fun ls hl => ?_)
  refine lv_aload_n hx hb dX4_clearText_10 rfl (lv_at hl 1 rfl) ?_
  refine lv_iconst (v := (0 : Int32)) hx hb dX4_clearText_11 (by decide) ?_
  refine va_put (D := D) (ci := 4) (v := .int (0 : Int32)) (ty := .int) (C := RX4) (T := TX4) (N := 12) hx hb hts inT4 tyX4 tyX4_ok nmX4 hown hK.k hP hD hS 0 rfl rfl 4 (by decide) (hts _ q_823) (fun _ h9 => h9) rfl (by decide +kernel) rfl rfl (Nat.le_of_ble_eq_true rfl) dX4_clearText_12 (fun H locs hP hD hS => ?_)
  have hP : va_P D vwCl (mdW cI a (sM_length (sM_thrown u (0 : Int32)) (0 : Int32))) H := hP
  have hD : va_D A (mdW cI a (sM_length (sM_thrown u (0 : Int32)) (0 : Int32))) := hD
  refine lv_iload_n hx hb dX4_clearText_15 rfl (lv_at hl 0 rfl) ?_
  exact hQ h hP hD hS dX4_clearText_16

def wp_X4_sign (u : Md)  (post : Int32 → Prop) : Prop :=
  ((M_length u) ≤ (M_at u) → post (0 : Int32)) ∧ (¬ (M_length u) ≤ (M_at u) → (vp_in (M_at u) 60) ∧ (post ((M_text u) (Int32.toNatClampNeg (M_at u)))))
set_option maxHeartbeats 4000000 in
set_option maxRecDepth 100000 in
theorem c_X4_sign (l : Launch) (D : va_G) (cI cS cJ : ClassId) (a : Nat → Nat) (u : Md) (H0 : Heap)  {post : Int32 → Prop} (h : wp_X4_sign u post) : Met l yX4_sign (wsA yX4_sign cX4_sign 1 (some .int)) rm_X4_sign (va_Pc [.ref (a 0)] (roP D (tysA cI cS cJ) (mdW cI a u) H0)) (va_Qi (fun r (_ : Unit) => post r) (fun _ t => t.heap = H0) nF) 0 0 nF := by
  refine mkROi (by decide +kernel) (Nat.le_of_ble_eq_true rfl) (fun {p e s m args below meth c Q ls} hx hb F hts hown hK hP hl hQ => ?_)
  have hown : s.vm.findClass RX4 = some m.cls := hown
  have F : CallFix p m c cX4_sign 1 s args wsT RX4 := F
  have hl : lv_has ls 1 [(0, .ref (a 0))] := hl
  unfold wp_X4_sign at h
  refine lv_aload_n hx hb dX4_sign_0 rfl (lv_at hl 0 rfl) ?_
  refine va_get (D := D) (ci := 4) (v := .int (M_at u)) (C := RX4) (T := TX4) (N := 12) hx hb hts inT4 hown hK.k hP 0 rfl rfl 5 (by decide) (hts _ q_824) (fun _ h9 => h9) rfl dX4_sign_1 ?_
  refine lv_aload_n hx hb dX4_sign_4 rfl (lv_at hl 0 rfl) ?_
  refine va_get (D := D) (ci := 4) (v := .int (M_length u)) (C := RX4) (T := TX4) (N := 12) hx hb hts inT4 hown hK.k hP 0 rfl rfl 4 (by decide) (hts _ q_823) (fun _ h9 => h9) rfl dX4_sign_5 ?_
  refine lv_icmp_ge (tgt := 23) hx hb dX4_sign_8 (by decide) (fun c1 => ?_) (fun c1 => ?_)
  · replace h := h.1 c1
    refine lv_iconst (v := (0 : Int32)) hx hb dX4_sign_23 (by decide) ?_
    exact hQ h dX4_sign_24
  · replace h := h.2 c1
    refine lv_aload_n hx hb dX4_sign_11 rfl (lv_at hl 0 rfl) ?_
    refine va_get (D := D) (ci := 4) (v := .ref (a 2)) (C := RX4) (T := TX4) (N := 12) hx hb hts inT4 hown hK.k hP 0 rfl rfl 3 (by decide) (hts _ q_822) (fun _ h9 => h9) rfl dX4_sign_12 ?_
    refine lv_aload_n hx hb dX4_sign_15 rfl (lv_at hl 0 rfl) ?_
    refine va_get (D := D) (ci := 4) (v := .int (M_at u)) (C := RX4) (T := TX4) (N := 12) hx hb hts inT4 hown hK.k hP 0 rfl rfl 5 (by decide) (hts _ q_824) (fun _ h9 => h9) rfl dX4_sign_16 ?_
    refine va_iald hx hb hK.k hP 2 0 rfl rfl h.1 dX4_sign_19 ?_
    replace h := h.2
    refine lv_goto (tgt := 24) hx hb dX4_sign_20 (by decide) ?_
    exact hQ h dX4_sign_24

def wp_X4_takes (u : Md) (p1 : Int32) (post : Int32 → Md → Prop) : Prop :=
  wp_X4_sign u (fun r1 => jn (fun (x2 : Int32) => jn (fun (x7 : Int32) => post x2 (sM_at u ((M_at u) + x7))) (fun (J9 : Int32 → Prop) => (x2 = 0 → J9 (0 : Int32)) ∧ (¬ x2 = 0 → J9 (1 : Int32)))) (fun (J4 : Int32 → Prop) => (¬ r1 = p1 → J4 (0 : Int32)) ∧ (r1 = p1 → J4 (1 : Int32))))
set_option maxHeartbeats 4000000 in
set_option maxRecDepth 100000 in
theorem c_X4_takes (l : Launch) (D : va_G) (cI cS cJ : ClassId) (a : Nat → Nat) (u : Md) (sz : Nat) (p1 : Int32) {post : Int32 → Md → Prop} (h : wp_X4_takes u p1 post) : Met l yX4_takes (wsA yX4_takes cX4_takes 3 (some .boolean)) rm_X4_takes (va_Pc [.ref (a 0), .int p1] (rwP D (tysA cI cS cJ) (mdW cI a u) sz)) (va_Qi (fun r u9 => bz r ∧ post r u9) (fun u9 t => va_P D vwCl ((mdW cI a) u9) t.heap ∧ va_D (va_A (mdW cI a u) sz) ((mdW cI a) u9)) (va_A (mdW cI a u) sz)) 0 0 (va_A (mdW cI a u) sz) := by
  refine mkRWz (wf := (mdW cI a)) (by decide +kernel) (Nat.le_of_ble_eq_true rfl) (fun {p e s m args below meth c Q ls A H0 H locs} hx hb F hts hown hK hP hD hS hA hl hQ => ?_)
  have hown : s.vm.findClass RX4 = some m.cls := hown
  have F : CallFix p m c cX4_takes 3 s args wsT RX4 := F
  have hl : lv_has ls 3 [(0, .ref (a 0)), (1, .int p1)] := hl
  unfold wp_X4_takes at h
  refine lv_aload_n hx hb dX4_takes_0 rfl (lv_at hl 0 rfl) ?_
  refine roVi (As := []) (rest := []) F (c_X4_sign l D cI cS cJ a u H  h) (cw_X4_159 hts (Nat.le_of_ble_eq_true rfl) (Nat.le_of_ble_eq_true rfl)) hK hP (recv (ci := 4) (k0 := 0) hK hP rfl rfl) rfl hl.1 rfl (Nat.le_of_ble_eq_true rfl) dX4_takes_1 ⟨Nat.zero_le _, Nat.zero_le _⟩ (fun r1 h => ?_)
  refine lv_iload_n hx hb dX4_takes_4 rfl (lv_at hl 1 rfl) ?_
  refine jn_e h (fun J4 e6 h => ?_)
  have w5 : ∀ (x2 : Int32) (ls : Array Slot) (H : Heap) (locs : List Loc), bz x2 → lv_has ls 3 [(0, .ref (a 0))] → va_P D vwCl (mdW cI a u) H → va_D A (mdW cI a u) → va_S A H0 H locs → J4 x2 → W p l e rm_X4_takes s m args below meth c H locs 0 0 Q (F0 m 13 ls [.int x2]) := by
    intro x2 ls H locs b3 hl hP hD hS h
    subst e6
    refine lv_istore_n (lv' := [(2, .int x2), (0, .ref (a 0))]) hx hb dX4_takes_13 rfl hl (by decide) rfl (fun ls hl => ?_)
    refine lv_aload_n hx hb dX4_takes_14 rfl (lv_at hl 1 rfl) ?_
    refine lv_dup hx hb dX4_takes_15 rfl ?_
    refine va_get (D := D) (ci := 4) (v := .int (M_at u)) (C := RX4) (T := TX4) (N := 12) hx hb hts inT4 hown hK.k hP 0 rfl rfl 5 (by decide) (hts _ q_824) (fun _ h9 => h9) rfl dX4_takes_16 ?_
    refine lv_iload_n hx hb dX4_takes_19 rfl (lv_at hl 0 rfl) ?_
    refine jn_e h (fun J9 e11 h => ?_)
    have w10 : ∀ (x7 : Int32) (ls : Array Slot) (H : Heap) (locs : List Loc), bz x7 → lv_has ls 3 [(2, .int x2)] → va_P D vwCl (mdW cI a u) H → va_D A (mdW cI a u) → va_S A H0 H locs → J9 x7 → W p l e rm_X4_takes s m args below meth c H locs 0 0 Q (F0 m 28 ls [.int x7, .int (M_at u), .ref (a 0)]) := by
      intro x7 ls H locs b8 hl hP hD hS h
      subst e11
      refine lv_iadd hx hb dX4_takes_28 ?_
      refine va_put (D := D) (ci := 4) (v := .int ((M_at u) + x7)) (ty := .int) (C := RX4) (T := TX4) (N := 12) hx hb hts inT4 tyX4 tyX4_ok nmX4 hown hK.k hP hD hS 0 rfl rfl 5 (by decide) (hts _ q_824) (fun _ h9 => h9) rfl (by decide +kernel) rfl rfl (Nat.le_of_ble_eq_true rfl) dX4_takes_29 (fun H locs hP hD hS => ?_)
      have hP : va_P D vwCl (mdW cI a (sM_at u ((M_at u) + x7))) H := hP
      have hD : va_D A (mdW cI a (sM_at u ((M_at u) + x7))) := hD
      refine lv_iload_n hx hb dX4_takes_32 rfl (lv_at hl 0 rfl) ?_
      exact hQ b3 h hP hD hS dX4_takes_33
    clear e11
    refine lv_if_eq (tgt := 27) hx hb dX4_takes_20 (by decide) (fun c12 => ?_) (fun c12 => ?_)
    · replace h := h.1 c12
      refine lv_iconst (v := (0 : Int32)) hx hb dX4_takes_27 (by decide) ?_
      exact w10 (0 : Int32) _ _ _ bz0 (lv_sub hl [0] rfl) hP hD hS h
    · replace h := h.2 c12
      refine lv_iconst (v := (1 : Int32)) hx hb dX4_takes_23 (by decide) ?_
      refine lv_goto (tgt := 28) hx hb dX4_takes_24 (by decide) ?_
      exact w10 (1 : Int32) _ _ _ bz1 (lv_sub hl [0] rfl) hP hD hS h
  clear e6
  refine lv_icmp_ne (tgt := 12) hx hb dX4_takes_5 (by decide) (fun c13 => ?_) (fun c13 => ?_)
  · replace h := h.1 c13
    refine lv_iconst (v := (0 : Int32)) hx hb dX4_takes_12 (by decide) ?_
    exact w5 (0 : Int32) _ _ _ bz0 (lv_sub hl [0] rfl) hP hD hS h
  · replace h := h.2 c13
    refine lv_iconst (v := (1 : Int32)) hx hb dX4_takes_8 (by decide) ?_
    refine lv_goto (tgt := 13) hx hb dX4_takes_9 (by decide) ?_
    exact w5 (1 : Int32) _ _ _ bz1 (lv_sub hl [0] rfl) hP hD hS h

def wp_X4_figure (u : Md) (p1 : Int32) (p2 : Int32) (post : Int32 → Md → Prop) : Prop :=
  wp_X4_sign u (fun r1 => wp_X4_in r1 ((48 : Int32) + p1) ((48 : Int32) + p2) (fun r2 => jn (fun (x4 : Int32) => jn (fun (x8 : Int32) => post x4 (sM_at u ((M_at u) + x8))) (fun (J10 : Int32 → Prop) => (¬ x4 = (-1 : Int32) → J10 (1 : Int32)) ∧ (x4 = (-1 : Int32) → J10 (0 : Int32)))) (fun (J5 : Int32 → Prop) => (r2 = 0 → J5 (-1 : Int32)) ∧ (¬ r2 = 0 → wp_X4_sign u (fun r15 => J5 (r15 - (48 : Int32)))))))
set_option maxHeartbeats 4000000 in
set_option maxRecDepth 100000 in
theorem c_X4_figure (l : Launch) (D : va_G) (cI cS cJ : ClassId) (a : Nat → Nat) (u : Md) (sz : Nat) (p1 : Int32) (p2 : Int32) {post : Int32 → Md → Prop} (h : wp_X4_figure u p1 p2 post) : Met l yX4_figure (wsA yX4_figure cX4_figure 4 (some .int)) rm_X4_figure (va_Pc [.ref (a 0), .int p1, .int p2] (rwP D (tysA cI cS cJ) (mdW cI a u) sz)) (va_Qi post (fun u9 t => va_P D vwCl ((mdW cI a) u9) t.heap ∧ va_D (va_A (mdW cI a u) sz) ((mdW cI a) u9)) (va_A (mdW cI a u) sz)) 0 0 (va_A (mdW cI a u) sz) := by
  refine mkRWi (wf := (mdW cI a)) (by decide +kernel) (Nat.le_of_ble_eq_true rfl) (fun {p e s m args below meth c Q ls A H0 H locs} hx hb F hts hown hK hP hD hS hA hl hQ => ?_)
  have hown : s.vm.findClass RX4 = some m.cls := hown
  have F : CallFix p m c cX4_figure 4 s args wsT RX4 := F
  have hl : lv_has ls 4 [(0, .ref (a 0)), (1, .int p1), (2, .int p2)] := hl
  unfold wp_X4_figure at h
  refine lv_aload_n hx hb dX4_figure_0 rfl (lv_at hl 0 rfl) ?_
  refine roVi (As := []) (rest := []) F (c_X4_sign l D cI cS cJ a u H  h) (cw_X4_159 hts (Nat.le_of_ble_eq_true rfl) (Nat.le_of_ble_eq_true rfl)) hK hP (recv (ci := 4) (k0 := 0) hK hP rfl rfl) rfl hl.1 rfl (Nat.le_of_ble_eq_true rfl) dX4_figure_1 ⟨Nat.zero_le _, Nat.zero_le _⟩ (fun r1 h => ?_)
  refine lv_bipush (v := (48 : Int32)) hx hb dX4_figure_4 (by decide) ?_
  refine lv_iload_n hx hb dX4_figure_6 rfl (lv_at hl 1 rfl) ?_
  refine lv_iadd hx hb dX4_figure_7 ?_
  refine lv_bipush (v := (48 : Int32)) hx hb dX4_figure_8 (by decide) ?_
  refine lv_iload_n hx hb dX4_figure_10 rfl (lv_at hl 2 rfl) ?_
  refine lv_iadd hx hb dX4_figure_11 ?_
  refine roSi (As := [.int r1, .int ((48 : Int32) + p1), .int ((48 : Int32) + p2)]) (rest := []) F (c_X4_in l D cI cS cJ H r1 ((48 : Int32) + p1) ((48 : Int32) + p2) h) (cw_X4_20 hts (Nat.le_of_ble_eq_true rfl) (Nat.le_of_ble_eq_true rfl)) hK vP_nil rfl hl.1 rfl (Nat.le_of_ble_eq_true rfl) dX4_figure_12 ⟨Nat.zero_le _, Nat.zero_le _⟩ (fun r2 h => ?_)
  obtain ⟨b3, h⟩ := h
  refine jn_e h (fun J5 e7 h => ?_)
  have w6 : ∀ (x4 : Int32) (ls : Array Slot) (H : Heap) (locs : List Loc), lv_has ls 4 [(0, .ref (a 0))] → va_P D vwCl (mdW cI a u) H → va_D A (mdW cI a u) → va_S A H0 H locs → J5 x4 → W p l e rm_X4_figure s m args below meth c H locs 0 0 Q (F0 m 29 ls [.int x4]) := by
    intro x4 ls H locs hl hP hD hS h
    subst e7
    refine lv_istore_n (lv' := [(3, .int x4), (0, .ref (a 0))]) hx hb dX4_figure_29 rfl hl (by decide) rfl (fun ls hl => ?_)
    refine lv_aload_n hx hb dX4_figure_30 rfl (lv_at hl 1 rfl) ?_
    refine lv_dup hx hb dX4_figure_31 rfl ?_
    refine va_get (D := D) (ci := 4) (v := .int (M_at u)) (C := RX4) (T := TX4) (N := 12) hx hb hts inT4 hown hK.k hP 0 rfl rfl 5 (by decide) (hts _ q_824) (fun _ h9 => h9) rfl dX4_figure_32 ?_
    refine lv_iload_n hx hb dX4_figure_35 rfl (lv_at hl 0 rfl) ?_
    refine lv_iconst (v := (-1 : Int32)) hx hb dX4_figure_36 (by decide) ?_
    refine jn_e h (fun J10 e12 h => ?_)
    have w11 : ∀ (x8 : Int32) (ls : Array Slot) (H : Heap) (locs : List Loc), bz x8 → lv_has ls 4 [(3, .int x4)] → va_P D vwCl (mdW cI a u) H → va_D A (mdW cI a u) → va_S A H0 H locs → J10 x8 → W p l e rm_X4_figure s m args below meth c H locs 0 0 Q (F0 m 45 ls [.int x8, .int (M_at u), .ref (a 0)]) := by
      intro x8 ls H locs b9 hl hP hD hS h
      subst e12
      refine lv_iadd hx hb dX4_figure_45 ?_
      refine va_put (D := D) (ci := 4) (v := .int ((M_at u) + x8)) (ty := .int) (C := RX4) (T := TX4) (N := 12) hx hb hts inT4 tyX4 tyX4_ok nmX4 hown hK.k hP hD hS 0 rfl rfl 5 (by decide) (hts _ q_824) (fun _ h9 => h9) rfl (by decide +kernel) rfl rfl (Nat.le_of_ble_eq_true rfl) dX4_figure_46 (fun H locs hP hD hS => ?_)
      have hP : va_P D vwCl (mdW cI a (sM_at u ((M_at u) + x8))) H := hP
      have hD : va_D A (mdW cI a (sM_at u ((M_at u) + x8))) := hD
      refine lv_iload_n hx hb dX4_figure_49 rfl (lv_at hl 0 rfl) ?_
      exact hQ h hP hD hS dX4_figure_50
    clear e12
    refine lv_icmp_ne (tgt := 44) hx hb dX4_figure_37 (by decide) (fun c13 => ?_) (fun c13 => ?_)
    · replace h := h.1 c13
      refine lv_iconst (v := (1 : Int32)) hx hb dX4_figure_44 (by decide) ?_
      exact w11 (1 : Int32) _ _ _ bz1 (lv_sub hl [0] rfl) hP hD hS h
    · replace h := h.2 c13
      refine lv_iconst (v := (0 : Int32)) hx hb dX4_figure_40 (by decide) ?_
      refine lv_goto (tgt := 45) hx hb dX4_figure_41 (by decide) ?_
      exact w11 (0 : Int32) _ _ _ bz0 (lv_sub hl [0] rfl) hP hD hS h
  clear e7
  refine lv_if_eq (tgt := 28) hx hb dX4_figure_15 (by decide) (fun c14 => ?_) (fun c14 => ?_)
  · replace h := h.1 c14
    refine lv_iconst (v := (-1 : Int32)) hx hb dX4_figure_28 (by decide) ?_
    exact w6 (-1 : Int32) _ _ _ (lv_sub hl [0] rfl) hP hD hS h
  · replace h := h.2 c14
    refine lv_aload_n hx hb dX4_figure_18 rfl (lv_at hl 0 rfl) ?_
    refine roVi (As := []) (rest := []) F (c_X4_sign l D cI cS cJ a u H  h) (cw_X4_159 hts (Nat.le_of_ble_eq_true rfl) (Nat.le_of_ble_eq_true rfl)) hK hP (recv (ci := 4) (k0 := 0) hK hP rfl rfl) rfl hl.1 rfl (Nat.le_of_ble_eq_true rfl) dX4_figure_19 ⟨Nat.zero_le _, Nat.zero_le _⟩ (fun r15 h => ?_)
    refine lv_bipush (v := (48 : Int32)) hx hb dX4_figure_22 (by decide) ?_
    refine lv_isub hx hb dX4_figure_24 ?_
    refine lv_goto (tgt := 29) hx hb dX4_figure_25 (by decide) ?_
    exact w6 (r15 - (48 : Int32)) _ _ _ (lv_sub hl [0] rfl) hP hD hS h

def wp_X4_readsInn (u : Md) (p1 : Int32) (p2 : Int32) (post : Int32 → Md → Prop) : Prop :=
  wp_X4_sign u (fun r1 => ((r1 - (48 : Int32)) = p1 → post (-1 : Int32) u) ∧ (¬ (r1 - (48 : Int32)) = p1 → wp_X4_sign u (fun r3 => (¬ (r3 - (48 : Int32)) = p2 → wp_X4_figure u (0 : Int32) (7 : Int32) (fun r5 u6 => post r5 u6)) ∧ ((r3 - (48 : Int32)) = p2 → post (-1 : Int32) u))))
set_option maxHeartbeats 4000000 in
set_option maxRecDepth 100000 in
theorem c_X4_readsInn (l : Launch) (D : va_G) (cI cS cJ : ClassId) (a : Nat → Nat) (u : Md) (sz : Nat) (p1 : Int32) (p2 : Int32) {post : Int32 → Md → Prop} (h : wp_X4_readsInn u p1 p2 post) : Met l yX4_readsInn (wsA yX4_readsInn cX4_readsInn 3 (some .int)) rm_X4_readsInn (va_Pc [.ref (a 0), .int p1, .int p2] (rwP D (tysA cI cS cJ) (mdW cI a u) sz)) (va_Qi post (fun u9 t => va_P D vwCl ((mdW cI a) u9) t.heap ∧ va_D (va_A (mdW cI a u) sz) ((mdW cI a) u9)) (va_A (mdW cI a u) sz)) 0 0 (va_A (mdW cI a u) sz) := by
  refine mkRWi (wf := (mdW cI a)) (by decide +kernel) (Nat.le_of_ble_eq_true rfl) (fun {p e s m args below meth c Q ls A H0 H locs} hx hb F hts hown hK hP hD hS hA hl hQ => ?_)
  have hown : s.vm.findClass RX4 = some m.cls := hown
  have F : CallFix p m c cX4_readsInn 3 s args wsT RX4 := F
  have hl : lv_has ls 3 [(0, .ref (a 0)), (1, .int p1), (2, .int p2)] := hl
  unfold wp_X4_readsInn at h
  refine lv_aload_n hx hb dX4_readsInn_0 rfl (lv_at hl 0 rfl) ?_
  refine roVi (As := []) (rest := []) F (c_X4_sign l D cI cS cJ a u H  h) (cw_X4_159 hts (Nat.le_of_ble_eq_true rfl) (Nat.le_of_ble_eq_true rfl)) hK hP (recv (ci := 4) (k0 := 0) hK hP rfl rfl) rfl hl.1 rfl (Nat.le_of_ble_eq_true rfl) dX4_readsInn_1 ⟨Nat.zero_le _, Nat.zero_le _⟩ (fun r1 h => ?_)
  refine lv_bipush (v := (48 : Int32)) hx hb dX4_readsInn_4 (by decide) ?_
  refine lv_isub hx hb dX4_readsInn_6 ?_
  refine lv_iload_n hx hb dX4_readsInn_7 rfl (lv_at hl 1 rfl) ?_
  refine lv_icmp_eq (tgt := 22) hx hb dX4_readsInn_8 (by decide) (fun c2 => ?_) (fun c2 => ?_)
  · replace h := h.1 c2
    refine lv_iconst (v := (-1 : Int32)) hx hb dX4_readsInn_22 (by decide) ?_
    refine lv_goto (tgt := 33) hx hb dX4_readsInn_23 (by decide) ?_
    exact hQ h hP hD hS dX4_readsInn_33
  · replace h := h.2 c2
    refine lv_aload_n hx hb dX4_readsInn_11 rfl (lv_at hl 0 rfl) ?_
    refine roVi (As := []) (rest := []) F (c_X4_sign l D cI cS cJ a u H  h) (cw_X4_159 hts (Nat.le_of_ble_eq_true rfl) (Nat.le_of_ble_eq_true rfl)) hK hP (recv (ci := 4) (k0 := 0) hK hP rfl rfl) rfl hl.1 rfl (Nat.le_of_ble_eq_true rfl) dX4_readsInn_12 ⟨Nat.zero_le _, Nat.zero_le _⟩ (fun r3 h => ?_)
    refine lv_bipush (v := (48 : Int32)) hx hb dX4_readsInn_15 (by decide) ?_
    refine lv_isub hx hb dX4_readsInn_17 ?_
    refine lv_iload_n hx hb dX4_readsInn_18 rfl (lv_at hl 2 rfl) ?_
    refine lv_icmp_ne (tgt := 26) hx hb dX4_readsInn_19 (by decide) (fun c4 => ?_) (fun c4 => ?_)
    · replace h := h.1 c4
      refine lv_aload_n hx hb dX4_readsInn_26 rfl (lv_at hl 0 rfl) ?_
      refine lv_iconst (v := (0 : Int32)) hx hb dX4_readsInn_27 (by decide) ?_
      refine lv_bipush (v := (7 : Int32)) hx hb dX4_readsInn_28 (by decide) ?_
      refine rwVi0 (As := [.int (0 : Int32), .int (7 : Int32)]) (rest := []) F (c_X4_figure l D cI cS cJ a u H.size (0 : Int32) (7 : Int32) h) (cw_X4_163 hts (Nat.le_of_ble_eq_true rfl) (Nat.le_of_ble_eq_true rfl)) hK hP hD hS hA (recv (ci := 4) (k0 := 0) hK hP rfl rfl) rfl hl.1 rfl (Nat.le_of_ble_eq_true rfl) dX4_readsInn_30 ⟨Nat.zero_le _, Nat.zero_le _⟩ (fun r5 u6 H locs h hP hD hS => ?_)
      exact hQ h hP hD hS dX4_readsInn_33
    · replace h := h.2 c4
      refine lv_iconst (v := (-1 : Int32)) hx hb dX4_readsInn_22 (by decide) ?_
      refine lv_goto (tgt := 33) hx hb dX4_readsInn_23 (by decide) ?_
      exact hQ h hP hD hS dX4_readsInn_33

def wp_X4_readsRoad (u : Md)  (post : Int32 → Md → Prop) : Prop :=
  wp_X4_readsInn u (-1 : Int32) (-1 : Int32) (fun r1 u2 => jn (fun (x3 : Int32) (u4 : Md) => jn (fun (x8 : Int32) (u9 : Md) => jn (fun (x13 : Int32) (u14 : Md) => ((M_fourth (sM_fourth u14 x13)) = (-1 : Int32) → post (0 : Int32) (sM_fourth u14 x13)) ∧ (¬ (M_fourth (sM_fourth u14 x13)) = (-1 : Int32) → post (1 : Int32) (sM_fourth u14 x13))) (fun (J15 : Int32 → Md → Prop) => (¬ (M_third (sM_third u9 x8)) = (-1 : Int32) → wp_X4_figure (sM_third u9 x8) (0 : Int32) (3 : Int32) (fun r20 u21 => J15 r20 u21)) ∧ ((M_third (sM_third u9 x8)) = (-1 : Int32) → J15 (-1 : Int32) (sM_third u9 x8)))) (fun (J10 : Int32 → Md → Prop) => (¬ (M_second (sM_second u4 x3)) = (-1 : Int32) → wp_X4_readsInn (sM_second u4 x3) (M_first (sM_second u4 x3)) (M_second (sM_second u4 x3)) (fun r23 u24 => J10 r23 u24)) ∧ ((M_second (sM_second u4 x3)) = (-1 : Int32) → J10 (-1 : Int32) (sM_second u4 x3)))) (fun (J5 : Int32 → Md → Prop) => (¬ (M_first (sM_first u2 r1)) = (-1 : Int32) → wp_X4_readsInn (sM_first u2 r1) (M_first (sM_first u2 r1)) (-1 : Int32) (fun r26 u27 => J5 r26 u27)) ∧ ((M_first (sM_first u2 r1)) = (-1 : Int32) → J5 (-1 : Int32) (sM_first u2 r1))))
set_option maxHeartbeats 4000000 in
set_option maxRecDepth 100000 in
theorem c_X4_readsRoad (l : Launch) (D : va_G) (cI cS cJ : ClassId) (a : Nat → Nat) (u : Md) (sz : Nat)  {post : Int32 → Md → Prop} (h : wp_X4_readsRoad u post) : Met l yX4_readsRoad (wsA yX4_readsRoad cX4_readsRoad 1 (some .boolean)) rm_X4_readsRoad (va_Pc [.ref (a 0)] (rwP D (tysA cI cS cJ) (mdW cI a u) sz)) (va_Qi (fun r u9 => bz r ∧ post r u9) (fun u9 t => va_P D vwCl ((mdW cI a) u9) t.heap ∧ va_D (va_A (mdW cI a u) sz) ((mdW cI a) u9)) (va_A (mdW cI a u) sz)) 0 0 (va_A (mdW cI a u) sz) := by
  refine mkRWz (wf := (mdW cI a)) (by decide +kernel) (Nat.le_of_ble_eq_true rfl) (fun {p e s m args below meth c Q ls A H0 H locs} hx hb F hts hown hK hP hD hS hA hl hQ => ?_)
  have hown : s.vm.findClass RX4 = some m.cls := hown
  have F : CallFix p m c cX4_readsRoad 1 s args wsT RX4 := F
  have hl : lv_has ls 1 [(0, .ref (a 0))] := hl
  unfold wp_X4_readsRoad at h
  refine lv_aload_n hx hb dX4_readsRoad_0 rfl (lv_at hl 0 rfl) ?_
  refine lv_aload_n hx hb dX4_readsRoad_1 rfl (lv_at hl 0 rfl) ?_
  refine lv_iconst (v := (-1 : Int32)) hx hb dX4_readsRoad_2 (by decide) ?_
  refine lv_iconst (v := (-1 : Int32)) hx hb dX4_readsRoad_3 (by decide) ?_
  refine rwVi0 (As := [.int (-1 : Int32), .int (-1 : Int32)]) (rest := [.ref (a 0)]) F (c_X4_readsInn l D cI cS cJ a u H.size (-1 : Int32) (-1 : Int32) h) (cw_X4_166 hts (Nat.le_of_ble_eq_true rfl) (Nat.le_of_ble_eq_true rfl)) hK hP hD hS hA (recv (ci := 4) (k0 := 0) hK hP rfl rfl) rfl hl.1 rfl (Nat.le_of_ble_eq_true rfl) dX4_readsRoad_4 ⟨Nat.zero_le _, Nat.zero_le _⟩ (fun r1 u2 H locs h hP hD hS => ?_)
  refine va_put (D := D) (ci := 4) (v := .int r1) (ty := .int) (C := RX4) (T := TX4) (N := 12) hx hb hts inT4 tyX4 tyX4_ok nmX4 hown hK.k hP hD hS 0 rfl rfl 7 (by decide) (hts _ q_826) (fun _ h9 => h9) rfl (by decide +kernel) rfl rfl (Nat.le_of_ble_eq_true rfl) dX4_readsRoad_7 (fun H locs hP hD hS => ?_)
  have hP : va_P D vwCl (mdW cI a (sM_first u2 r1)) H := hP
  have hD : va_D A (mdW cI a (sM_first u2 r1)) := hD
  refine lv_aload_n hx hb dX4_readsRoad_10 rfl (lv_at hl 0 rfl) ?_
  refine lv_aload_n hx hb dX4_readsRoad_11 rfl (lv_at hl 0 rfl) ?_
  refine va_get (D := D) (ci := 4) (v := .int (M_first (sM_first u2 r1))) (C := RX4) (T := TX4) (N := 12) hx hb hts inT4 hown hK.k hP 0 rfl rfl 7 (by decide) (hts _ q_826) (fun _ h9 => h9) rfl dX4_readsRoad_12 ?_
  refine lv_iconst (v := (-1 : Int32)) hx hb dX4_readsRoad_15 (by decide) ?_
  refine jn_e h (fun J5 e7 h => ?_)
  have w6 : ∀ (x3 : Int32) (u4 : Md) (ls : Array Slot) (H : Heap) (locs : List Loc), lv_has ls 1 [(0, .ref (a 0))] → va_P D vwCl (mdW cI a u4) H → va_D A (mdW cI a u4) → va_S A H0 H locs → J5 x3 u4 → W p l e rm_X4_readsRoad s m args below meth c H locs 0 0 Q (F0 m 32 ls [.int x3, .ref (a 0)]) := by
    intro x3 u4 ls H locs hl hP hD hS h
    subst e7
    refine va_put (D := D) (ci := 4) (v := .int x3) (ty := .int) (C := RX4) (T := TX4) (N := 12) hx hb hts inT4 tyX4 tyX4_ok nmX4 hown hK.k hP hD hS 0 rfl rfl 8 (by decide) (hts _ q_827) (fun _ h9 => h9) rfl (by decide +kernel) rfl rfl (Nat.le_of_ble_eq_true rfl) dX4_readsRoad_32 (fun H locs hP hD hS => ?_)
    have hP : va_P D vwCl (mdW cI a (sM_second u4 x3)) H := hP
    have hD : va_D A (mdW cI a (sM_second u4 x3)) := hD
    refine lv_aload_n hx hb dX4_readsRoad_35 rfl (lv_at hl 0 rfl) ?_
    refine lv_aload_n hx hb dX4_readsRoad_36 rfl (lv_at hl 0 rfl) ?_
    refine va_get (D := D) (ci := 4) (v := .int (M_second (sM_second u4 x3))) (C := RX4) (T := TX4) (N := 12) hx hb hts inT4 hown hK.k hP 0 rfl rfl 8 (by decide) (hts _ q_827) (fun _ h9 => h9) rfl dX4_readsRoad_37 ?_
    refine lv_iconst (v := (-1 : Int32)) hx hb dX4_readsRoad_40 (by decide) ?_
    refine jn_e h (fun J10 e12 h => ?_)
    have w11 : ∀ (x8 : Int32) (u9 : Md) (ls : Array Slot) (H : Heap) (locs : List Loc), lv_has ls 1 [(0, .ref (a 0))] → va_P D vwCl (mdW cI a u9) H → va_D A (mdW cI a u9) → va_S A H0 H locs → J10 x8 u9 → W p l e rm_X4_readsRoad s m args below meth c H locs 0 0 Q (F0 m 60 ls [.int x8, .ref (a 0)]) := by
      intro x8 u9 ls H locs hl hP hD hS h
      subst e12
      refine va_put (D := D) (ci := 4) (v := .int x8) (ty := .int) (C := RX4) (T := TX4) (N := 12) hx hb hts inT4 tyX4 tyX4_ok nmX4 hown hK.k hP hD hS 0 rfl rfl 9 (by decide) (hts _ q_828) (fun _ h9 => h9) rfl (by decide +kernel) rfl rfl (Nat.le_of_ble_eq_true rfl) dX4_readsRoad_60 (fun H locs hP hD hS => ?_)
      have hP : va_P D vwCl (mdW cI a (sM_third u9 x8)) H := hP
      have hD : va_D A (mdW cI a (sM_third u9 x8)) := hD
      refine lv_aload_n hx hb dX4_readsRoad_63 rfl (lv_at hl 0 rfl) ?_
      refine lv_aload_n hx hb dX4_readsRoad_64 rfl (lv_at hl 0 rfl) ?_
      refine va_get (D := D) (ci := 4) (v := .int (M_third (sM_third u9 x8))) (C := RX4) (T := TX4) (N := 12) hx hb hts inT4 hown hK.k hP 0 rfl rfl 9 (by decide) (hts _ q_828) (fun _ h9 => h9) rfl dX4_readsRoad_65 ?_
      refine lv_iconst (v := (-1 : Int32)) hx hb dX4_readsRoad_68 (by decide) ?_
      refine jn_e h (fun J15 e17 h => ?_)
      have w16 : ∀ (x13 : Int32) (u14 : Md) (ls : Array Slot) (H : Heap) (locs : List Loc), lv_has ls 1 [(0, .ref (a 0))] → va_P D vwCl (mdW cI a u14) H → va_D A (mdW cI a u14) → va_S A H0 H locs → J15 x13 u14 → W p l e rm_X4_readsRoad s m args below meth c H locs 0 0 Q (F0 m 82 ls [.int x13, .ref (a 0)]) := by
        intro x13 u14 ls H locs hl hP hD hS h
        subst e17
        refine va_put (D := D) (ci := 4) (v := .int x13) (ty := .int) (C := RX4) (T := TX4) (N := 12) hx hb hts inT4 tyX4 tyX4_ok nmX4 hown hK.k hP hD hS 0 rfl rfl 10 (by decide) (hts _ q_829) (fun _ h9 => h9) rfl (by decide +kernel) rfl rfl (Nat.le_of_ble_eq_true rfl) dX4_readsRoad_82 (fun H locs hP hD hS => ?_)
        have hP : va_P D vwCl (mdW cI a (sM_fourth u14 x13)) H := hP
        have hD : va_D A (mdW cI a (sM_fourth u14 x13)) := hD
        refine lv_aload_n hx hb dX4_readsRoad_85 rfl (lv_at hl 0 rfl) ?_
        refine va_get (D := D) (ci := 4) (v := .int (M_fourth (sM_fourth u14 x13))) (C := RX4) (T := TX4) (N := 12) hx hb hts inT4 hown hK.k hP 0 rfl rfl 10 (by decide) (hts _ q_829) (fun _ h9 => h9) rfl dX4_readsRoad_86 ?_
        refine lv_iconst (v := (-1 : Int32)) hx hb dX4_readsRoad_89 (by decide) ?_
        refine lv_icmp_eq (tgt := 97) hx hb dX4_readsRoad_90 (by decide) (fun c18 => ?_) (fun c18 => ?_)
        · replace h := h.1 c18
          refine lv_iconst (v := (0 : Int32)) hx hb dX4_readsRoad_97 (by decide) ?_
          exact hQ bz0 h hP hD hS dX4_readsRoad_98
        · replace h := h.2 c18
          refine lv_iconst (v := (1 : Int32)) hx hb dX4_readsRoad_93 (by decide) ?_
          refine lv_goto (tgt := 98) hx hb dX4_readsRoad_94 (by decide) ?_
          exact hQ bz1 h hP hD hS dX4_readsRoad_98
      clear e17
      refine lv_icmp_ne (tgt := 76) hx hb dX4_readsRoad_69 (by decide) (fun c19 => ?_) (fun c19 => ?_)
      · replace h := h.1 c19
        refine lv_aload_n hx hb dX4_readsRoad_76 rfl (lv_at hl 0 rfl) ?_
        refine lv_iconst (v := (0 : Int32)) hx hb dX4_readsRoad_77 (by decide) ?_
        refine lv_iconst (v := (3 : Int32)) hx hb dX4_readsRoad_78 (by decide) ?_
        refine rwVi0 (As := [.int (0 : Int32), .int (3 : Int32)]) (rest := [.ref (a 0)]) F (c_X4_figure l D cI cS cJ a (sM_third u9 x8) H.size (0 : Int32) (3 : Int32) h) (cw_X4_163 hts (Nat.le_of_ble_eq_true rfl) (Nat.le_of_ble_eq_true rfl)) hK hP hD hS hA (recv (ci := 4) (k0 := 0) hK hP rfl rfl) rfl hl.1 rfl (Nat.le_of_ble_eq_true rfl) dX4_readsRoad_79 ⟨Nat.zero_le _, Nat.zero_le _⟩ (fun r20 u21 H locs h hP hD hS => ?_)
        exact w16 r20 u21 _ _ _ hl hP hD hS h
      · replace h := h.2 c19
        refine lv_iconst (v := (-1 : Int32)) hx hb dX4_readsRoad_72 (by decide) ?_
        refine lv_goto (tgt := 82) hx hb dX4_readsRoad_73 (by decide) ?_
        exact w16 (-1 : Int32) (sM_third u9 x8) _ _ _ hl hP hD hS h
    clear e12
    refine lv_icmp_ne (tgt := 48) hx hb dX4_readsRoad_41 (by decide) (fun c22 => ?_) (fun c22 => ?_)
    · replace h := h.1 c22
      refine lv_aload_n hx hb dX4_readsRoad_48 rfl (lv_at hl 0 rfl) ?_
      refine lv_aload_n hx hb dX4_readsRoad_49 rfl (lv_at hl 0 rfl) ?_
      refine va_get (D := D) (ci := 4) (v := .int (M_first (sM_second u4 x3))) (C := RX4) (T := TX4) (N := 12) hx hb hts inT4 hown hK.k hP 0 rfl rfl 7 (by decide) (hts _ q_826) (fun _ h9 => h9) rfl dX4_readsRoad_50 ?_
      refine lv_aload_n hx hb dX4_readsRoad_53 rfl (lv_at hl 0 rfl) ?_
      refine va_get (D := D) (ci := 4) (v := .int (M_second (sM_second u4 x3))) (C := RX4) (T := TX4) (N := 12) hx hb hts inT4 hown hK.k hP 0 rfl rfl 8 (by decide) (hts _ q_827) (fun _ h9 => h9) rfl dX4_readsRoad_54 ?_
      refine rwVi0 (As := [.int (M_first (sM_second u4 x3)), .int (M_second (sM_second u4 x3))]) (rest := [.ref (a 0)]) F (c_X4_readsInn l D cI cS cJ a (sM_second u4 x3) H.size (M_first (sM_second u4 x3)) (M_second (sM_second u4 x3)) h) (cw_X4_166 hts (Nat.le_of_ble_eq_true rfl) (Nat.le_of_ble_eq_true rfl)) hK hP hD hS hA (recv (ci := 4) (k0 := 0) hK hP rfl rfl) rfl hl.1 rfl (Nat.le_of_ble_eq_true rfl) dX4_readsRoad_57 ⟨Nat.zero_le _, Nat.zero_le _⟩ (fun r23 u24 H locs h hP hD hS => ?_)
      exact w11 r23 u24 _ _ _ hl hP hD hS h
    · replace h := h.2 c22
      refine lv_iconst (v := (-1 : Int32)) hx hb dX4_readsRoad_44 (by decide) ?_
      refine lv_goto (tgt := 60) hx hb dX4_readsRoad_45 (by decide) ?_
      exact w11 (-1 : Int32) (sM_second u4 x3) _ _ _ hl hP hD hS h
  clear e7
  refine lv_icmp_ne (tgt := 23) hx hb dX4_readsRoad_16 (by decide) (fun c25 => ?_) (fun c25 => ?_)
  · replace h := h.1 c25
    refine lv_aload_n hx hb dX4_readsRoad_23 rfl (lv_at hl 0 rfl) ?_
    refine lv_aload_n hx hb dX4_readsRoad_24 rfl (lv_at hl 0 rfl) ?_
    refine va_get (D := D) (ci := 4) (v := .int (M_first (sM_first u2 r1))) (C := RX4) (T := TX4) (N := 12) hx hb hts inT4 hown hK.k hP 0 rfl rfl 7 (by decide) (hts _ q_826) (fun _ h9 => h9) rfl dX4_readsRoad_25 ?_
    refine lv_iconst (v := (-1 : Int32)) hx hb dX4_readsRoad_28 (by decide) ?_
    refine rwVi0 (As := [.int (M_first (sM_first u2 r1)), .int (-1 : Int32)]) (rest := [.ref (a 0)]) F (c_X4_readsInn l D cI cS cJ a (sM_first u2 r1) H.size (M_first (sM_first u2 r1)) (-1 : Int32) h) (cw_X4_166 hts (Nat.le_of_ble_eq_true rfl) (Nat.le_of_ble_eq_true rfl)) hK hP hD hS hA (recv (ci := 4) (k0 := 0) hK hP rfl rfl) rfl hl.1 rfl (Nat.le_of_ble_eq_true rfl) dX4_readsRoad_29 ⟨Nat.zero_le _, Nat.zero_le _⟩ (fun r26 u27 H locs h hP hD hS => ?_)
    exact w6 r26 u27 _ _ _ hl hP hD hS h
  · replace h := h.2 c25
    refine lv_iconst (v := (-1 : Int32)) hx hb dX4_readsRoad_19 (by decide) ?_
    refine lv_goto (tgt := 32) hx hb dX4_readsRoad_20 (by decide) ?_
    exact w6 (-1 : Int32) (sM_first u2 r1) _ _ _ hl hP hD hS h

def wp_X4_readsBody (u : Md)  (post : Int32 → Md → Prop) : Prop :=
  wp_X4_takes u (61 : Int32) (fun r1 u3 => jn (fun (x4 : Int32) (u5 : Md) => LP1 (fun (K10 : Md → Prop) (u9 : Md) => jn (((M_second u9) = (-1 : Int32) → post (0 : Int32) u9) ∧ (¬ (M_second u9) = (-1 : Int32) → post (1 : Int32) u9)) (fun (J12 : Prop) => ((M_second u9) ≤ 0 → J12) ∧ (¬ (M_second u9) ≤ 0 → ((1000 : Int32) ≤ (M_second u9) → J12) ∧ (¬ (1000 : Int32) ≤ (M_second u9) → wp_X4_sign u9 (fun r18 => wp_X4_in r18 (48 : Int32) (57 : Int32) (fun r19 => (r19 = 0 → J12) ∧ (¬ r19 = 0 → wp_X4_figure u9 (0 : Int32) (9 : Int32) (fun r22 u23 => K10 (sM_second u23 (((10 : Int32) * (M_second u9)) + r22)))))))))) (sM_second u5 x4)) (fun (J6 : Int32 → Md → Prop) => (r1 = 0 → J6 (-1 : Int32) u3) ∧ (¬ r1 = 0 → wp_X4_figure u3 (0 : Int32) (9 : Int32) (fun r25 u26 => J6 r25 u26))))
set_option maxHeartbeats 4000000 in
set_option maxRecDepth 100000 in
theorem c_X4_readsBody (l : Launch) (D : va_G) (cI cS cJ : ClassId) (a : Nat → Nat) (u : Md) (sz : Nat)  {post : Int32 → Md → Prop} (h : wp_X4_readsBody u post) : Met l yX4_readsBody (wsA yX4_readsBody cX4_readsBody 1 (some .boolean)) rm_X4_readsBody (va_Pc [.ref (a 0)] (rwP D (tysA cI cS cJ) (mdW cI a u) sz)) (va_Qi (fun r u9 => bz r ∧ post r u9) (fun u9 t => va_P D vwCl ((mdW cI a) u9) t.heap ∧ va_D (va_A (mdW cI a u) sz) ((mdW cI a) u9)) (va_A (mdW cI a u) sz)) 0 0 (va_A (mdW cI a u) sz) := by
  refine mkRWz (wf := (mdW cI a)) (by decide +kernel) (Nat.le_of_ble_eq_true rfl) (fun {p e s m args below meth c Q ls A H0 H locs} hx hb F hts hown hK hP hD hS hA hl hQ => ?_)
  have hown : s.vm.findClass RX4 = some m.cls := hown
  have F : CallFix p m c cX4_readsBody 1 s args wsT RX4 := F
  have hl : lv_has ls 1 [(0, .ref (a 0))] := hl
  unfold wp_X4_readsBody at h
  refine lv_aload_n hx hb dX4_readsBody_0 rfl (lv_at hl 0 rfl) ?_
  refine lv_aload_n hx hb dX4_readsBody_1 rfl (lv_at hl 0 rfl) ?_
  refine lv_bipush (v := (61 : Int32)) hx hb dX4_readsBody_2 (by decide) ?_
  refine rwVi0 (As := [.int (61 : Int32)]) (rest := [.ref (a 0)]) F (c_X4_takes l D cI cS cJ a u H.size (61 : Int32) h) (cw_X4_181 hts (Nat.le_of_ble_eq_true rfl) (Nat.le_of_ble_eq_true rfl)) hK hP hD hS hA (recv (ci := 4) (k0 := 0) hK hP rfl rfl) rfl hl.1 rfl (Nat.le_of_ble_eq_true rfl) dX4_readsBody_4 ⟨Nat.zero_le _, Nat.zero_le _⟩ (fun r1 u3 H locs h hP hD hS => ?_)
  obtain ⟨b2, h⟩ := h
  refine jn_e h (fun J6 e8 h => ?_)
  have w7 : ∀ (x4 : Int32) (u5 : Md) (ls : Array Slot) (H : Heap) (locs : List Loc), lv_has ls 1 [(0, .ref (a 0))] → va_P D vwCl (mdW cI a u5) H → va_D A (mdW cI a u5) → va_S A H0 H locs → J6 x4 u5 → W p l e rm_X4_readsBody s m args below meth c H locs 0 0 Q (F0 m 21 ls [.int x4, .ref (a 0)]) := by
    intro x4 u5 ls H locs hl hP hD hS h
    subst e8
    refine va_put (D := D) (ci := 4) (v := .int x4) (ty := .int) (C := RX4) (T := TX4) (N := 12) hx hb hts inT4 tyX4 tyX4_ok nmX4 hown hK.k hP hD hS 0 rfl rfl 8 (by decide) (hts _ q_827) (fun _ h9 => h9) rfl (by decide +kernel) rfl rfl (Nat.le_of_ble_eq_true rfl) dX4_readsBody_21 (fun H locs hP hD hS => ?_)
    have hP : va_P D vwCl (mdW cI a (sM_second u5 x4)) H := hP
    have hD : va_D A (mdW cI a (sM_second u5 x4)) := hD
    refine lpu1 h (fun K10 : Md → Prop => ∀ (u9 : Md) (ls : Array Slot) (H : Heap) (locs : List Loc), lv_has ls 1 [(0, .ref (a 0))] → va_P D vwCl (mdW cI a u9) H → va_D A (mdW cI a u9) → va_S A H0 H locs → K10 u9 → W p l e rm_X4_readsBody s m args below meth c H locs 0 0 Q (F0 m 24 ls [])) ?_ ?_ ?_
    · intro u9 ls H locs hl hP hD hS h
      exact h.elim
    · intro K10
      intro w11 u9 ls H locs hl hP hD hS h
      refine lv_aload_n hx hb dX4_readsBody_24 rfl (lv_at hl 0 rfl) ?_
      refine va_get (D := D) (ci := 4) (v := .int (M_second u9)) (C := RX4) (T := TX4) (N := 12) hx hb hts inT4 hown hK.k hP 0 rfl rfl 8 (by decide) (hts _ q_827) (fun _ h9 => h9) rfl dX4_readsBody_25 ?_
      refine jn_e h (fun J12 e14 h => ?_)
      have w13 : ∀  (ls : Array Slot) (H : Heap) (locs : List Loc), lv_has ls 1 [(0, .ref (a 0))] → va_P D vwCl (mdW cI a u9) H → va_D A (mdW cI a u9) → va_S A H0 H locs → J12 → W p l e rm_X4_readsBody s m args below meth c H locs 0 0 Q (F0 m 77 ls []) := by
        intro ls H locs hl hP hD hS h
        subst e14
        refine lv_aload_n hx hb dX4_readsBody_77 rfl (lv_at hl 0 rfl) ?_
        refine va_get (D := D) (ci := 4) (v := .int (M_second u9)) (C := RX4) (T := TX4) (N := 12) hx hb hts inT4 hown hK.k hP 0 rfl rfl 8 (by decide) (hts _ q_827) (fun _ h9 => h9) rfl dX4_readsBody_78 ?_
        refine lv_iconst (v := (-1 : Int32)) hx hb dX4_readsBody_81 (by decide) ?_
        refine lv_icmp_eq (tgt := 89) hx hb dX4_readsBody_82 (by decide) (fun c15 => ?_) (fun c15 => ?_)
        · replace h := h.1 c15
          refine lv_iconst (v := (0 : Int32)) hx hb dX4_readsBody_89 (by decide) ?_
          exact hQ bz0 h hP hD hS dX4_readsBody_90
        · replace h := h.2 c15
          refine lv_iconst (v := (1 : Int32)) hx hb dX4_readsBody_85 (by decide) ?_
          refine lv_goto (tgt := 90) hx hb dX4_readsBody_86 (by decide) ?_
          exact hQ bz1 h hP hD hS dX4_readsBody_90
      clear e14
      refine lv_if_le (tgt := 77) hx hb dX4_readsBody_28 (by decide) (fun c16 => ?_) (fun c16 => ?_)
      · replace h := h.1 c16
        exact w13 _ _ _ hl hP hD hS h
      · replace h := h.2 c16
        refine lv_aload_n hx hb dX4_readsBody_31 rfl (lv_at hl 0 rfl) ?_
        refine va_get (D := D) (ci := 4) (v := .int (M_second u9)) (C := RX4) (T := TX4) (N := 12) hx hb hts inT4 hown hK.k hP 0 rfl rfl 8 (by decide) (hts _ q_827) (fun _ h9 => h9) rfl dX4_readsBody_32 ?_
        refine lv_sipush (v := (1000 : Int32)) hx hb dX4_readsBody_35 (by decide) ?_
        refine lv_icmp_ge (tgt := 77) hx hb dX4_readsBody_38 (by decide) (fun c17 => ?_) (fun c17 => ?_)
        · replace h := h.1 c17
          exact w13 _ _ _ hl hP hD hS h
        · replace h := h.2 c17
          refine lv_aload_n hx hb dX4_readsBody_41 rfl (lv_at hl 0 rfl) ?_
          refine roVi (As := []) (rest := []) F (c_X4_sign l D cI cS cJ a u9 H  h) (cw_X4_159 hts (Nat.le_of_ble_eq_true rfl) (Nat.le_of_ble_eq_true rfl)) hK hP (recv (ci := 4) (k0 := 0) hK hP rfl rfl) rfl hl.1 rfl (Nat.le_of_ble_eq_true rfl) dX4_readsBody_42 ⟨Nat.zero_le _, Nat.zero_le _⟩ (fun r18 h => ?_)
          refine lv_bipush (v := (48 : Int32)) hx hb dX4_readsBody_45 (by decide) ?_
          refine lv_bipush (v := (57 : Int32)) hx hb dX4_readsBody_47 (by decide) ?_
          refine roSi (As := [.int r18, .int (48 : Int32), .int (57 : Int32)]) (rest := []) F (c_X4_in l D cI cS cJ H r18 (48 : Int32) (57 : Int32) h) (cw_X4_20 hts (Nat.le_of_ble_eq_true rfl) (Nat.le_of_ble_eq_true rfl)) hK vP_nil rfl hl.1 rfl (Nat.le_of_ble_eq_true rfl) dX4_readsBody_49 ⟨Nat.zero_le _, Nat.zero_le _⟩ (fun r19 h => ?_)
          obtain ⟨b20, h⟩ := h
          refine lv_if_eq (tgt := 77) hx hb dX4_readsBody_52 (by decide) (fun c21 => ?_) (fun c21 => ?_)
          · replace h := h.1 c21
            exact w13 _ _ _ hl hP hD hS h
          · replace h := h.2 c21
            refine lv_aload_n hx hb dX4_readsBody_55 rfl (lv_at hl 0 rfl) ?_
            refine lv_bipush (v := (10 : Int32)) hx hb dX4_readsBody_56 (by decide) ?_
            refine lv_aload_n hx hb dX4_readsBody_58 rfl (lv_at hl 0 rfl) ?_
            refine va_get (D := D) (ci := 4) (v := .int (M_second u9)) (C := RX4) (T := TX4) (N := 12) hx hb hts inT4 hown hK.k hP 0 rfl rfl 8 (by decide) (hts _ q_827) (fun _ h9 => h9) rfl dX4_readsBody_59 ?_
            refine lv_imul hx hb dX4_readsBody_62 ?_
            refine lv_aload_n hx hb dX4_readsBody_63 rfl (lv_at hl 0 rfl) ?_
            refine lv_iconst (v := (0 : Int32)) hx hb dX4_readsBody_64 (by decide) ?_
            refine lv_bipush (v := (9 : Int32)) hx hb dX4_readsBody_65 (by decide) ?_
            refine rwVi0 (As := [.int (0 : Int32), .int (9 : Int32)]) (rest := [.int ((10 : Int32) * (M_second u9)), .ref (a 0)]) F (c_X4_figure l D cI cS cJ a u9 H.size (0 : Int32) (9 : Int32) h) (cw_X4_163 hts (Nat.le_of_ble_eq_true rfl) (Nat.le_of_ble_eq_true rfl)) hK hP hD hS hA (recv (ci := 4) (k0 := 0) hK hP rfl rfl) rfl hl.1 rfl (Nat.le_of_ble_eq_true rfl) dX4_readsBody_67 ⟨Nat.zero_le _, Nat.zero_le _⟩ (fun r22 u23 H locs h hP hD hS => ?_)
            refine lv_iadd hx hb dX4_readsBody_70 ?_
            refine va_put (D := D) (ci := 4) (v := .int (((10 : Int32) * (M_second u9)) + r22)) (ty := .int) (C := RX4) (T := TX4) (N := 12) hx hb hts inT4 tyX4 tyX4_ok nmX4 hown hK.k hP hD hS 0 rfl rfl 8 (by decide) (hts _ q_827) (fun _ h9 => h9) rfl (by decide +kernel) rfl rfl (Nat.le_of_ble_eq_true rfl) dX4_readsBody_71 (fun H locs hP hD hS => ?_)
            have hP : va_P D vwCl (mdW cI a (sM_second u23 (((10 : Int32) * (M_second u9)) + r22))) H := hP
            have hD : va_D A (mdW cI a (sM_second u23 (((10 : Int32) * (M_second u9)) + r22))) := hD
            refine lv_goto (tgt := 24) hx hb dX4_readsBody_74 (by decide) ?_
            exact w11 (sM_second u23 (((10 : Int32) * (M_second u9)) + r22)) _ _ _ hl hP hD hS h
    · intro K10 w11 h
      exact w11 (sM_second u5 x4) _ _ _ hl hP hD hS h
  clear e8
  refine lv_if_eq (tgt := 20) hx hb dX4_readsBody_7 (by decide) (fun c24 => ?_) (fun c24 => ?_)
  · replace h := h.1 c24
    refine lv_iconst (v := (-1 : Int32)) hx hb dX4_readsBody_20 (by decide) ?_
    exact w7 (-1 : Int32) u3 _ _ _ hl hP hD hS h
  · replace h := h.2 c24
    refine lv_aload_n hx hb dX4_readsBody_10 rfl (lv_at hl 0 rfl) ?_
    refine lv_iconst (v := (0 : Int32)) hx hb dX4_readsBody_11 (by decide) ?_
    refine lv_bipush (v := (9 : Int32)) hx hb dX4_readsBody_12 (by decide) ?_
    refine rwVi0 (As := [.int (0 : Int32), .int (9 : Int32)]) (rest := [.ref (a 0)]) F (c_X4_figure l D cI cS cJ a u3 H.size (0 : Int32) (9 : Int32) h) (cw_X4_163 hts (Nat.le_of_ble_eq_true rfl) (Nat.le_of_ble_eq_true rfl)) hK hP hD hS hA (recv (ci := 4) (k0 := 0) hK hP rfl rfl) rfl hl.1 rfl (Nat.le_of_ble_eq_true rfl) dX4_readsBody_14 ⟨Nat.zero_le _, Nat.zero_le _⟩ (fun r25 u26 H locs h hP hD hS => ?_)
    refine lv_goto (tgt := 21) hx hb dX4_readsBody_17 (by decide) ?_
    exact w7 r25 u26 _ _ _ hl hP hD hS h

def wp_X4_readsOrder (u : Md)  (post : Int32 → Md → Prop) : Prop :=
  wp_X4_sign u (fun r1 => wp_X4_takes (sM_letter u r1) (114 : Int32) (fun r2 u4 => (r2 = 0 → wp_X4_takes u4 (115 : Int32) (fun r6 u8 => jn (fun (u9 : Md) => jn (fun (x13 : Int32) => wp_X4_figure u9 (0 : Int32) x13 (fun r17 u18 => ((M_first (sM_first u18 r17)) = (-1 : Int32) → post (0 : Int32) (sM_first u18 r17)) ∧ (¬ (M_first (sM_first u18 r17)) = (-1 : Int32) → wp_X4_readsBody (sM_first u18 r17) (fun r20 u22 => (r20 = 0 → post (0 : Int32) u22) ∧ (¬ r20 = 0 → post (1 : Int32) u22))))) (fun (J14 : Int32 → Prop) => (¬ (M_letter u9) = (115 : Int32) → J14 (3 : Int32)) ∧ ((M_letter u9) = (115 : Int32) → J14 (5 : Int32)))) (fun (J10 : Md → Prop) => (¬ r6 = 0 → J10 u8) ∧ (r6 = 0 → wp_X4_takes u8 (97 : Int32) (fun r26 u28 => (r26 = 0 → wp_X4_takes u28 (116 : Int32) (fun r30 u32 => (r30 = 0 → wp_X4_takes u32 (99 : Int32) (fun r34 u36 => jn (fun (x37 : Int32) (u38 : Md) => ((M_first (sM_first u38 x37)) = (-1 : Int32) → post (0 : Int32) (sM_first u38 x37)) ∧ (¬ (M_first (sM_first u38 x37)) = (-1 : Int32) → post (1 : Int32) (sM_first u38 x37))) (fun (J39 : Int32 → Md → Prop) => jn (fun (u43 : Md) => wp_X4_figure u43 (0 : Int32) (7 : Int32) (fun r47 u48 => J39 r47 u48)) (fun (J44 : Md → Prop) => (¬ r34 = 0 → J44 u36) ∧ (r34 = 0 → wp_X4_takes u36 (111 : Int32) (fun r50 u52 => (r50 = 0 → J39 (-1 : Int32) u52) ∧ (¬ r50 = 0 → J44 u52))))))) ∧ (¬ r30 = 0 → wp_X4_figure u32 (1 : Int32) (9 : Int32) (fun r54 u55 => ((M_first (sM_first u55 r54)) = (-1 : Int32) → post (0 : Int32) (sM_first u55 r54)) ∧ (¬ (M_first (sM_first u55 r54)) = (-1 : Int32) → post (1 : Int32) (sM_first u55 r54)))))) ∧ (¬ r26 = 0 → J10 u28)))))) ∧ (¬ r2 = 0 → wp_X4_readsRoad u4 (fun r57 u59 => post r57 u59))))
set_option maxHeartbeats 4000000 in
set_option maxRecDepth 100000 in
theorem c_X4_readsOrder (l : Launch) (D : va_G) (cI cS cJ : ClassId) (a : Nat → Nat) (u : Md) (sz : Nat)  {post : Int32 → Md → Prop} (h : wp_X4_readsOrder u post) : Met l yX4_readsOrder (wsA yX4_readsOrder cX4_readsOrder 1 (some .boolean)) rm_X4_readsOrder (va_Pc [.ref (a 0)] (rwP D (tysA cI cS cJ) (mdW cI a u) sz)) (va_Qi (fun r u9 => bz r ∧ post r u9) (fun u9 t => va_P D vwCl ((mdW cI a) u9) t.heap ∧ va_D (va_A (mdW cI a u) sz) ((mdW cI a) u9)) (va_A (mdW cI a u) sz)) 0 0 (va_A (mdW cI a u) sz) := by
  refine mkRWz (wf := (mdW cI a)) (by decide +kernel) (Nat.le_of_ble_eq_true rfl) (fun {p e s m args below meth c Q ls A H0 H locs} hx hb F hts hown hK hP hD hS hA hl hQ => ?_)
  have hown : s.vm.findClass RX4 = some m.cls := hown
  have F : CallFix p m c cX4_readsOrder 1 s args wsT RX4 := F
  have hl : lv_has ls 1 [(0, .ref (a 0))] := hl
  unfold wp_X4_readsOrder at h
  refine lv_aload_n hx hb dX4_readsOrder_0 rfl (lv_at hl 0 rfl) ?_
  refine lv_aload_n hx hb dX4_readsOrder_1 rfl (lv_at hl 0 rfl) ?_
  refine roVi (As := []) (rest := [.ref (a 0)]) F (c_X4_sign l D cI cS cJ a u H  h) (cw_X4_159 hts (Nat.le_of_ble_eq_true rfl) (Nat.le_of_ble_eq_true rfl)) hK hP (recv (ci := 4) (k0 := 0) hK hP rfl rfl) rfl hl.1 rfl (Nat.le_of_ble_eq_true rfl) dX4_readsOrder_2 ⟨Nat.zero_le _, Nat.zero_le _⟩ (fun r1 h => ?_)
  refine va_put (D := D) (ci := 4) (v := .int r1) (ty := .int) (C := RX4) (T := TX4) (N := 12) hx hb hts inT4 tyX4 tyX4_ok nmX4 hown hK.k hP hD hS 0 rfl rfl 6 (by decide) (hts _ q_825) (fun _ h9 => h9) rfl (by decide +kernel) rfl rfl (Nat.le_of_ble_eq_true rfl) dX4_readsOrder_5 (fun H locs hP hD hS => ?_)
  have hP : va_P D vwCl (mdW cI a (sM_letter u r1)) H := hP
  have hD : va_D A (mdW cI a (sM_letter u r1)) := hD
  refine lv_aload_n hx hb dX4_readsOrder_8 rfl (lv_at hl 0 rfl) ?_
  refine lv_bipush (v := (114 : Int32)) hx hb dX4_readsOrder_9 (by decide) ?_
  refine rwVi0 (As := [.int (114 : Int32)]) (rest := []) F (c_X4_takes l D cI cS cJ a (sM_letter u r1) H.size (114 : Int32) h) (cw_X4_181 hts (Nat.le_of_ble_eq_true rfl) (Nat.le_of_ble_eq_true rfl)) hK hP hD hS hA (recv (ci := 4) (k0 := 0) hK hP rfl rfl) rfl hl.1 rfl (Nat.le_of_ble_eq_true rfl) dX4_readsOrder_11 ⟨Nat.zero_le _, Nat.zero_le _⟩ (fun r2 u4 H locs h hP hD hS => ?_)
  obtain ⟨b3, h⟩ := h
  refine lv_if_eq (tgt := 22) hx hb dX4_readsOrder_14 (by decide) (fun c5 => ?_) (fun c5 => ?_)
  · replace h := h.1 c5
    refine lv_aload_n hx hb dX4_readsOrder_22 rfl (lv_at hl 0 rfl) ?_
    refine lv_bipush (v := (115 : Int32)) hx hb dX4_readsOrder_23 (by decide) ?_
    refine rwVi0 (As := [.int (115 : Int32)]) (rest := []) F (c_X4_takes l D cI cS cJ a u4 H.size (115 : Int32) h) (cw_X4_181 hts (Nat.le_of_ble_eq_true rfl) (Nat.le_of_ble_eq_true rfl)) hK hP hD hS hA (recv (ci := 4) (k0 := 0) hK hP rfl rfl) rfl hl.1 rfl (Nat.le_of_ble_eq_true rfl) dX4_readsOrder_25 ⟨Nat.zero_le _, Nat.zero_le _⟩ (fun r6 u8 H locs h hP hD hS => ?_)
    obtain ⟨b7, h⟩ := h
    refine jn_e h (fun J10 e12 h => ?_)
    have w11 : ∀ (u9 : Md) (ls : Array Slot) (H : Heap) (locs : List Loc), lv_has ls 1 [(0, .ref (a 0))] → va_P D vwCl (mdW cI a u9) H → va_D A (mdW cI a u9) → va_S A H0 H locs → J10 u9 → W p l e rm_X4_readsOrder s m args below meth c H locs 0 0 Q (F0 m 40 ls []) := by
      intro u9 ls H locs hl hP hD hS h
      subst e12
      refine lv_aload_n hx hb dX4_readsOrder_40 rfl (lv_at hl 0 rfl) ?_
      refine lv_aload_n hx hb dX4_readsOrder_41 rfl (lv_at hl 0 rfl) ?_
      refine lv_iconst (v := (0 : Int32)) hx hb dX4_readsOrder_42 (by decide) ?_
      refine lv_aload_n hx hb dX4_readsOrder_43 rfl (lv_at hl 0 rfl) ?_
      refine va_get (D := D) (ci := 4) (v := .int (M_letter u9)) (C := RX4) (T := TX4) (N := 12) hx hb hts inT4 hown hK.k hP 0 rfl rfl 6 (by decide) (hts _ q_825) (fun _ h9 => h9) rfl dX4_readsOrder_44 ?_
      refine lv_bipush (v := (115 : Int32)) hx hb dX4_readsOrder_47 (by decide) ?_
      refine jn_e h (fun J14 e16 h => ?_)
      have w15 : ∀ (x13 : Int32) (ls : Array Slot) (H : Heap) (locs : List Loc), lv_has ls 1 [(0, .ref (a 0))] → va_P D vwCl (mdW cI a u9) H → va_D A (mdW cI a u9) → va_S A H0 H locs → J14 x13 → W p l e rm_X4_readsOrder s m args below meth c H locs 0 0 Q (F0 m 57 ls [.int x13, .int (0 : Int32), .ref (a 0), .ref (a 0)]) := by
        intro x13 ls H locs hl hP hD hS h
        subst e16
        refine rwVi0 (As := [.int (0 : Int32), .int x13]) (rest := [.ref (a 0)]) F (c_X4_figure l D cI cS cJ a u9 H.size (0 : Int32) x13 h) (cw_X4_163 hts (Nat.le_of_ble_eq_true rfl) (Nat.le_of_ble_eq_true rfl)) hK hP hD hS hA (recv (ci := 4) (k0 := 0) hK hP rfl rfl) rfl hl.1 rfl (Nat.le_of_ble_eq_true rfl) dX4_readsOrder_57 ⟨Nat.zero_le _, Nat.zero_le _⟩ (fun r17 u18 H locs h hP hD hS => ?_)
        refine va_put (D := D) (ci := 4) (v := .int r17) (ty := .int) (C := RX4) (T := TX4) (N := 12) hx hb hts inT4 tyX4 tyX4_ok nmX4 hown hK.k hP hD hS 0 rfl rfl 7 (by decide) (hts _ q_826) (fun _ h9 => h9) rfl (by decide +kernel) rfl rfl (Nat.le_of_ble_eq_true rfl) dX4_readsOrder_60 (fun H locs hP hD hS => ?_)
        have hP : va_P D vwCl (mdW cI a (sM_first u18 r17)) H := hP
        have hD : va_D A (mdW cI a (sM_first u18 r17)) := hD
        refine lv_aload_n hx hb dX4_readsOrder_63 rfl (lv_at hl 0 rfl) ?_
        refine va_get (D := D) (ci := 4) (v := .int (M_first (sM_first u18 r17))) (C := RX4) (T := TX4) (N := 12) hx hb hts inT4 hown hK.k hP 0 rfl rfl 7 (by decide) (hts _ q_826) (fun _ h9 => h9) rfl dX4_readsOrder_64 ?_
        refine lv_iconst (v := (-1 : Int32)) hx hb dX4_readsOrder_67 (by decide) ?_
        refine lv_icmp_eq (tgt := 82) hx hb dX4_readsOrder_68 (by decide) (fun c19 => ?_) (fun c19 => ?_)
        · replace h := h.1 c19
          refine lv_iconst (v := (0 : Int32)) hx hb dX4_readsOrder_82 (by decide) ?_
          exact hQ bz0 h hP hD hS dX4_readsOrder_83
        · replace h := h.2 c19
          refine lv_aload_n hx hb dX4_readsOrder_71 rfl (lv_at hl 0 rfl) ?_
          refine rwVi0 (As := []) (rest := []) F (c_X4_readsBody l D cI cS cJ a (sM_first u18 r17) H.size  h) (cw_X4_190 hts (Nat.le_of_ble_eq_true rfl) (Nat.le_of_ble_eq_true rfl)) hK hP hD hS hA (recv (ci := 4) (k0 := 0) hK hP rfl rfl) rfl hl.1 rfl (Nat.le_of_ble_eq_true rfl) dX4_readsOrder_72 ⟨Nat.zero_le _, Nat.zero_le _⟩ (fun r20 u22 H locs h hP hD hS => ?_)
          obtain ⟨b21, h⟩ := h
          refine lv_if_eq (tgt := 82) hx hb dX4_readsOrder_75 (by decide) (fun c23 => ?_) (fun c23 => ?_)
          · replace h := h.1 c23
            refine lv_iconst (v := (0 : Int32)) hx hb dX4_readsOrder_82 (by decide) ?_
            exact hQ bz0 h hP hD hS dX4_readsOrder_83
          · replace h := h.2 c23
            refine lv_iconst (v := (1 : Int32)) hx hb dX4_readsOrder_78 (by decide) ?_
            refine lv_goto (tgt := 83) hx hb dX4_readsOrder_79 (by decide) ?_
            exact hQ bz1 h hP hD hS dX4_readsOrder_83
      clear e16
      refine lv_icmp_ne (tgt := 56) hx hb dX4_readsOrder_49 (by decide) (fun c24 => ?_) (fun c24 => ?_)
      · replace h := h.1 c24
        refine lv_iconst (v := (3 : Int32)) hx hb dX4_readsOrder_56 (by decide) ?_
        exact w15 (3 : Int32) _ _ _ hl hP hD hS h
      · replace h := h.2 c24
        refine lv_iconst (v := (5 : Int32)) hx hb dX4_readsOrder_52 (by decide) ?_
        refine lv_goto (tgt := 57) hx hb dX4_readsOrder_53 (by decide) ?_
        exact w15 (5 : Int32) _ _ _ hl hP hD hS h
    clear e12
    refine lv_if_ne (tgt := 40) hx hb dX4_readsOrder_28 (by decide) (fun c25 => ?_) (fun c25 => ?_)
    · replace h := h.1 c25
      exact w11 u8 _ _ _ hl hP hD hS h
    · replace h := h.2 c25
      refine lv_aload_n hx hb dX4_readsOrder_31 rfl (lv_at hl 0 rfl) ?_
      refine lv_bipush (v := (97 : Int32)) hx hb dX4_readsOrder_32 (by decide) ?_
      refine rwVi0 (As := [.int (97 : Int32)]) (rest := []) F (c_X4_takes l D cI cS cJ a u8 H.size (97 : Int32) h) (cw_X4_181 hts (Nat.le_of_ble_eq_true rfl) (Nat.le_of_ble_eq_true rfl)) hK hP hD hS hA (recv (ci := 4) (k0 := 0) hK hP rfl rfl) rfl hl.1 rfl (Nat.le_of_ble_eq_true rfl) dX4_readsOrder_34 ⟨Nat.zero_le _, Nat.zero_le _⟩ (fun r26 u28 H locs h hP hD hS => ?_)
      obtain ⟨b27, h⟩ := h
      refine lv_if_eq (tgt := 84) hx hb dX4_readsOrder_37 (by decide) (fun c29 => ?_) (fun c29 => ?_)
      · replace h := h.1 c29
        refine lv_aload_n hx hb dX4_readsOrder_84 rfl (lv_at hl 0 rfl) ?_
        refine lv_bipush (v := (116 : Int32)) hx hb dX4_readsOrder_85 (by decide) ?_
        refine rwVi0 (As := [.int (116 : Int32)]) (rest := []) F (c_X4_takes l D cI cS cJ a u28 H.size (116 : Int32) h) (cw_X4_181 hts (Nat.le_of_ble_eq_true rfl) (Nat.le_of_ble_eq_true rfl)) hK hP hD hS hA (recv (ci := 4) (k0 := 0) hK hP rfl rfl) rfl hl.1 rfl (Nat.le_of_ble_eq_true rfl) dX4_readsOrder_87 ⟨Nat.zero_le _, Nat.zero_le _⟩ (fun r30 u32 H locs h hP hD hS => ?_)
        obtain ⟨b31, h⟩ := h
        refine lv_if_eq (tgt := 118) hx hb dX4_readsOrder_90 (by decide) (fun c33 => ?_) (fun c33 => ?_)
        · replace h := h.1 c33
          refine lv_aload_n hx hb dX4_readsOrder_118 rfl (lv_at hl 0 rfl) ?_
          refine lv_aload_n hx hb dX4_readsOrder_119 rfl (lv_at hl 0 rfl) ?_
          refine lv_bipush (v := (99 : Int32)) hx hb dX4_readsOrder_120 (by decide) ?_
          refine rwVi0 (As := [.int (99 : Int32)]) (rest := [.ref (a 0)]) F (c_X4_takes l D cI cS cJ a u32 H.size (99 : Int32) h) (cw_X4_181 hts (Nat.le_of_ble_eq_true rfl) (Nat.le_of_ble_eq_true rfl)) hK hP hD hS hA (recv (ci := 4) (k0 := 0) hK hP rfl rfl) rfl hl.1 rfl (Nat.le_of_ble_eq_true rfl) dX4_readsOrder_122 ⟨Nat.zero_le _, Nat.zero_le _⟩ (fun r34 u36 H locs h hP hD hS => ?_)
          obtain ⟨b35, h⟩ := h
          refine jn_e h (fun J39 e41 h => ?_)
          have w40 : ∀ (x37 : Int32) (u38 : Md) (ls : Array Slot) (H : Heap) (locs : List Loc), lv_has ls 1 [(0, .ref (a 0))] → va_P D vwCl (mdW cI a u38) H → va_D A (mdW cI a u38) → va_S A H0 H locs → J39 x37 u38 → W p l e rm_X4_readsOrder s m args below meth c H locs 0 0 Q (F0 m 148 ls [.int x37, .ref (a 0)]) := by
            intro x37 u38 ls H locs hl hP hD hS h
            subst e41
            refine va_put (D := D) (ci := 4) (v := .int x37) (ty := .int) (C := RX4) (T := TX4) (N := 12) hx hb hts inT4 tyX4 tyX4_ok nmX4 hown hK.k hP hD hS 0 rfl rfl 7 (by decide) (hts _ q_826) (fun _ h9 => h9) rfl (by decide +kernel) rfl rfl (Nat.le_of_ble_eq_true rfl) dX4_readsOrder_148 (fun H locs hP hD hS => ?_)
            have hP : va_P D vwCl (mdW cI a (sM_first u38 x37)) H := hP
            have hD : va_D A (mdW cI a (sM_first u38 x37)) := hD
            refine lv_aload_n hx hb dX4_readsOrder_151 rfl (lv_at hl 0 rfl) ?_
            refine va_get (D := D) (ci := 4) (v := .int (M_first (sM_first u38 x37))) (C := RX4) (T := TX4) (N := 12) hx hb hts inT4 hown hK.k hP 0 rfl rfl 7 (by decide) (hts _ q_826) (fun _ h9 => h9) rfl dX4_readsOrder_152 ?_
            refine lv_iconst (v := (-1 : Int32)) hx hb dX4_readsOrder_155 (by decide) ?_
            refine lv_icmp_eq (tgt := 163) hx hb dX4_readsOrder_156 (by decide) (fun c42 => ?_) (fun c42 => ?_)
            · replace h := h.1 c42
              refine lv_iconst (v := (0 : Int32)) hx hb dX4_readsOrder_163 (by decide) ?_
              exact hQ bz0 h hP hD hS dX4_readsOrder_164
            · replace h := h.2 c42
              refine lv_iconst (v := (1 : Int32)) hx hb dX4_readsOrder_159 (by decide) ?_
              refine lv_goto (tgt := 164) hx hb dX4_readsOrder_160 (by decide) ?_
              exact hQ bz1 h hP hD hS dX4_readsOrder_164
          clear e41
          refine jn_e h (fun J44 e46 h => ?_)
          have w45 : ∀ (u43 : Md) (ls : Array Slot) (H : Heap) (locs : List Loc), lv_has ls 1 [(0, .ref (a 0))] → va_P D vwCl (mdW cI a u43) H → va_D A (mdW cI a u43) → va_S A H0 H locs → J44 u43 → W p l e rm_X4_readsOrder s m args below meth c H locs 0 0 Q (F0 m 137 ls [.ref (a 0)]) := by
            intro u43 ls H locs hl hP hD hS h
            subst e46
            refine lv_aload_n hx hb dX4_readsOrder_137 rfl (lv_at hl 0 rfl) ?_
            refine lv_iconst (v := (0 : Int32)) hx hb dX4_readsOrder_138 (by decide) ?_
            refine lv_bipush (v := (7 : Int32)) hx hb dX4_readsOrder_139 (by decide) ?_
            refine rwVi0 (As := [.int (0 : Int32), .int (7 : Int32)]) (rest := [.ref (a 0)]) F (c_X4_figure l D cI cS cJ a u43 H.size (0 : Int32) (7 : Int32) h) (cw_X4_163 hts (Nat.le_of_ble_eq_true rfl) (Nat.le_of_ble_eq_true rfl)) hK hP hD hS hA (recv (ci := 4) (k0 := 0) hK hP rfl rfl) rfl hl.1 rfl (Nat.le_of_ble_eq_true rfl) dX4_readsOrder_141 ⟨Nat.zero_le _, Nat.zero_le _⟩ (fun r47 u48 H locs h hP hD hS => ?_)
            refine lv_goto (tgt := 148) hx hb dX4_readsOrder_144 (by decide) ?_
            exact w40 r47 u48 _ _ _ hl hP hD hS h
          clear e46
          refine lv_if_ne (tgt := 137) hx hb dX4_readsOrder_125 (by decide) (fun c49 => ?_) (fun c49 => ?_)
          · replace h := h.1 c49
            exact w45 u36 _ _ _ hl hP hD hS h
          · replace h := h.2 c49
            refine lv_aload_n hx hb dX4_readsOrder_128 rfl (lv_at hl 0 rfl) ?_
            refine lv_bipush (v := (111 : Int32)) hx hb dX4_readsOrder_129 (by decide) ?_
            refine rwVi0 (As := [.int (111 : Int32)]) (rest := [.ref (a 0)]) F (c_X4_takes l D cI cS cJ a u36 H.size (111 : Int32) h) (cw_X4_181 hts (Nat.le_of_ble_eq_true rfl) (Nat.le_of_ble_eq_true rfl)) hK hP hD hS hA (recv (ci := 4) (k0 := 0) hK hP rfl rfl) rfl hl.1 rfl (Nat.le_of_ble_eq_true rfl) dX4_readsOrder_131 ⟨Nat.zero_le _, Nat.zero_le _⟩ (fun r50 u52 H locs h hP hD hS => ?_)
            obtain ⟨b51, h⟩ := h
            refine lv_if_eq (tgt := 147) hx hb dX4_readsOrder_134 (by decide) (fun c53 => ?_) (fun c53 => ?_)
            · replace h := h.1 c53
              refine lv_iconst (v := (-1 : Int32)) hx hb dX4_readsOrder_147 (by decide) ?_
              exact w40 (-1 : Int32) u52 _ _ _ hl hP hD hS h
            · replace h := h.2 c53
              exact w45 u52 _ _ _ hl hP hD hS h
        · replace h := h.2 c33
          refine lv_aload_n hx hb dX4_readsOrder_93 rfl (lv_at hl 0 rfl) ?_
          refine lv_aload_n hx hb dX4_readsOrder_94 rfl (lv_at hl 0 rfl) ?_
          refine lv_iconst (v := (1 : Int32)) hx hb dX4_readsOrder_95 (by decide) ?_
          refine lv_bipush (v := (9 : Int32)) hx hb dX4_readsOrder_96 (by decide) ?_
          refine rwVi0 (As := [.int (1 : Int32), .int (9 : Int32)]) (rest := [.ref (a 0)]) F (c_X4_figure l D cI cS cJ a u32 H.size (1 : Int32) (9 : Int32) h) (cw_X4_163 hts (Nat.le_of_ble_eq_true rfl) (Nat.le_of_ble_eq_true rfl)) hK hP hD hS hA (recv (ci := 4) (k0 := 0) hK hP rfl rfl) rfl hl.1 rfl (Nat.le_of_ble_eq_true rfl) dX4_readsOrder_98 ⟨Nat.zero_le _, Nat.zero_le _⟩ (fun r54 u55 H locs h hP hD hS => ?_)
          refine va_put (D := D) (ci := 4) (v := .int r54) (ty := .int) (C := RX4) (T := TX4) (N := 12) hx hb hts inT4 tyX4 tyX4_ok nmX4 hown hK.k hP hD hS 0 rfl rfl 7 (by decide) (hts _ q_826) (fun _ h9 => h9) rfl (by decide +kernel) rfl rfl (Nat.le_of_ble_eq_true rfl) dX4_readsOrder_101 (fun H locs hP hD hS => ?_)
          have hP : va_P D vwCl (mdW cI a (sM_first u55 r54)) H := hP
          have hD : va_D A (mdW cI a (sM_first u55 r54)) := hD
          refine lv_aload_n hx hb dX4_readsOrder_104 rfl (lv_at hl 0 rfl) ?_
          refine va_get (D := D) (ci := 4) (v := .int (M_first (sM_first u55 r54))) (C := RX4) (T := TX4) (N := 12) hx hb hts inT4 hown hK.k hP 0 rfl rfl 7 (by decide) (hts _ q_826) (fun _ h9 => h9) rfl dX4_readsOrder_105 ?_
          refine lv_iconst (v := (-1 : Int32)) hx hb dX4_readsOrder_108 (by decide) ?_
          refine lv_icmp_eq (tgt := 116) hx hb dX4_readsOrder_109 (by decide) (fun c56 => ?_) (fun c56 => ?_)
          · replace h := h.1 c56
            refine lv_iconst (v := (0 : Int32)) hx hb dX4_readsOrder_116 (by decide) ?_
            exact hQ bz0 h hP hD hS dX4_readsOrder_117
          · replace h := h.2 c56
            refine lv_iconst (v := (1 : Int32)) hx hb dX4_readsOrder_112 (by decide) ?_
            refine lv_goto (tgt := 117) hx hb dX4_readsOrder_113 (by decide) ?_
            exact hQ bz1 h hP hD hS dX4_readsOrder_117
      · replace h := h.2 c29
        exact w11 u28 _ _ _ hl hP hD hS h
  · replace h := h.2 c5
    refine lv_aload_n hx hb dX4_readsOrder_17 rfl (lv_at hl 0 rfl) ?_
    refine rwVi0 (As := []) (rest := []) F (c_X4_readsRoad l D cI cS cJ a u4 H.size  h) (cw_X4_187 hts (Nat.le_of_ble_eq_true rfl) (Nat.le_of_ble_eq_true rfl)) hK hP hD hS hA (recv (ci := 4) (k0 := 0) hK hP rfl rfl) rfl hl.1 rfl (Nat.le_of_ble_eq_true rfl) dX4_readsOrder_18 ⟨Nat.zero_le _, Nat.zero_le _⟩ (fun r57 u59 H locs h hP hD hS => ?_)
    obtain ⟨b58, h⟩ := h
    exact hQ b58 h hP hD hS dX4_readsOrder_21

def wp_X4_areOrders (u : Md)  (post : Int32 → Md → Prop) : Prop :=
  LP1 (fun (K2 : Md → Prop) (u1 : Md) => wp_X4_readsOrder u1 (fun r4 u6 => (r4 = 0 → post (0 : Int32) u6) ∧ (¬ r4 = 0 → (¬ (M_at u6) = (M_length u6) → wp_X4_takes u6 (59 : Int32) (fun r9 u11 => (¬ r9 = 0 → K2 u11) ∧ (r9 = 0 → post (0 : Int32) u11))) ∧ ((M_at u6) = (M_length u6) → post (1 : Int32) u6)))) (sM_at u (0 : Int32))
set_option maxHeartbeats 4000000 in
set_option maxRecDepth 100000 in
theorem c_X4_areOrders (l : Launch) (D : va_G) (cI cS cJ : ClassId) (a : Nat → Nat) (u : Md) (sz : Nat)  {post : Int32 → Md → Prop} (h : wp_X4_areOrders u post) : Met l yX4_areOrders (wsA yX4_areOrders cX4_areOrders 1 (some .boolean)) rm_X4_areOrders (va_Pc [.ref (a 0)] (rwP D (tysA cI cS cJ) (mdW cI a u) sz)) (va_Qi (fun r u9 => bz r ∧ post r u9) (fun u9 t => va_P D vwCl ((mdW cI a) u9) t.heap ∧ va_D (va_A (mdW cI a u) sz) ((mdW cI a) u9)) (va_A (mdW cI a u) sz)) 0 0 (va_A (mdW cI a u) sz) := by
  refine mkRWz (wf := (mdW cI a)) (by decide +kernel) (Nat.le_of_ble_eq_true rfl) (fun {p e s m args below meth c Q ls A H0 H locs} hx hb F hts hown hK hP hD hS hA hl hQ => ?_)
  have hown : s.vm.findClass RX4 = some m.cls := hown
  have F : CallFix p m c cX4_areOrders 1 s args wsT RX4 := F
  have hl : lv_has ls 1 [(0, .ref (a 0))] := hl
  unfold wp_X4_areOrders at h
  refine lv_aload_n hx hb dX4_areOrders_0 rfl (lv_at hl 0 rfl) ?_
  refine lv_iconst (v := (0 : Int32)) hx hb dX4_areOrders_1 (by decide) ?_
  refine va_put (D := D) (ci := 4) (v := .int (0 : Int32)) (ty := .int) (C := RX4) (T := TX4) (N := 12) hx hb hts inT4 tyX4 tyX4_ok nmX4 hown hK.k hP hD hS 0 rfl rfl 5 (by decide) (hts _ q_824) (fun _ h9 => h9) rfl (by decide +kernel) rfl rfl (Nat.le_of_ble_eq_true rfl) dX4_areOrders_2 (fun H locs hP hD hS => ?_)
  have hP : va_P D vwCl (mdW cI a (sM_at u (0 : Int32))) H := hP
  have hD : va_D A (mdW cI a (sM_at u (0 : Int32))) := hD
  refine lpu1 h (fun K2 : Md → Prop => ∀ (u1 : Md) (ls : Array Slot) (H : Heap) (locs : List Loc), lv_has ls 1 [(0, .ref (a 0))] → va_P D vwCl (mdW cI a u1) H → va_D A (mdW cI a u1) → va_S A H0 H locs → K2 u1 → W p l e rm_X4_areOrders s m args below meth c H locs 0 0 Q (F0 m 5 ls [])) ?_ ?_ ?_
  · intro u1 ls H locs hl hP hD hS h
    exact h.elim
  · intro K2
    intro w3 u1 ls H locs hl hP hD hS h
    refine lv_aload_n hx hb dX4_areOrders_5 rfl (lv_at hl 0 rfl) ?_
    refine rwVi0 (As := []) (rest := []) F (c_X4_readsOrder l D cI cS cJ a u1 H.size  h) (cw_X4_193 hts (Nat.le_of_ble_eq_true rfl) (Nat.le_of_ble_eq_true rfl)) hK hP hD hS hA (recv (ci := 4) (k0 := 0) hK hP rfl rfl) rfl hl.1 rfl (Nat.le_of_ble_eq_true rfl) dX4_areOrders_6 ⟨Nat.zero_le _, Nat.zero_le _⟩ (fun r4 u6 H locs h hP hD hS => ?_)
    obtain ⟨b5, h⟩ := h
    refine lv_if_eq (tgt := 36) hx hb dX4_areOrders_9 (by decide) (fun c7 => ?_) (fun c7 => ?_)
    · replace h := h.1 c7
      refine lv_iconst (v := (0 : Int32)) hx hb dX4_areOrders_36 (by decide) ?_
      exact hQ bz0 h hP hD hS dX4_areOrders_37
    · replace h := h.2 c7
      refine lv_aload_n hx hb dX4_areOrders_12 rfl (lv_at hl 0 rfl) ?_
      refine va_get (D := D) (ci := 4) (v := .int (M_at u6)) (C := RX4) (T := TX4) (N := 12) hx hb hts inT4 hown hK.k hP 0 rfl rfl 5 (by decide) (hts _ q_824) (fun _ h9 => h9) rfl dX4_areOrders_13 ?_
      refine lv_aload_n hx hb dX4_areOrders_16 rfl (lv_at hl 0 rfl) ?_
      refine va_get (D := D) (ci := 4) (v := .int (M_length u6)) (C := RX4) (T := TX4) (N := 12) hx hb hts inT4 hown hK.k hP 0 rfl rfl 4 (by decide) (hts _ q_823) (fun _ h9 => h9) rfl dX4_areOrders_17 ?_
      refine lv_icmp_ne (tgt := 25) hx hb dX4_areOrders_20 (by decide) (fun c8 => ?_) (fun c8 => ?_)
      · replace h := h.1 c8
        refine lv_aload_n hx hb dX4_areOrders_25 rfl (lv_at hl 0 rfl) ?_
        refine lv_bipush (v := (59 : Int32)) hx hb dX4_areOrders_26 (by decide) ?_
        refine rwVi0 (As := [.int (59 : Int32)]) (rest := []) F (c_X4_takes l D cI cS cJ a u6 H.size (59 : Int32) h) (cw_X4_181 hts (Nat.le_of_ble_eq_true rfl) (Nat.le_of_ble_eq_true rfl)) hK hP hD hS hA (recv (ci := 4) (k0 := 0) hK hP rfl rfl) rfl hl.1 rfl (Nat.le_of_ble_eq_true rfl) dX4_areOrders_28 ⟨Nat.zero_le _, Nat.zero_le _⟩ (fun r9 u11 H locs h hP hD hS => ?_)
        obtain ⟨b10, h⟩ := h
        refine lv_if_ne (tgt := 5) hx hb dX4_areOrders_31 (by decide) (fun c12 => ?_) (fun c12 => ?_)
        · replace h := h.1 c12
          exact w3 u11 _ _ _ hl hP hD hS h
        · replace h := h.2 c12
          refine lv_iconst (v := (0 : Int32)) hx hb dX4_areOrders_34 (by decide) ?_
          exact hQ bz0 h hP hD hS dX4_areOrders_35
      · replace h := h.2 c8
        refine lv_iconst (v := (1 : Int32)) hx hb dX4_areOrders_23 (by decide) ?_
        exact hQ bz1 h hP hD hS dX4_areOrders_24
  · intro K2 w3 h
    exact w3 (sM_at u (0 : Int32)) _ _ _ hl hP hD hS h

def wp_X4_firstError (u : Md)  (post : Int32 → Md → Prop) : Prop :=
  wp_X4_areOrders (sM_thrown u (0 : Int32)) (fun r1 u3 => post (M_at u3) u3)
set_option maxHeartbeats 4000000 in
set_option maxRecDepth 100000 in
theorem c_X4_firstError (l : Launch) (D : va_G) (cI cS cJ : ClassId) (a : Nat → Nat) (u : Md) (sz : Nat)  {post : Int32 → Md → Prop} (h : wp_X4_firstError u post) : Met l yX4_firstError (wsA yX4_firstError cX4_firstError 1 (some .int)) rm_X4_firstError (va_Pc [.ref (a 0)] (rwP D (tysA cI cS cJ) (mdW cI a u) sz)) (va_Qi post (fun u9 t => va_P D vwCl ((mdW cI a) u9) t.heap ∧ va_D (va_A (mdW cI a u) sz) ((mdW cI a) u9)) (va_A (mdW cI a u) sz)) 0 0 (va_A (mdW cI a u) sz) := by
  refine mkRWi (wf := (mdW cI a)) (by decide +kernel) (Nat.le_of_ble_eq_true rfl) (fun {p e s m args below meth c Q ls A H0 H locs} hx hb F hts hown hK hP hD hS hA hl hQ => ?_)
  have hown : s.vm.findClass RX4 = some m.cls := hown
  have F : CallFix p m c cX4_firstError 1 s args wsT RX4 := F
  have hl : lv_has ls 1 [(0, .ref (a 0))] := hl
  unfold wp_X4_firstError at h
  refine lv_aload_n hx hb dX4_firstError_0 rfl (lv_at hl 0 rfl) ?_
  refine lv_iconst (v := (0 : Int32)) hx hb dX4_firstError_1 (by decide) ?_
  refine va_put (D := D) (ci := 4) (v := .int (0 : Int32)) (ty := .int) (C := RX4) (T := TX4) (N := 12) hx hb hts inT4 tyX4 tyX4_ok nmX4 hown hK.k hP hD hS 0 rfl rfl 0 (by decide) (hts _ q_819) (fun _ h9 => h9) rfl (by decide +kernel) rfl rfl (Nat.le_of_ble_eq_true rfl) dX4_firstError_2 (fun H locs hP hD hS => ?_)
  have hP : va_P D vwCl (mdW cI a (sM_thrown u (0 : Int32))) H := hP
  have hD : va_D A (mdW cI a (sM_thrown u (0 : Int32))) := hD
  refine lv_aload_n hx hb dX4_firstError_5 rfl (lv_at hl 0 rfl) ?_
  refine rwVi0 (As := []) (rest := []) F (c_X4_areOrders l D cI cS cJ a (sM_thrown u (0 : Int32)) H.size  h) (cw_X4_196 hts (Nat.le_of_ble_eq_true rfl) (Nat.le_of_ble_eq_true rfl)) hK hP hD hS hA (recv (ci := 4) (k0 := 0) hK hP rfl rfl) rfl hl.1 rfl (Nat.le_of_ble_eq_true rfl) dX4_firstError_6 ⟨Nat.zero_le _, Nat.zero_le _⟩ (fun r1 u3 H locs h hP hD hS => ?_)
  obtain ⟨b2, h⟩ := h
  refine lv_pop hx hb dX4_firstError_9 rfl ?_
  refine lv_aload_n hx hb dX4_firstError_10 rfl (lv_at hl 0 rfl) ?_
  refine va_get (D := D) (ci := 4) (v := .int (M_at u3)) (C := RX4) (T := TX4) (N := 12) hx hb hts inT4 hown hK.k hP 0 rfl rfl 5 (by decide) (hts _ q_824) (fun _ h9 => h9) rfl dX4_firstError_11 ?_
  exact hQ h hP hD hS dX4_firstError_14

def wp_X4_isDone (u : Md)  (post : Int32 → Md → Prop) : Prop :=
  ((M_letter u) = 97 → wp_X4_canAnswer u (M_first u) (fun r2 => (r2 = 0 → post (0 : Int32) u) ∧ (¬ r2 = 0 → wp_X4_answers u (M_first u) (M_second u) (fun r5 u6 => (r5 < 0 → post (0 : Int32) u6) ∧ (¬ r5 < 0 → post (1 : Int32) u6))))) ∧ (¬ (M_letter u) = 97 → ((M_letter u) = 114 → wp_X4_canLay u (M_first u) (M_second u) (M_third u) (fun r9 => (r9 = 0 → post (0 : Int32) u) ∧ (¬ r9 = 0 → wp_X4_lays u (M_first u) (M_second u) (M_third u) (M_fourth u) (fun r12 u13 => (r12 < 0 → post (0 : Int32) u13) ∧ (¬ r12 < 0 → post (1 : Int32) u13))))) ∧ (¬ (M_letter u) = 114 → ((M_letter u) = 115 → wp_X4_isRoad u (M_first u) (fun r16 => (r16 = 0 → post (0 : Int32) u) ∧ (¬ r16 = 0 → wp_X4_isRoom u (fun r19 => (r19 = 0 → post (0 : Int32) u) ∧ (¬ r19 = 0 → wp_X4_sends u (M_first u) (M_second u) (fun r22 u23 => (r22 < 0 → post (0 : Int32) u23) ∧ (¬ r22 < 0 → post (1 : Int32) u23))))))) ∧ (¬ (M_letter u) = 115 → ((M_letter u) = 116 → wp_X4_passes u (M_first u) (fun r26 u27 => (r26 < 0 → post (0 : Int32) u27) ∧ (¬ r26 < 0 → post (1 : Int32) u27))) ∧ (¬ (M_letter u) = 116 → jn (fun (x29 : Int32) => (vp_in ((8 : Int32) + (M_first u)) 854) ∧ (post (1 : Int32) (wM_s u (Int32.toNatClampNeg ((8 : Int32) + (M_first u))) x29))) (fun (J31 : Int32 → Prop) => (¬ (M_letter u) = (111 : Int32) → J31 (0 : Int32)) ∧ ((M_letter u) = (111 : Int32) → J31 (1 : Int32)))))))
set_option maxHeartbeats 4000000 in
set_option maxRecDepth 100000 in
theorem c_X4_isDone (l : Launch) (D : va_G) (cI cS cJ : ClassId) (a : Nat → Nat) (u : Md) (sz : Nat)  {post : Int32 → Md → Prop} (h : wp_X4_isDone u post) : Met l yX4_isDone (wsA yX4_isDone cX4_isDone 1 (some .boolean)) rm_X4_isDone (va_Pc [.ref (a 0)] (rwP D (tysA cI cS cJ) (mdW cI a u) sz)) (va_Qi (fun r u9 => bz r ∧ post r u9) (fun u9 t => va_P D vwCl ((mdW cI a) u9) t.heap ∧ va_D (va_A (mdW cI a u) sz) ((mdW cI a) u9)) (va_A (mdW cI a u) sz)) 0 0 (va_A (mdW cI a u) sz) := by
  refine mkRWz (wf := (mdW cI a)) (by decide +kernel) (Nat.le_of_ble_eq_true rfl) (fun {p e s m args below meth c Q ls A H0 H locs} hx hb F hts hown hK hP hD hS hA hl hQ => ?_)
  have hown : s.vm.findClass RX4 = some m.cls := hown
  have F : CallFix p m c cX4_isDone 1 s args wsT RX4 := F
  have hl : lv_has ls 1 [(0, .ref (a 0))] := hl
  unfold wp_X4_isDone at h
  refine lv_aload_n hx hb dX4_isDone_0 rfl (lv_at hl 0 rfl) ?_
  refine va_get (D := D) (ci := 4) (v := .int (M_letter u)) (C := RX4) (T := TX4) (N := 12) hx hb hts inT4 hown hK.k hP 0 rfl rfl 6 (by decide) (hts _ q_825) (fun _ h9 => h9) rfl dX4_isDone_1 ?_
  by_cases c1 : (M_letter u) = 97
  · replace h := h.1 c1
    refine lv_lookup (tgt := 135) hx hb dX4_isDone_4 (by decide) (lk_hit c1 rfl) (by decide) ?_
    refine lv_aload_n hx hb dX4_isDone_135 rfl (lv_at hl 0 rfl) ?_
    refine lv_aload_n hx hb dX4_isDone_136 rfl (lv_at hl 0 rfl) ?_
    refine va_get (D := D) (ci := 4) (v := .int (M_first u)) (C := RX4) (T := TX4) (N := 12) hx hb hts inT4 hown hK.k hP 0 rfl rfl 7 (by decide) (hts _ q_826) (fun _ h9 => h9) rfl dX4_isDone_137 ?_
    refine roVi (As := [.int (M_first u)]) (rest := []) F (c_X4_canAnswer l D cI cS cJ a u H (M_first u) h) (cw_X4_129 hts (Nat.le_of_ble_eq_true rfl) (Nat.le_of_ble_eq_true rfl)) hK hP (recv (ci := 4) (k0 := 0) hK hP rfl rfl) rfl hl.1 rfl (Nat.le_of_ble_eq_true rfl) dX4_isDone_140 ⟨Nat.zero_le _, Nat.zero_le _⟩ (fun r2 h => ?_)
    obtain ⟨b3, h⟩ := h
    refine lv_if_eq (tgt := 165) hx hb dX4_isDone_143 (by decide) (fun c4 => ?_) (fun c4 => ?_)
    · replace h := h.1 c4
      refine lv_iconst (v := (0 : Int32)) hx hb dX4_isDone_165 (by decide) ?_
      exact hQ bz0 h hP hD hS dX4_isDone_166
    · replace h := h.2 c4
      refine lv_aload_n hx hb dX4_isDone_146 rfl (lv_at hl 0 rfl) ?_
      refine lv_aload_n hx hb dX4_isDone_147 rfl (lv_at hl 0 rfl) ?_
      refine va_get (D := D) (ci := 4) (v := .int (M_first u)) (C := RX4) (T := TX4) (N := 12) hx hb hts inT4 hown hK.k hP 0 rfl rfl 7 (by decide) (hts _ q_826) (fun _ h9 => h9) rfl dX4_isDone_148 ?_
      refine lv_aload_n hx hb dX4_isDone_151 rfl (lv_at hl 0 rfl) ?_
      refine va_get (D := D) (ci := 4) (v := .int (M_second u)) (C := RX4) (T := TX4) (N := 12) hx hb hts inT4 hown hK.k hP 0 rfl rfl 8 (by decide) (hts _ q_827) (fun _ h9 => h9) rfl dX4_isDone_152 ?_
      refine rwVi0 (As := [.int (M_first u), .int (M_second u)]) (rest := []) F (c_X4_answers l D cI cS cJ a u H.size (M_first u) (M_second u) h) (cw_X4_132 hts (Nat.le_of_ble_eq_true rfl) (Nat.le_of_ble_eq_true rfl)) hK hP hD hS hA (recv (ci := 4) (k0 := 0) hK hP rfl rfl) rfl hl.1 rfl (Nat.le_of_ble_eq_true rfl) dX4_isDone_155 ⟨Nat.zero_le _, Nat.zero_le _⟩ (fun r5 u6 H locs h hP hD hS => ?_)
      refine lv_if_lt (tgt := 165) hx hb dX4_isDone_158 (by decide) (fun c7 => ?_) (fun c7 => ?_)
      · replace h := h.1 c7
        refine lv_iconst (v := (0 : Int32)) hx hb dX4_isDone_165 (by decide) ?_
        exact hQ bz0 h hP hD hS dX4_isDone_166
      · replace h := h.2 c7
        refine lv_iconst (v := (1 : Int32)) hx hb dX4_isDone_161 (by decide) ?_
        refine lv_goto (tgt := 166) hx hb dX4_isDone_162 (by decide) ?_
        exact hQ bz1 h hP hD hS dX4_isDone_166
  replace h := h.2 c1
  by_cases c8 : (M_letter u) = 114
  · replace h := h.1 c8
    refine lv_lookup (tgt := 48) hx hb dX4_isDone_4 (by decide) (lk_hit c8 rfl) (by decide) ?_
    refine lv_aload_n hx hb dX4_isDone_48 rfl (lv_at hl 0 rfl) ?_
    refine lv_aload_n hx hb dX4_isDone_49 rfl (lv_at hl 0 rfl) ?_
    refine va_get (D := D) (ci := 4) (v := .int (M_first u)) (C := RX4) (T := TX4) (N := 12) hx hb hts inT4 hown hK.k hP 0 rfl rfl 7 (by decide) (hts _ q_826) (fun _ h9 => h9) rfl dX4_isDone_50 ?_
    refine lv_aload_n hx hb dX4_isDone_53 rfl (lv_at hl 0 rfl) ?_
    refine va_get (D := D) (ci := 4) (v := .int (M_second u)) (C := RX4) (T := TX4) (N := 12) hx hb hts inT4 hown hK.k hP 0 rfl rfl 8 (by decide) (hts _ q_827) (fun _ h9 => h9) rfl dX4_isDone_54 ?_
    refine lv_aload_n hx hb dX4_isDone_57 rfl (lv_at hl 0 rfl) ?_
    refine va_get (D := D) (ci := 4) (v := .int (M_third u)) (C := RX4) (T := TX4) (N := 12) hx hb hts inT4 hown hK.k hP 0 rfl rfl 9 (by decide) (hts _ q_828) (fun _ h9 => h9) rfl dX4_isDone_58 ?_
    refine roVi (As := [.int (M_first u), .int (M_second u), .int (M_third u)]) (rest := []) F (c_X4_canLay l D cI cS cJ a u H (M_first u) (M_second u) (M_third u) h) (cw_X4_98 hts (Nat.le_of_ble_eq_true rfl) (Nat.le_of_ble_eq_true rfl)) hK hP (recv (ci := 4) (k0 := 0) hK hP rfl rfl) rfl hl.1 rfl (Nat.le_of_ble_eq_true rfl) dX4_isDone_61 ⟨Nat.zero_le _, Nat.zero_le _⟩ (fun r9 h => ?_)
    obtain ⟨b10, h⟩ := h
    refine lv_if_eq (tgt := 94) hx hb dX4_isDone_64 (by decide) (fun c11 => ?_) (fun c11 => ?_)
    · replace h := h.1 c11
      refine lv_iconst (v := (0 : Int32)) hx hb dX4_isDone_94 (by decide) ?_
      exact hQ bz0 h hP hD hS dX4_isDone_95
    · replace h := h.2 c11
      refine lv_aload_n hx hb dX4_isDone_67 rfl (lv_at hl 0 rfl) ?_
      refine lv_aload_n hx hb dX4_isDone_68 rfl (lv_at hl 0 rfl) ?_
      refine va_get (D := D) (ci := 4) (v := .int (M_first u)) (C := RX4) (T := TX4) (N := 12) hx hb hts inT4 hown hK.k hP 0 rfl rfl 7 (by decide) (hts _ q_826) (fun _ h9 => h9) rfl dX4_isDone_69 ?_
      refine lv_aload_n hx hb dX4_isDone_72 rfl (lv_at hl 0 rfl) ?_
      refine va_get (D := D) (ci := 4) (v := .int (M_second u)) (C := RX4) (T := TX4) (N := 12) hx hb hts inT4 hown hK.k hP 0 rfl rfl 8 (by decide) (hts _ q_827) (fun _ h9 => h9) rfl dX4_isDone_73 ?_
      refine lv_aload_n hx hb dX4_isDone_76 rfl (lv_at hl 0 rfl) ?_
      refine va_get (D := D) (ci := 4) (v := .int (M_third u)) (C := RX4) (T := TX4) (N := 12) hx hb hts inT4 hown hK.k hP 0 rfl rfl 9 (by decide) (hts _ q_828) (fun _ h9 => h9) rfl dX4_isDone_77 ?_
      refine lv_aload_n hx hb dX4_isDone_80 rfl (lv_at hl 0 rfl) ?_
      refine va_get (D := D) (ci := 4) (v := .int (M_fourth u)) (C := RX4) (T := TX4) (N := 12) hx hb hts inT4 hown hK.k hP 0 rfl rfl 10 (by decide) (hts _ q_829) (fun _ h9 => h9) rfl dX4_isDone_81 ?_
      refine rwVi0 (As := [.int (M_first u), .int (M_second u), .int (M_third u), .int (M_fourth u)]) (rest := []) F (c_X4_lays l D cI cS cJ a u H.size (M_first u) (M_second u) (M_third u) (M_fourth u) h) (cw_X4_101 hts (Nat.le_of_ble_eq_true rfl) (Nat.le_of_ble_eq_true rfl)) hK hP hD hS hA (recv (ci := 4) (k0 := 0) hK hP rfl rfl) rfl hl.1 rfl (Nat.le_of_ble_eq_true rfl) dX4_isDone_84 ⟨Nat.zero_le _, Nat.zero_le _⟩ (fun r12 u13 H locs h hP hD hS => ?_)
      refine lv_if_lt (tgt := 94) hx hb dX4_isDone_87 (by decide) (fun c14 => ?_) (fun c14 => ?_)
      · replace h := h.1 c14
        refine lv_iconst (v := (0 : Int32)) hx hb dX4_isDone_94 (by decide) ?_
        exact hQ bz0 h hP hD hS dX4_isDone_95
      · replace h := h.2 c14
        refine lv_iconst (v := (1 : Int32)) hx hb dX4_isDone_90 (by decide) ?_
        refine lv_goto (tgt := 95) hx hb dX4_isDone_91 (by decide) ?_
        exact hQ bz1 h hP hD hS dX4_isDone_95
  replace h := h.2 c8
  by_cases c15 : (M_letter u) = 115
  · replace h := h.1 c15
    refine lv_lookup (tgt := 96) hx hb dX4_isDone_4 (by decide) (lk_hit c15 rfl) (by decide) ?_
    refine lv_aload_n hx hb dX4_isDone_96 rfl (lv_at hl 0 rfl) ?_
    refine lv_aload_n hx hb dX4_isDone_97 rfl (lv_at hl 0 rfl) ?_
    refine va_get (D := D) (ci := 4) (v := .int (M_first u)) (C := RX4) (T := TX4) (N := 12) hx hb hts inT4 hown hK.k hP 0 rfl rfl 7 (by decide) (hts _ q_826) (fun _ h9 => h9) rfl dX4_isDone_98 ?_
    refine roVi (As := [.int (M_first u)]) (rest := []) F (c_X4_isRoad l D cI cS cJ a u H (M_first u) h) (cw_X4_110 hts (Nat.le_of_ble_eq_true rfl) (Nat.le_of_ble_eq_true rfl)) hK hP (recv (ci := 4) (k0 := 0) hK hP rfl rfl) rfl hl.1 rfl (Nat.le_of_ble_eq_true rfl) dX4_isDone_101 ⟨Nat.zero_le _, Nat.zero_le _⟩ (fun r16 h => ?_)
    obtain ⟨b17, h⟩ := h
    refine lv_if_eq (tgt := 133) hx hb dX4_isDone_104 (by decide) (fun c18 => ?_) (fun c18 => ?_)
    · replace h := h.1 c18
      refine lv_iconst (v := (0 : Int32)) hx hb dX4_isDone_133 (by decide) ?_
      exact hQ bz0 h hP hD hS dX4_isDone_134
    · replace h := h.2 c18
      refine lv_aload_n hx hb dX4_isDone_107 rfl (lv_at hl 0 rfl) ?_
      refine roVi (As := []) (rest := []) F (c_X4_isRoom l D cI cS cJ a u H  h) (cw_X4_69 hts (Nat.le_of_ble_eq_true rfl) (Nat.le_of_ble_eq_true rfl)) hK hP (recv (ci := 4) (k0 := 0) hK hP rfl rfl) rfl hl.1 rfl (Nat.le_of_ble_eq_true rfl) dX4_isDone_108 ⟨Nat.zero_le _, Nat.zero_le _⟩ (fun r19 h => ?_)
      obtain ⟨b20, h⟩ := h
      refine lv_if_eq (tgt := 133) hx hb dX4_isDone_111 (by decide) (fun c21 => ?_) (fun c21 => ?_)
      · replace h := h.1 c21
        refine lv_iconst (v := (0 : Int32)) hx hb dX4_isDone_133 (by decide) ?_
        exact hQ bz0 h hP hD hS dX4_isDone_134
      · replace h := h.2 c21
        refine lv_aload_n hx hb dX4_isDone_114 rfl (lv_at hl 0 rfl) ?_
        refine lv_aload_n hx hb dX4_isDone_115 rfl (lv_at hl 0 rfl) ?_
        refine va_get (D := D) (ci := 4) (v := .int (M_first u)) (C := RX4) (T := TX4) (N := 12) hx hb hts inT4 hown hK.k hP 0 rfl rfl 7 (by decide) (hts _ q_826) (fun _ h9 => h9) rfl dX4_isDone_116 ?_
        refine lv_aload_n hx hb dX4_isDone_119 rfl (lv_at hl 0 rfl) ?_
        refine va_get (D := D) (ci := 4) (v := .int (M_second u)) (C := RX4) (T := TX4) (N := 12) hx hb hts inT4 hown hK.k hP 0 rfl rfl 8 (by decide) (hts _ q_827) (fun _ h9 => h9) rfl dX4_isDone_120 ?_
        refine rwVi0 (As := [.int (M_first u), .int (M_second u)]) (rest := []) F (c_X4_sends l D cI cS cJ a u H.size (M_first u) (M_second u) h) (cw_X4_126 hts (Nat.le_of_ble_eq_true rfl) (Nat.le_of_ble_eq_true rfl)) hK hP hD hS hA (recv (ci := 4) (k0 := 0) hK hP rfl rfl) rfl hl.1 rfl (Nat.le_of_ble_eq_true rfl) dX4_isDone_123 ⟨Nat.zero_le _, Nat.zero_le _⟩ (fun r22 u23 H locs h hP hD hS => ?_)
        refine lv_if_lt (tgt := 133) hx hb dX4_isDone_126 (by decide) (fun c24 => ?_) (fun c24 => ?_)
        · replace h := h.1 c24
          refine lv_iconst (v := (0 : Int32)) hx hb dX4_isDone_133 (by decide) ?_
          exact hQ bz0 h hP hD hS dX4_isDone_134
        · replace h := h.2 c24
          refine lv_iconst (v := (1 : Int32)) hx hb dX4_isDone_129 (by decide) ?_
          refine lv_goto (tgt := 134) hx hb dX4_isDone_130 (by decide) ?_
          exact hQ bz1 h hP hD hS dX4_isDone_134
  replace h := h.2 c15
  by_cases c25 : (M_letter u) = 116
  · replace h := h.1 c25
    refine lv_lookup (tgt := 167) hx hb dX4_isDone_4 (by decide) (lk_hit c25 rfl) (by decide) ?_
    refine lv_aload_n hx hb dX4_isDone_167 rfl (lv_at hl 0 rfl) ?_
    refine lv_aload_n hx hb dX4_isDone_168 rfl (lv_at hl 0 rfl) ?_
    refine va_get (D := D) (ci := 4) (v := .int (M_first u)) (C := RX4) (T := TX4) (N := 12) hx hb hts inT4 hown hK.k hP 0 rfl rfl 7 (by decide) (hts _ q_826) (fun _ h9 => h9) rfl dX4_isDone_169 ?_
    refine rwVi0 (As := [.int (M_first u)]) (rest := []) F (c_X4_passes l D cI cS cJ a u H.size (M_first u) h) (cw_X4_135 hts (Nat.le_of_ble_eq_true rfl) (Nat.le_of_ble_eq_true rfl)) hK hP hD hS hA (recv (ci := 4) (k0 := 0) hK hP rfl rfl) rfl hl.1 rfl (Nat.le_of_ble_eq_true rfl) dX4_isDone_172 ⟨Nat.zero_le _, Nat.zero_le _⟩ (fun r26 u27 H locs h hP hD hS => ?_)
    refine lv_if_lt (tgt := 182) hx hb dX4_isDone_175 (by decide) (fun c28 => ?_) (fun c28 => ?_)
    · replace h := h.1 c28
      refine lv_iconst (v := (0 : Int32)) hx hb dX4_isDone_182 (by decide) ?_
      exact hQ bz0 h hP hD hS dX4_isDone_183
    · replace h := h.2 c28
      refine lv_iconst (v := (1 : Int32)) hx hb dX4_isDone_178 (by decide) ?_
      refine lv_goto (tgt := 183) hx hb dX4_isDone_179 (by decide) ?_
      exact hQ bz1 h hP hD hS dX4_isDone_183
  replace h := h.2 c25
  refine lv_lookup (tgt := 184) hx hb dX4_isDone_4 (by decide) (lk_c (lk_d c1 rfl) (lk_c (lk_d c8 rfl) (lk_c (lk_d c15 rfl) (lk_c (lk_d c25 rfl) (lk_n))))) (by decide) ?_
  refine lv_aload_n hx hb dX4_isDone_184 rfl (lv_at hl 0 rfl) ?_
  refine va_get (D := D) (ci := 4) (v := .ref (a 1)) (C := RX4) (T := TX4) (N := 12) hx hb hts inT4 hown hK.k hP 0 rfl rfl 1 (by decide) (hts _ q_820) (fun _ h9 => h9) rfl dX4_isDone_185 ?_
  refine lv_bipush (v := (8 : Int32)) hx hb dX4_isDone_188 (by decide) ?_
  refine lv_aload_n hx hb dX4_isDone_190 rfl (lv_at hl 0 rfl) ?_
  refine va_get (D := D) (ci := 4) (v := .int (M_first u)) (C := RX4) (T := TX4) (N := 12) hx hb hts inT4 hown hK.k hP 0 rfl rfl 7 (by decide) (hts _ q_826) (fun _ h9 => h9) rfl dX4_isDone_191 ?_
  refine lv_iadd hx hb dX4_isDone_194 ?_
  refine lv_aload_n hx hb dX4_isDone_195 rfl (lv_at hl 0 rfl) ?_
  refine va_get (D := D) (ci := 4) (v := .int (M_letter u)) (C := RX4) (T := TX4) (N := 12) hx hb hts inT4 hown hK.k hP 0 rfl rfl 6 (by decide) (hts _ q_825) (fun _ h9 => h9) rfl dX4_isDone_196 ?_
  refine lv_bipush (v := (111 : Int32)) hx hb dX4_isDone_199 (by decide) ?_
  refine jn_e h (fun J31 e33 h => ?_)
  have w32 : ∀ (x29 : Int32) (ls : Array Slot) (H : Heap) (locs : List Loc), bz x29 → lv_has ls 1 [] → va_P D vwCl (mdW cI a u) H → va_D A (mdW cI a u) → va_S A H0 H locs → J31 x29 → W p l e rm_X4_isDone s m args below meth c H locs 0 0 Q (F0 m 209 ls [.int x29, .int ((8 : Int32) + (M_first u)), .ref (a 1)]) := by
    intro x29 ls H locs b30 hl hP hD hS h
    subst e33
    refine va_iast hx hb hK.k hP hD hS 1 0 rfl rfl h.1 dX4_isDone_209 (fun H locs hP hD hS => ?_)
    replace h := h.2
    have hP : va_P D vwCl (mdW cI a (wM_s u (Int32.toNatClampNeg ((8 : Int32) + (M_first u))) x29)) H := hP
    have hD : va_D A (mdW cI a (wM_s u (Int32.toNatClampNeg ((8 : Int32) + (M_first u))) x29)) := hD
    refine lv_iconst (v := (1 : Int32)) hx hb dX4_isDone_210 (by decide) ?_
    exact hQ bz1 h hP hD hS dX4_isDone_211
  clear e33
  refine lv_icmp_ne (tgt := 208) hx hb dX4_isDone_201 (by decide) (fun c34 => ?_) (fun c34 => ?_)
  · replace h := h.1 c34
    refine lv_iconst (v := (0 : Int32)) hx hb dX4_isDone_208 (by decide) ?_
    exact w32 (0 : Int32) _ _ _ bz0 (lv_sub hl [] rfl) hP hD hS h
  · replace h := h.2 c34
    refine lv_iconst (v := (1 : Int32)) hx hb dX4_isDone_204 (by decide) ?_
    refine lv_goto (tgt := 209) hx hb dX4_isDone_205 (by decide) ?_
    exact w32 (1 : Int32) _ _ _ bz1 (lv_sub hl [] rfl) hP hD hS h

def wp_X4_run (u : Md)  (post : Int32 → Md → Prop) : Prop :=
  wp_X4_areOrders u (fun r1 u3 => jn (fun (x4 : Int32) => wp_X4_holds u3 x4 (fun r9 u11 => (¬ r9 = 0 → wp_X4_save u11 (fun u14 => LP2 (fun (K17 : Int32 → Md → Prop) (x15 : Int32) (u16 : Md) => wp_X4_readsOrder u16 (fun r19 u21 => jn (fun (u22 : Md) => post x15 (sM_length u22 (0 : Int32))) (fun (J23 : Md → Prop) => (r19 = 0 → J23 u21) ∧ (¬ r19 = 0 → wp_X4_isDone u21 (fun r27 u29 => (r27 = 0 → J23 u29) ∧ (¬ r27 = 0 → wp_X4_takes u29 (59 : Int32) (fun r31 u33 => K17 (x15 + 1) u33))))))) (0 : Int32) (sM_at u14 (0 : Int32)))) ∧ (r9 = 0 → post (0 : Int32) u11))) (fun (J6 : Int32 → Prop) => (r1 = 0 → J6 (1 : Int32)) ∧ (¬ r1 = 0 → J6 (0 : Int32))))
set_option maxHeartbeats 4000000 in
set_option maxRecDepth 100000 in
theorem c_X4_run (l : Launch) (D : va_G) (cI cS cJ : ClassId) (a : Nat → Nat) (u : Md) (sz : Nat)  {post : Int32 → Md → Prop} (h : wp_X4_run u post) : Met l yX4_run (wsA yX4_run cX4_run 2 (some .int)) rm_X4_run (va_Pc [.ref (a 0)] (rwP D (tysA cI cS cJ) (mdW cI a u) sz)) (va_Qi post (fun u9 t => va_P D vwCl ((mdW cI a) u9) t.heap ∧ va_D (va_A (mdW cI a u) sz) ((mdW cI a) u9)) (va_A (mdW cI a u) sz)) 0 0 (va_A (mdW cI a u) sz) := by
  refine mkRWi (wf := (mdW cI a)) (by decide +kernel) (Nat.le_of_ble_eq_true rfl) (fun {p e s m args below meth c Q ls A H0 H locs} hx hb F hts hown hK hP hD hS hA hl hQ => ?_)
  have hown : s.vm.findClass RX4 = some m.cls := hown
  have F : CallFix p m c cX4_run 2 s args wsT RX4 := F
  have hl : lv_has ls 2 [(0, .ref (a 0))] := hl
  unfold wp_X4_run at h
  refine lv_aload_n hx hb dX4_run_0 rfl (lv_at hl 0 rfl) ?_
  refine lv_aload_n hx hb dX4_run_1 rfl (lv_at hl 0 rfl) ?_
  refine rwVi0 (As := []) (rest := [.ref (a 0)]) F (c_X4_areOrders l D cI cS cJ a u H.size  h) (cw_X4_196 hts (Nat.le_of_ble_eq_true rfl) (Nat.le_of_ble_eq_true rfl)) hK hP hD hS hA (recv (ci := 4) (k0 := 0) hK hP rfl rfl) rfl hl.1 rfl (Nat.le_of_ble_eq_true rfl) dX4_run_2 ⟨Nat.zero_le _, Nat.zero_le _⟩ (fun r1 u3 H locs h hP hD hS => ?_)
  obtain ⟨b2, h⟩ := h
  refine jn_e h (fun J6 e8 h => ?_)
  have w7 : ∀ (x4 : Int32) (ls : Array Slot) (H : Heap) (locs : List Loc), bz x4 → lv_has ls 2 [(0, .ref (a 0))] → va_P D vwCl (mdW cI a u3) H → va_D A (mdW cI a u3) → va_S A H0 H locs → J6 x4 → W p l e rm_X4_run s m args below meth c H locs 0 0 Q (F0 m 13 ls [.int x4, .ref (a 0)]) := by
    intro x4 ls H locs b5 hl hP hD hS h
    subst e8
    refine rwVi0 (As := [.int x4]) (rest := []) F (c_X4_holds l D cI cS cJ a u3 H.size x4 h) (cw_X4_86 hts (Nat.le_of_ble_eq_true rfl) (Nat.le_of_ble_eq_true rfl)) hK hP hD hS hA (recv (ci := 4) (k0 := 0) hK hP rfl rfl) rfl hl.1 rfl (Nat.le_of_ble_eq_true rfl) dX4_run_13 ⟨Nat.zero_le _, Nat.zero_le _⟩ (fun r9 u11 H locs h hP hD hS => ?_)
    obtain ⟨b10, h⟩ := h
    refine lv_if_ne (tgt := 21) hx hb dX4_run_16 (by decide) (fun c12 => ?_) (fun c12 => ?_)
    · replace h := h.1 c12
      refine lv_aload_n hx hb dX4_run_21 rfl (lv_at hl 0 rfl) ?_
      refine rwVv0 (As := []) (rest := []) F (c_X4_save l D cI cS cJ a u11 H.size  h) (cw_X4_80 hts (Nat.le_of_ble_eq_true rfl) (Nat.le_of_ble_eq_true rfl)) hK hP hD hS hA (recv (ci := 4) (k0 := 0) hK hP rfl rfl) rfl hl.1 rfl (Nat.le_of_ble_eq_true rfl) dX4_run_22 ⟨Nat.zero_le _, Nat.zero_le _⟩ (fun u14 H locs h hP hD hS => ?_)
      refine lv_aload_n hx hb dX4_run_25 rfl (lv_at hl 0 rfl) ?_
      refine lv_iconst (v := (0 : Int32)) hx hb dX4_run_26 (by decide) ?_
      refine va_put (D := D) (ci := 4) (v := .int (0 : Int32)) (ty := .int) (C := RX4) (T := TX4) (N := 12) hx hb hts inT4 tyX4 tyX4_ok nmX4 hown hK.k hP hD hS 0 rfl rfl 5 (by decide) (hts _ q_824) (fun _ h9 => h9) rfl (by decide +kernel) rfl rfl (Nat.le_of_ble_eq_true rfl) dX4_run_27 (fun H locs hP hD hS => ?_)
      have hP : va_P D vwCl (mdW cI a (sM_at u14 (0 : Int32))) H := hP
      have hD : va_D A (mdW cI a (sM_at u14 (0 : Int32))) := hD
      refine lv_iconst (v := (0 : Int32)) hx hb dX4_run_30 (by decide) ?_
      refine lv_istore_n (lv' := [(1, .int (0 : Int32)), (0, .ref (a 0))]) hx hb dX4_run_31 rfl hl (by decide) rfl (fun ls hl => ?_)
      refine lpu2 h (fun K17 : Int32 → Md → Prop => ∀ (x15 : Int32) (u16 : Md) (ls : Array Slot) (H : Heap) (locs : List Loc), lv_has ls 2 [(0, .ref (a 0)), (1, .int x15)] → va_P D vwCl (mdW cI a u16) H → va_D A (mdW cI a u16) → va_S A H0 H locs → K17 x15 u16 → W p l e rm_X4_run s m args below meth c H locs 0 0 Q (F0 m 32 ls [])) ?_ ?_ ?_
      · intro x15 u16 ls H locs hl hP hD hS h
        exact h.elim
      · intro K17
        intro w18 x15 u16 ls H locs hl hP hD hS h
        refine lv_aload_n hx hb dX4_run_32 rfl (lv_at hl 0 rfl) ?_
        refine rwVi0 (As := []) (rest := []) F (c_X4_readsOrder l D cI cS cJ a u16 H.size  h) (cw_X4_193 hts (Nat.le_of_ble_eq_true rfl) (Nat.le_of_ble_eq_true rfl)) hK hP hD hS hA (recv (ci := 4) (k0 := 0) hK hP rfl rfl) rfl hl.1 rfl (Nat.le_of_ble_eq_true rfl) dX4_run_33 ⟨Nat.zero_le _, Nat.zero_le _⟩ (fun r19 u21 H locs h hP hD hS => ?_)
        obtain ⟨b20, h⟩ := h
        refine jn_e h (fun J23 e25 h => ?_)
        have w24 : ∀ (u22 : Md) (ls : Array Slot) (H : Heap) (locs : List Loc), lv_has ls 2 [(0, .ref (a 0)), (1, .int x15)] → va_P D vwCl (mdW cI a u22) H → va_D A (mdW cI a u22) → va_S A H0 H locs → J23 u22 → W p l e rm_X4_run s m args below meth c H locs 0 0 Q (F0 m 59 ls []) := by
          intro u22 ls H locs hl hP hD hS h
          subst e25
          refine lv_aload_n hx hb dX4_run_59 rfl (lv_at hl 0 rfl) ?_
          refine lv_iconst (v := (0 : Int32)) hx hb dX4_run_60 (by decide) ?_
          refine va_put (D := D) (ci := 4) (v := .int (0 : Int32)) (ty := .int) (C := RX4) (T := TX4) (N := 12) hx hb hts inT4 tyX4 tyX4_ok nmX4 hown hK.k hP hD hS 0 rfl rfl 4 (by decide) (hts _ q_823) (fun _ h9 => h9) rfl (by decide +kernel) rfl rfl (Nat.le_of_ble_eq_true rfl) dX4_run_61 (fun H locs hP hD hS => ?_)
          have hP : va_P D vwCl (mdW cI a (sM_length u22 (0 : Int32))) H := hP
          have hD : va_D A (mdW cI a (sM_length u22 (0 : Int32))) := hD
          refine lv_iload_n hx hb dX4_run_64 rfl (lv_at hl 1 rfl) ?_
          exact hQ h hP hD hS dX4_run_65
        clear e25
        refine lv_if_eq (tgt := 59) hx hb dX4_run_36 (by decide) (fun c26 => ?_) (fun c26 => ?_)
        · replace h := h.1 c26
          exact w24 u21 _ _ _ hl hP hD hS h
        · replace h := h.2 c26
          refine lv_aload_n hx hb dX4_run_39 rfl (lv_at hl 0 rfl) ?_
          refine rwVi0 (As := []) (rest := []) F (c_X4_isDone l D cI cS cJ a u21 H.size  h) (cw_X4_199 hts (Nat.le_of_ble_eq_true rfl) (Nat.le_of_ble_eq_true rfl)) hK hP hD hS hA (recv (ci := 4) (k0 := 0) hK hP rfl rfl) rfl hl.1 rfl (Nat.le_of_ble_eq_true rfl) dX4_run_40 ⟨Nat.zero_le _, Nat.zero_le _⟩ (fun r27 u29 H locs h hP hD hS => ?_)
          obtain ⟨b28, h⟩ := h
          refine lv_if_eq (tgt := 59) hx hb dX4_run_43 (by decide) (fun c30 => ?_) (fun c30 => ?_)
          · replace h := h.1 c30
            exact w24 u29 _ _ _ hl hP hD hS h
          · replace h := h.2 c30
            refine lv_iinc (v := (x15 + 1)) (lv' := [(1, .int (x15 + 1)), (0, .ref (a 0))]) hx hb dX4_run_46 hl (k := 1) rfl rfl (by decide) rfl (fun ls hl => ?_)
            refine lv_aload_n hx hb dX4_run_49 rfl (lv_at hl 1 rfl) ?_
            refine lv_bipush (v := (59 : Int32)) hx hb dX4_run_50 (by decide) ?_
            refine rwVi0 (As := [.int (59 : Int32)]) (rest := []) F (c_X4_takes l D cI cS cJ a u29 H.size (59 : Int32) h) (cw_X4_181 hts (Nat.le_of_ble_eq_true rfl) (Nat.le_of_ble_eq_true rfl)) hK hP hD hS hA (recv (ci := 4) (k0 := 0) hK hP rfl rfl) rfl hl.1 rfl (Nat.le_of_ble_eq_true rfl) dX4_run_52 ⟨Nat.zero_le _, Nat.zero_le _⟩ (fun r31 u33 H locs h hP hD hS => ?_)
            obtain ⟨b32, h⟩ := h
            refine lv_pop hx hb dX4_run_55 rfl ?_
            refine lv_goto (tgt := 32) hx hb dX4_run_56 (by decide) ?_
            exact w18 (x15 + 1) u33 _ _ _ (lv_sub hl [1, 0] rfl) hP hD hS h
      · intro K17 w18 h
        exact w18 (0 : Int32) (sM_at u14 (0 : Int32)) _ _ _ (lv_sub hl [1, 0] rfl) hP hD hS h
    · replace h := h.2 c12
      refine lv_iconst (v := (0 : Int32)) hx hb dX4_run_19 (by decide) ?_
      exact hQ h hP hD hS dX4_run_20
  clear e8
  refine lv_if_eq (tgt := 12) hx hb dX4_run_5 (by decide) (fun c34 => ?_) (fun c34 => ?_)
  · replace h := h.1 c34
    refine lv_iconst (v := (1 : Int32)) hx hb dX4_run_12 (by decide) ?_
    exact w7 (1 : Int32) _ _ _ bz1 hl hP hD hS h
  · replace h := h.2 c34
    refine lv_iconst (v := (0 : Int32)) hx hb dX4_run_8 (by decide) ?_
    refine lv_goto (tgt := 13) hx hb dX4_run_9 (by decide) ?_
    exact w7 (0 : Int32) _ _ _ bz0 hl hP hD hS h

def wp_X4_undo (u : Md)  (post : Int32 → Md → Prop) : Prop :=
  jn (fun (x1 : Int32) => wp_X4_holds u x1 (fun r6 u8 => (¬ r6 = 0 → wp_X4_copies u8 (M_saved u8) (0 : Int32) (fun u11 => post (M_saved (sM_saved u11 ((M_saved u11) - (1 : Int32)))) (sM_saved u11 ((M_saved u11) - (1 : Int32))))) ∧ (r6 = 0 → post (0 : Int32) u8))) (fun (J3 : Int32 → Prop) => ((M_saved u) ≤ 0 → J3 (1 : Int32)) ∧ (¬ (M_saved u) ≤ 0 → J3 (0 : Int32)))
set_option maxHeartbeats 4000000 in
set_option maxRecDepth 100000 in
theorem c_X4_undo (l : Launch) (D : va_G) (cI cS cJ : ClassId) (a : Nat → Nat) (u : Md) (sz : Nat)  {post : Int32 → Md → Prop} (h : wp_X4_undo u post) : Met l yX4_undo (wsA yX4_undo cX4_undo 1 (some .int)) rm_X4_undo (va_Pc [.ref (a 0)] (rwP D (tysA cI cS cJ) (mdW cI a u) sz)) (va_Qi post (fun u9 t => va_P D vwCl ((mdW cI a) u9) t.heap ∧ va_D (va_A (mdW cI a u) sz) ((mdW cI a) u9)) (va_A (mdW cI a u) sz)) 0 0 (va_A (mdW cI a u) sz) := by
  refine mkRWi (wf := (mdW cI a)) (by decide +kernel) (Nat.le_of_ble_eq_true rfl) (fun {p e s m args below meth c Q ls A H0 H locs} hx hb F hts hown hK hP hD hS hA hl hQ => ?_)
  have hown : s.vm.findClass RX4 = some m.cls := hown
  have F : CallFix p m c cX4_undo 1 s args wsT RX4 := F
  have hl : lv_has ls 1 [(0, .ref (a 0))] := hl
  unfold wp_X4_undo at h
  refine lv_aload_n hx hb dX4_undo_0 rfl (lv_at hl 0 rfl) ?_
  refine lv_aload_n hx hb dX4_undo_1 rfl (lv_at hl 0 rfl) ?_
  refine va_get (D := D) (ci := 4) (v := .int (M_saved u)) (C := RX4) (T := TX4) (N := 12) hx hb hts inT4 hown hK.k hP 0 rfl rfl 2 (by decide) (hts _ q_821) (fun _ h9 => h9) rfl dX4_undo_2 ?_
  refine jn_e h (fun J3 e5 h => ?_)
  have w4 : ∀ (x1 : Int32) (ls : Array Slot) (H : Heap) (locs : List Loc), bz x1 → lv_has ls 1 [(0, .ref (a 0))] → va_P D vwCl (mdW cI a u) H → va_D A (mdW cI a u) → va_S A H0 H locs → J3 x1 → W p l e rm_X4_undo s m args below meth c H locs 0 0 Q (F0 m 13 ls [.int x1, .ref (a 0)]) := by
    intro x1 ls H locs b2 hl hP hD hS h
    subst e5
    refine rwVi0 (As := [.int x1]) (rest := []) F (c_X4_holds l D cI cS cJ a u H.size x1 h) (cw_X4_86 hts (Nat.le_of_ble_eq_true rfl) (Nat.le_of_ble_eq_true rfl)) hK hP hD hS hA (recv (ci := 4) (k0 := 0) hK hP rfl rfl) rfl hl.1 rfl (Nat.le_of_ble_eq_true rfl) dX4_undo_13 ⟨Nat.zero_le _, Nat.zero_le _⟩ (fun r6 u8 H locs h hP hD hS => ?_)
    obtain ⟨b7, h⟩ := h
    refine lv_if_ne (tgt := 21) hx hb dX4_undo_16 (by decide) (fun c9 => ?_) (fun c9 => ?_)
    · replace h := h.1 c9
      refine lv_aload_n hx hb dX4_undo_21 rfl (lv_at hl 0 rfl) ?_
      refine lv_aload_n hx hb dX4_undo_22 rfl (lv_at hl 0 rfl) ?_
      refine va_get (D := D) (ci := 4) (v := .int (M_saved u8)) (C := RX4) (T := TX4) (N := 12) hx hb hts inT4 hown hK.k hP 0 rfl rfl 2 (by decide) (hts _ q_821) (fun _ h9 => h9) rfl dX4_undo_23 ?_
      refine lv_iconst (v := (0 : Int32)) hx hb dX4_undo_26 (by decide) ?_
      refine rwVv0 (As := [.int (M_saved u8), .int (0 : Int32)]) (rest := []) F (c_X4_copies l D cI cS cJ a u8 H.size (M_saved u8) (0 : Int32) h) (cw_X4_76 hts (Nat.le_of_ble_eq_true rfl) (Nat.le_of_ble_eq_true rfl)) hK hP hD hS hA (recv (ci := 4) (k0 := 0) hK hP rfl rfl) rfl hl.1 rfl (Nat.le_of_ble_eq_true rfl) dX4_undo_27 ⟨Nat.zero_le _, Nat.zero_le _⟩ (fun u11 H locs h hP hD hS => ?_)
      refine lv_aload_n hx hb dX4_undo_30 rfl (lv_at hl 0 rfl) ?_
      refine lv_dup hx hb dX4_undo_31 rfl ?_
      refine va_get (D := D) (ci := 4) (v := .int (M_saved u11)) (C := RX4) (T := TX4) (N := 12) hx hb hts inT4 hown hK.k hP 0 rfl rfl 2 (by decide) (hts _ q_821) (fun _ h9 => h9) rfl dX4_undo_32 ?_
      refine lv_iconst (v := (1 : Int32)) hx hb dX4_undo_35 (by decide) ?_
      refine lv_isub hx hb dX4_undo_36 ?_
      refine va_put (D := D) (ci := 4) (v := .int ((M_saved u11) - (1 : Int32))) (ty := .int) (C := RX4) (T := TX4) (N := 12) hx hb hts inT4 tyX4 tyX4_ok nmX4 hown hK.k hP hD hS 0 rfl rfl 2 (by decide) (hts _ q_821) (fun _ h9 => h9) rfl (by decide +kernel) rfl rfl (Nat.le_of_ble_eq_true rfl) dX4_undo_37 (fun H locs hP hD hS => ?_)
      have hP : va_P D vwCl (mdW cI a (sM_saved u11 ((M_saved u11) - (1 : Int32)))) H := hP
      have hD : va_D A (mdW cI a (sM_saved u11 ((M_saved u11) - (1 : Int32)))) := hD
      refine lv_aload_n hx hb dX4_undo_40 rfl (lv_at hl 0 rfl) ?_
      refine va_get (D := D) (ci := 4) (v := .int (M_saved (sM_saved u11 ((M_saved u11) - (1 : Int32))))) (C := RX4) (T := TX4) (N := 12) hx hb hts inT4 hown hK.k hP 0 rfl rfl 2 (by decide) (hts _ q_821) (fun _ h9 => h9) rfl dX4_undo_41 ?_
      exact hQ h hP hD hS dX4_undo_44
    · replace h := h.2 c9
      refine lv_iconst (v := (0 : Int32)) hx hb dX4_undo_19 (by decide) ?_
      exact hQ h hP hD hS dX4_undo_20
  clear e5
  refine lv_if_le (tgt := 12) hx hb dX4_undo_5 (by decide) (fun c12 => ?_) (fun c12 => ?_)
  · replace h := h.1 c12
    refine lv_iconst (v := (1 : Int32)) hx hb dX4_undo_12 (by decide) ?_
    exact w4 (1 : Int32) _ _ _ bz1 hl hP hD hS h
  · replace h := h.2 c12
    refine lv_iconst (v := (0 : Int32)) hx hb dX4_undo_8 (by decide) ?_
    refine lv_goto (tgt := 13) hx hb dX4_undo_9 (by decide) ?_
    exact w4 (0 : Int32) _ _ _ bz0 hl hP hD hS h

def wp_X4_savedStates (u : Md)  (post : Int32 → Md → Prop) : Prop :=
  wp_X4_told u (M_saved u) (fun r1 u2 => post r1 u2)
set_option maxHeartbeats 4000000 in
set_option maxRecDepth 100000 in
theorem c_X4_savedStates (l : Launch) (D : va_G) (cI cS cJ : ClassId) (a : Nat → Nat) (u : Md) (sz : Nat)  {post : Int32 → Md → Prop} (h : wp_X4_savedStates u post) : Met l yX4_savedStates (wsA yX4_savedStates cX4_savedStates 1 (some .int)) rm_X4_savedStates (va_Pc [.ref (a 0)] (rwP D (tysA cI cS cJ) (mdW cI a u) sz)) (va_Qi post (fun u9 t => va_P D vwCl ((mdW cI a) u9) t.heap ∧ va_D (va_A (mdW cI a u) sz) ((mdW cI a) u9)) (va_A (mdW cI a u) sz)) 0 0 (va_A (mdW cI a u) sz) := by
  refine mkRWi (wf := (mdW cI a)) (by decide +kernel) (Nat.le_of_ble_eq_true rfl) (fun {p e s m args below meth c Q ls A H0 H locs} hx hb F hts hown hK hP hD hS hA hl hQ => ?_)
  have hown : s.vm.findClass RX4 = some m.cls := hown
  have F : CallFix p m c cX4_savedStates 1 s args wsT RX4 := F
  have hl : lv_has ls 1 [(0, .ref (a 0))] := hl
  unfold wp_X4_savedStates at h
  refine lv_aload_n hx hb dX4_savedStates_0 rfl (lv_at hl 0 rfl) ?_
  refine lv_aload_n hx hb dX4_savedStates_1 rfl (lv_at hl 0 rfl) ?_
  refine va_get (D := D) (ci := 4) (v := .int (M_saved u)) (C := RX4) (T := TX4) (N := 12) hx hb hts inT4 hown hK.k hP 0 rfl rfl 2 (by decide) (hts _ q_821) (fun _ h9 => h9) rfl dX4_savedStates_2 ?_
  refine rwVi0 (As := [.int (M_saved u)]) (rest := []) F (c_X4_told l D cI cS cJ a u H.size (M_saved u) h) (cw_X4_107 hts (Nat.le_of_ble_eq_true rfl) (Nat.le_of_ble_eq_true rfl)) hK hP hD hS hA (recv (ci := 4) (k0 := 0) hK hP rfl rfl) rfl hl.1 rfl (Nat.le_of_ble_eq_true rfl) dX4_savedStates_5 ⟨Nat.zero_le _, Nat.zero_le _⟩ (fun r1 u2 H locs h hP hD hS => ?_)
  exact hQ h hP hD hS dX4_savedStates_8

def wp_X4_mix (u : Md) (p1 : Int64) (post : Md → Prop) : Prop :=
  post (sM_hash u (((31 : Int64) * (M_hash u)) + p1))
set_option maxHeartbeats 4000000 in
set_option maxRecDepth 100000 in
theorem c_X4_mix (l : Launch) (D : va_G) (cI cS cJ : ClassId) (a : Nat → Nat) (u : Md) (sz : Nat) (p1 : Int64) {post : Md → Prop} (h : wp_X4_mix u p1 post) : Met l yX4_mix (wsA yX4_mix cX4_mix 3 none) rm_X4_mix (va_Pc [.ref (a 0), .long p1] (rwP D (tysA cI cS cJ) (mdW cI a u) sz)) (va_Qv post (fun u9 t => va_P D vwCl ((mdW cI a) u9) t.heap ∧ va_D (va_A (mdW cI a u) sz) ((mdW cI a) u9)) (va_A (mdW cI a u) sz)) 0 0 (va_A (mdW cI a u) sz) := by
  refine mkRWv (wf := (mdW cI a)) (by decide +kernel) (Nat.le_of_ble_eq_true rfl) (fun {p e s m args below meth c Q ls A H0 H locs} hx hb F hts hown hin hK hP hD hS hA hl hQ => ?_)
  have hown : s.vm.findClass RX4 = some m.cls := hown
  have F : CallFix p m c cX4_mix 3 s args wsT RX4 := F
  have hl : lv_has ls 3 [(0, .ref (a 0)), (1, .long p1)] := hl
  unfold wp_X4_mix at h
  refine lv_aload_n hx hb dX4_mix_0 rfl (lv_at hl 0 rfl) ?_
  refine lv_ldc2 (v := (31 : Int64)) hx hb hown (hts _ q_1187) dX4_mix_1 ?_
  refine lv_aload_n hx hb dX4_mix_4 rfl (lv_at hl 0 rfl) ?_
  refine va_get (D := D) (ci := 4) (v := .long (M_hash u)) (C := RX4) (T := TX4) (N := 12) hx hb hts inT4 hown hK.k hP 0 rfl rfl 11 (by decide) (hts _ q_830) (fun _ h9 => h9) rfl dX4_mix_5 ?_
  refine lv_lmul hx hb dX4_mix_8 ?_
  refine lv_lload_n hx hb dX4_mix_9 rfl (lv_at hl 1 rfl) ?_
  refine lv_ladd hx hb dX4_mix_10 ?_
  refine va_put (D := D) (ci := 4) (v := .long (((31 : Int64) * (M_hash u)) + p1)) (ty := .long) (C := RX4) (T := TX4) (N := 12) hx hb hts inT4 tyX4 tyX4_ok nmX4 hown hK.k hP hD hS 0 rfl rfl 11 (by decide) (hts _ q_830) (fun _ h9 => h9) rfl (by decide +kernel) rfl rfl (Nat.le_of_ble_eq_true rfl) dX4_mix_11 (fun H locs hP hD hS => ?_)
  have hP : va_P D vwCl (mdW cI a (sM_hash u (((31 : Int64) * (M_hash u)) + p1))) H := hP
  have hD : va_D A (mdW cI a (sM_hash u (((31 : Int64) * (M_hash u)) + p1))) := hD
  exact hQ h hP hD hS dX4_mix_14
