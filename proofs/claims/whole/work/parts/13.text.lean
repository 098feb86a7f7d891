def wp_X0_add (u : Ot) (p1 : Int32) (post : Ot → Prop) : Prop :=
  wp_X3_write 60 (O_codes u) (O_length u) p1 (fun f2 => post (sO_length (aO_codes u f2) ((O_length (aO_codes u f2)) + (1 : Int32))))
set_option maxHeartbeats 4000000 in
set_option maxRecDepth 100000 in
theorem c_X0_add (l : Launch) (D : va_G) (cI cS cJ : ClassId) (a : Nat → Nat) (u : Ot) (sz : Nat) (p1 : Int32) {post : Ot → Prop} (h : wp_X0_add u p1 post) : Met l yX0_add (wsA yX0_add cX0_add 2 none) rm_X0_add (va_Pc [.ref (a 0), .int p1] (rwP D (tysA cI cS cJ) (otW cI a u) sz)) (va_Qv post (fun u9 t => va_P D vwCl ((otW cI a) u9) t.heap ∧ va_D (va_A (otW cI a u) sz) ((otW cI a) u9)) (va_A (otW cI a u) sz)) 0 0 (va_A (otW cI a u) sz) := by
  refine mkRWv (wf := (otW cI a)) (by decide +kernel) (Nat.le_of_ble_eq_true rfl) (fun {p e s m args below meth c Q ls A H0 H locs} hx hb F hts hown hin hK hP hD hS hA hl hQ => ?_)
  have hown : s.vm.findClass RX0 = some m.cls := hown
  have F : CallFix p m c cX0_add 2 s args wsT RX0 := F
  have hl : lv_has ls 2 [(0, .ref (a 0)), (1, .int p1)] := hl
  unfold wp_X0_add at h
  refine lv_aload_n hx hb dX0_add_0 rfl (lv_at hl 0 rfl) ?_
  refine va_get (D := D) (ci := 0) (v := .ref (a 1)) (C := RX0) (T := TX0) (N := 2) hx hb hts inT0 hown hK.k hP 0 rfl rfl 0 (by decide) (hts _ q_180) (fun _ h9 => h9) rfl dX0_add_1 ?_
  refine lv_aload_n hx hb dX0_add_4 rfl (lv_at hl 0 rfl) ?_
  refine va_get (D := D) (ci := 0) (v := .int (O_length u)) (C := RX0) (T := TX0) (N := 2) hx hb hts inT0 hown hK.k hP 0 rfl rfl 1 (by decide) (hts _ q_181) (fun _ h9 => h9) rfl dX0_add_5 ?_
  refine lv_iload_n hx hb dX0_add_8 rfl (lv_at hl 1 rfl) ?_
  refine rwNv (wr := List.eraseIdx (otW cI a u) 1) (wf := fun f1 => [((a 1), .inl (cI, 60, .inl f1))]) (As := [.ref (a 1), .int (O_length u), .int p1]) (rest := []) (perm_k _ 1 rfl) F (c_X3_write l D cI cS cJ (a 1) 60 (O_codes u) H.size (O_length u) p1 h) (cw_X0_19 hts (nw7 hK) (Nat.le_of_ble_eq_true rfl) (Nat.le_of_ble_eq_true rfl)) hK hP hD hS hA rfl hl.1 rfl (Nat.le_of_ble_eq_true rfl) dX0_add_9 ⟨Nat.zero_le _, Nat.zero_le _⟩ (fun f2 H locs h hP hD hS => ?_)
  have hP : va_P D vwCl (otW cI a (aO_codes u f2)) H := vP_set1 (k := 1) (ws := otW cI a u) rfl hP
  have hD : va_D A (otW cI a (aO_codes u f2)) := vD_set1 (k := 1) (ws := otW cI a u) rfl hD
  refine lv_aload_n hx hb dX0_add_12 rfl (lv_at hl 0 rfl) ?_
  refine lv_dup hx hb dX0_add_13 rfl ?_
  refine va_get (D := D) (ci := 0) (v := .int (O_length (aO_codes u f2))) (C := RX0) (T := TX0) (N := 2) hx hb hts inT0 hown hK.k hP 0 rfl rfl 1 (by decide) (hts _ q_181) (fun _ h9 => h9) rfl dX0_add_14 ?_
  refine lv_iconst (v := (1 : Int32)) hx hb dX0_add_17 (by decide) ?_
  refine lv_iadd hx hb dX0_add_18 ?_
  refine va_put (D := D) (ci := 0) (v := .int ((O_length (aO_codes u f2)) + (1 : Int32))) (ty := .int) (C := RX0) (T := TX0) (N := 2) hx hb hts inT0 tyX0 tyX0_ok nmX0 hown hK.k hP hD hS 0 rfl rfl 1 (by decide) (hts _ q_181) (fun _ h9 => h9) rfl (by decide +kernel) rfl rfl (Nat.le_of_ble_eq_true rfl) dX0_add_19 (fun H locs hP hD hS => ?_)
  have hP : va_P D vwCl (otW cI a (sO_length (aO_codes u f2) ((O_length (aO_codes u f2)) + (1 : Int32)))) H := hP
  have hD : va_D A (otW cI a (sO_length (aO_codes u f2) ((O_length (aO_codes u f2)) + (1 : Int32)))) := hD
  exact hQ h hP hD hS dX0_add_22

def wp_X0_empty (u : Ot)  (post : Int32 → Ot → Prop) : Prop :=
  post (O_length u) (sO_length u (0 : Int32))
set_option maxHeartbeats 4000000 in
set_option maxRecDepth 100000 in
theorem c_X0_empty (l : Launch) (D : va_G) (cI cS cJ : ClassId) (a : Nat → Nat) (u : Ot) (sz : Nat)  {post : Int32 → Ot → Prop} (h : wp_X0_empty u post) : Met l yX0_empty (wsA yX0_empty cX0_empty 2 (some .int)) rm_X0_empty (va_Pc [.ref (a 0)] (rwP D (tysA cI cS cJ) (otW cI a u) sz)) (va_Qi post (fun u9 t => va_P D vwCl ((otW cI a) u9) t.heap ∧ va_D (va_A (otW cI a u) sz) ((otW cI a) u9)) (va_A (otW cI a u) sz)) 0 0 (va_A (otW cI a u) sz) := by
  refine mkRWi (wf := (otW cI a)) (by decide +kernel) (Nat.le_of_ble_eq_true rfl) (fun {p e s m args below meth c Q ls A H0 H locs} hx hb F hts hown hK hP hD hS hA hl hQ => ?_)
  have hown : s.vm.findClass RX0 = some m.cls := hown
  have F : CallFix p m c cX0_empty 2 s args wsT RX0 := F
  have hl : lv_has ls 2 [(0, .ref (a 0))] := hl
  unfold wp_X0_empty at h
  refine lv_aload_n hx hb dX0_empty_0 rfl (lv_at hl 0 rfl) ?_
  refine va_get (D := D) (ci := 0) (v := .int (O_length u)) (C := RX0) (T := TX0) (N := 2) hx hb hts inT0 hown hK.k hP 0 rfl rfl 1 (by decide) (hts _ q_181) (fun _ h9 => h9) rfl dX0_empty_1 ?_
  refine lv_istore_n (lv' := [(1, .int (O_length u)), (0, .ref (a 0))]) hx hb dX0_empty_4 rfl hl (by decide) rfl (fun ls hl => ?_)
  refine lv_aload_n hx hb dX0_empty_5 rfl (lv_at hl 1 rfl) ?_
  refine lv_iconst (v := (0 : Int32)) hx hb dX0_empty_6 (by decide) ?_
  refine va_put (D := D) (ci := 0) (v := .int (0 : Int32)) (ty := .int) (C := RX0) (T := TX0) (N := 2) hx hb hts inT0 tyX0 tyX0_ok nmX0 hown hK.k hP hD hS 0 rfl rfl 1 (by decide) (hts _ q_181) (fun _ h9 => h9) rfl (by decide +kernel) rfl rfl (Nat.le_of_ble_eq_true rfl) dX0_empty_7 (fun H locs hP hD hS => ?_)
  have hP : va_P D vwCl (otW cI a (sO_length u (0 : Int32))) H := hP
  have hD : va_D A (otW cI a (sO_length u (0 : Int32))) := hD
  refine lv_iload_n hx hb dX0_empty_10 rfl (lv_at hl 0 rfl) ?_
  exact hQ h hP hD hS dX0_empty_11

def wp_X0_codeAt (u : Ot) (p1 : Int32) (post : Int32 → Prop) : Prop :=
  (p1 < 0 → post (0 : Int32)) ∧ (¬ p1 < 0 → ((O_length u) ≤ p1 → post (0 : Int32)) ∧ (¬ (O_length u) ≤ p1 → ((60 : Int32) ≤ p1 → post (0 : Int32)) ∧ (¬ (60 : Int32) ≤ p1 → (vp_in p1 60) ∧ (post ((O_codes u) (Int32.toNatClampNeg p1))))))
set_option maxHeartbeats 4000000 in
set_option maxRecDepth 100000 in
theorem c_X0_codeAt (l : Launch) (D : va_G) (cI cS cJ : ClassId) (a : Nat → Nat) (u : Ot) (H0 : Heap) (p1 : Int32) {post : Int32 → Prop} (h : wp_X0_codeAt u p1 post) : Met l yX0_codeAt (wsA yX0_codeAt cX0_codeAt 2 (some .int)) rm_X0_codeAt (va_Pc [.ref (a 0), .int p1] (roP D (tysA cI cS cJ) (otW cI a u) H0)) (va_Qi (fun r (_ : Unit) => post r) (fun _ t => t.heap = H0) nF) 0 0 nF := by
  refine mkROi (by decide +kernel) (Nat.le_of_ble_eq_true rfl) (fun {p e s m args below meth c Q ls} hx hb F hts hown hK hP hl hQ => ?_)
  have hown : s.vm.findClass RX0 = some m.cls := hown
  have F : CallFix p m c cX0_codeAt 2 s args wsT RX0 := F
  have hl : lv_has ls 2 [(0, .ref (a 0)), (1, .int p1)] := hl
  unfold wp_X0_codeAt at h
  refine lv_iload_n hx hb dX0_codeAt_0 rfl (lv_at hl 1 rfl) ?_
  refine lv_if_lt (tgt := 30) hx hb dX0_codeAt_1 (by decide) (fun c1 => ?_) (fun c1 => ?_)
  · replace h := h.1 c1
    refine lv_iconst (v := (0 : Int32)) hx hb dX0_codeAt_30 (by decide) ?_
    exact hQ h dX0_codeAt_31
  · replace h := h.2 c1
    refine lv_iload_n hx hb dX0_codeAt_4 rfl (lv_at hl 1 rfl) ?_
    refine lv_aload_n hx hb dX0_codeAt_5 rfl (lv_at hl 0 rfl) ?_
    refine va_get (D := D) (ci := 0) (v := .int (O_length u)) (C := RX0) (T := TX0) (N := 2) hx hb hts inT0 hown hK.k hP 0 rfl rfl 1 (by decide) (hts _ q_181) (fun _ h9 => h9) rfl dX0_codeAt_6 ?_
    refine lv_icmp_ge (tgt := 30) hx hb dX0_codeAt_9 (by decide) (fun c2 => ?_) (fun c2 => ?_)
    · replace h := h.1 c2
      refine lv_iconst (v := (0 : Int32)) hx hb dX0_codeAt_30 (by decide) ?_
      exact hQ h dX0_codeAt_31
    · replace h := h.2 c2
      refine lv_iload_n hx hb dX0_codeAt_12 rfl (lv_at hl 1 rfl) ?_
      refine lv_aload_n hx hb dX0_codeAt_13 rfl (lv_at hl 0 rfl) ?_
      refine va_get (D := D) (ci := 0) (v := .ref (a 1)) (C := RX0) (T := TX0) (N := 2) hx hb hts inT0 hown hK.k hP 0 rfl rfl 0 (by decide) (hts _ q_180) (fun _ h9 => h9) rfl dX0_codeAt_14 ?_
      refine va_alen (v := (60 : Int32)) hx hb hK.k hP 1 0 rfl rfl rfl dX0_codeAt_17 ?_
      refine lv_icmp_ge (tgt := 30) hx hb dX0_codeAt_18 (by decide) (fun c3 => ?_) (fun c3 => ?_)
      · replace h := h.1 c3
        refine lv_iconst (v := (0 : Int32)) hx hb dX0_codeAt_30 (by decide) ?_
        exact hQ h dX0_codeAt_31
      · replace h := h.2 c3
        refine lv_aload_n hx hb dX0_codeAt_21 rfl (lv_at hl 0 rfl) ?_
        refine va_get (D := D) (ci := 0) (v := .ref (a 1)) (C := RX0) (T := TX0) (N := 2) hx hb hts inT0 hown hK.k hP 0 rfl rfl 0 (by decide) (hts _ q_180) (fun _ h9 => h9) rfl dX0_codeAt_22 ?_
        refine lv_iload_n hx hb dX0_codeAt_25 rfl (lv_at hl 1 rfl) ?_
        refine va_iald hx hb hK.k hP 1 0 rfl rfl h.1 dX0_codeAt_26 ?_
        replace h := h.2
        refine lv_goto (tgt := 31) hx hb dX0_codeAt_27 (by decide) ?_
        exact hQ h dX0_codeAt_31

def wp_X0_digitAt (u : Ot) (p1 : Int32) (post : Int32 → Prop) : Prop :=
  wp_X0_codeAt u p1 (fun r1 => post (r1 - (48 : Int32)))
set_option maxHeartbeats 4000000 in
set_option maxRecDepth 100000 in
theorem c_X0_digitAt (l : Launch) (D : va_G) (cI cS cJ : ClassId) (a : Nat → Nat) (u : Ot) (H0 : Heap) (p1 : Int32) {post : Int32 → Prop} (h : wp_X0_digitAt u p1 post) : Met l yX0_digitAt (wsA yX0_digitAt cX0_digitAt 2 (some .int)) rm_X0_digitAt (va_Pc [.ref (a 0), .int p1] (roP D (tysA cI cS cJ) (otW cI a u) H0)) (va_Qi (fun r (_ : Unit) => post r) (fun _ t => t.heap = H0) nF) 0 0 nF := by
  refine mkROi (by decide +kernel) (Nat.le_of_ble_eq_true rfl) (fun {p e s m args below meth c Q ls} hx hb F hts hown hK hP hl hQ => ?_)
  have hown : s.vm.findClass RX0 = some m.cls := hown
  have F : CallFix p m c cX0_digitAt 2 s args wsT RX0 := F
  have hl : lv_has ls 2 [(0, .ref (a 0)), (1, .int p1)] := hl
  unfold wp_X0_digitAt at h
  refine lv_aload_n hx hb dX0_digitAt_0 rfl (lv_at hl 0 rfl) ?_
  refine lv_iload_n hx hb dX0_digitAt_1 rfl (lv_at hl 1 rfl) ?_
  refine roVi (As := [.int p1]) (rest := []) F (c_X0_codeAt l D cI cS cJ a u H0 p1 h) (cw_X0_23 hts (Nat.le_of_ble_eq_true rfl) (Nat.le_of_ble_eq_true rfl)) hK hP (recv (ci := 0) (k0 := 0) hK hP rfl rfl) rfl hl.1 rfl (Nat.le_of_ble_eq_true rfl) dX0_digitAt_2 ⟨Nat.zero_le _, Nat.zero_le _⟩ (fun r1 h => ?_)
  refine lv_bipush (v := (48 : Int32)) hx hb dX0_digitAt_5 (by decide) ?_
  refine lv_isub hx hb dX0_digitAt_7 ?_
  exact hQ h dX0_digitAt_8

def wp_X0_bodyOf (u : Ot) (p1 : Int32) (p2 : Int32) (post : Int32 → Prop) : Prop :=
  LP2 (fun (K3 : Int32 → Int32 → Prop) (x1 : Int32) (x2 : Int32) => (p2 ≤ x2 → post x1) ∧ (¬ p2 ≤ x2 → wp_X0_digitAt u x2 (fun r6 => K3 (((10 : Int32) * x1) + r6) (x2 + 1)))) (0 : Int32) (p1 + (3 : Int32))
set_option maxHeartbeats 4000000 in
set_option maxRecDepth 100000 in
theorem c_X0_bodyOf (l : Launch) (D : va_G) (cI cS cJ : ClassId) (a : Nat → Nat) (u : Ot) (H0 : Heap) (p1 : Int32) (p2 : Int32) {post : Int32 → Prop} (h : wp_X0_bodyOf u p1 p2 post) : Met l yX0_bodyOf (wsA yX0_bodyOf cX0_bodyOf 5 (some .int)) rm_X0_bodyOf (va_Pc [.ref (a 0), .int p1, .int p2] (roP D (tysA cI cS cJ) (otW cI a u) H0)) (va_Qi (fun r (_ : Unit) => post r) (fun _ t => t.heap = H0) nF) 0 0 nF := by
  refine mkROi (by decide +kernel) (Nat.le_of_ble_eq_true rfl) (fun {p e s m args below meth c Q ls} hx hb F hts hown hK hP hl hQ => ?_)
  have hown : s.vm.findClass RX0 = some m.cls := hown
  have F : CallFix p m c cX0_bodyOf 5 s args wsT RX0 := F
  have hl : lv_has ls 5 [(0, .ref (a 0)), (1, .int p1), (2, .int p2)] := hl
  unfold wp_X0_bodyOf at h
  refine lv_iconst (v := (0 : Int32)) hx hb dX0_bodyOf_0 (by decide) ?_
  refine lv_istore_n (lv' := [(3, .int (0 : Int32)), (0, .ref (a 0)), (1, .int p1), (2, .int p2)]) hx hb dX0_bodyOf_1 rfl hl (by decide) rfl (fun ls hl => ?_)
  refine lv_iload_n hx hb dX0_bodyOf_2 rfl (lv_at hl 2 rfl) ?_
  refine lv_iconst (v := (3 : Int32)) hx hb dX0_bodyOf_3 (by decide) ?_
  refine lv_iadd hx hb dX0_bodyOf_4 ?_
  refine lv_istore (lv' := [(4, .int (p1 + (3 : Int32))), (3, .int (0 : Int32)), (0, .ref (a 0)), (1, .int p1), (2, .int p2)]) hx hb dX0_bodyOf_5 hl (by decide) rfl (fun ls hl => ?_)
  refine lpu2 h (fun K3 : Int32 → Int32 → Prop => ∀ (x1 : Int32) (x2 : Int32) (ls : Array Slot), lv_has ls 5 [(0, .ref (a 0)), (2, .int p2), (3, .int x1), (4, .int x2)] → K3 x1 x2 → W p l e rm_X0_bodyOf s m args below meth c H0 [] 0 0 Q (F0 m 7 ls [])) ?_ ?_ ?_
  · intro x1 x2 ls hl h
    exact h.elim
  · intro K3
    intro w4 x1 x2 ls hl h
    refine lv_iload hx hb dX0_bodyOf_7 (lv_at hl 3 rfl) ?_
    refine lv_iload_n hx hb dX0_bodyOf_9 rfl (lv_at hl 1 rfl) ?_
    refine lv_icmp_ge (tgt := 31) hx hb dX0_bodyOf_10 (by decide) (fun c5 => ?_) (fun c5 => ?_)
    · replace h := h.1 c5
      refine lv_iload_n hx hb dX0_bodyOf_31 rfl (lv_at hl 2 rfl) ?_
      exact hQ h dX0_bodyOf_32
    · replace h := h.2 c5
      refine lv_bipush (v := (10 : Int32)) hx hb dX0_bodyOf_13 (by decide) ?_
      refine lv_iload_n hx hb dX0_bodyOf_15 rfl (lv_at hl 2 rfl) ?_
      refine lv_imul hx hb dX0_bodyOf_16 ?_
      refine lv_aload_n hx hb dX0_bodyOf_17 rfl (lv_at hl 0 rfl) ?_
      refine lv_iload hx hb dX0_bodyOf_18 (lv_at hl 3 rfl) ?_
      refine roVi (As := [.int x2]) (rest := [.int ((10 : Int32) * x1)]) F (c_X0_digitAt l D cI cS cJ a u H0 x2 h) (cw_X0_27 hts (Nat.le_of_ble_eq_true rfl) (Nat.le_of_ble_eq_true rfl)) hK hP (recv (ci := 0) (k0 := 0) hK hP rfl rfl) rfl hl.1 rfl (Nat.le_of_ble_eq_true rfl) dX0_bodyOf_20 ⟨Nat.zero_le _, Nat.zero_le _⟩ (fun r6 h => ?_)
      refine lv_iadd hx hb dX0_bodyOf_23 ?_
      refine lv_istore_n (lv' := [(3, .int (((10 : Int32) * x1) + r6)), (0, .ref (a 0)), (2, .int p2), (4, .int x2)]) hx hb dX0_bodyOf_24 rfl hl (by decide) rfl (fun ls hl => ?_)
      refine lv_iinc (v := (x2 + 1)) (lv' := [(4, .int (x2 + 1)), (3, .int (((10 : Int32) * x1) + r6)), (0, .ref (a 0)), (2, .int p2)]) hx hb dX0_bodyOf_25 hl (k := 3) rfl rfl (by decide) rfl (fun ls hl => ?_)
      refine lv_goto (tgt := 7) hx hb dX0_bodyOf_28 (by decide) ?_
      exact w4 (((10 : Int32) * x1) + r6) (x2 + 1) _ (lv_sub hl [2, 3, 1, 0] rfl) h
  · intro K3 w4 h
    exact w4 (0 : Int32) (p1 + (3 : Int32)) _ (lv_sub hl [2, 4, 1, 0] rfl) h

def wp_X0_isOrderSign  (p0 : Int32) (post : Int32 → Prop) : Prop :=
  (p0 = 97 → post (1 : Int32)) ∧ (¬ p0 = 97 → (p0 = 99 → post (1 : Int32)) ∧ (¬ p0 = 99 → (p0 = 111 → post (1 : Int32)) ∧ (¬ p0 = 111 → (p0 = 114 → post (1 : Int32)) ∧ (¬ p0 = 114 → (p0 = 115 → post (1 : Int32)) ∧ (¬ p0 = 115 → (p0 = 116 → post (1 : Int32)) ∧ (¬ p0 = 116 → post (0 : Int32)))))))
set_option maxHeartbeats 4000000 in
set_option maxRecDepth 100000 in
theorem c_X0_isOrderSign (l : Launch) (D : va_G) (cI cS cJ : ClassId)  (H0 : Heap) (p0 : Int32) {post : Int32 → Prop} (h : wp_X0_isOrderSign p0 post) : Met l yX0_isOrderSign (wsA yX0_isOrderSign cX0_isOrderSign 1 (some .boolean)) rm_X0_isOrderSign (va_Pc [.int p0] (roP D (tysA cI cS cJ) ([]) H0)) (va_Qi (fun r (_ : Unit) => bz r ∧ post r) (fun _ t => t.heap = H0) nF) 0 0 nF := by
  refine mkROz (by decide +kernel) (Nat.le_of_ble_eq_true rfl) (fun {p e s m args below meth c Q ls} hx hb F hts hown hK hP hl hQ => ?_)
  have hown : s.vm.findClass RX0 = some m.cls := hown
  have F : CallFix p m c cX0_isOrderSign 1 s args wsT RX0 := F
  have hl : lv_has ls 1 [(0, .int p0)] := hl
  unfold wp_X0_isOrderSign at h
  refine lv_iload_n hx hb dX0_isOrderSign_0 rfl (lv_at hl 0 rfl) ?_
  by_cases c1 : p0 = 97
  · replace h := h.1 c1
    refine lv_tableIn (tgt := 96) hx hb dX0_isOrderSign_1 (by rw [c1]; decide) (by rw [c1]; decide) (by rw [c1]; rfl) (by decide) ?_
    refine lv_iconst (v := (1 : Int32)) hx hb dX0_isOrderSign_96 (by decide) ?_
    exact hQ bz1 h dX0_isOrderSign_97
  replace h := h.2 c1
  by_cases c2 : p0 = 99
  · replace h := h.1 c2
    refine lv_tableIn (tgt := 96) hx hb dX0_isOrderSign_1 (by rw [c2]; decide) (by rw [c2]; decide) (by rw [c2]; rfl) (by decide) ?_
    refine lv_iconst (v := (1 : Int32)) hx hb dX0_isOrderSign_96 (by decide) ?_
    exact hQ bz1 h dX0_isOrderSign_97
  replace h := h.2 c2
  by_cases c3 : p0 = 111
  · replace h := h.1 c3
    refine lv_tableIn (tgt := 96) hx hb dX0_isOrderSign_1 (by rw [c3]; decide) (by rw [c3]; decide) (by rw [c3]; rfl) (by decide) ?_
    refine lv_iconst (v := (1 : Int32)) hx hb dX0_isOrderSign_96 (by decide) ?_
    exact hQ bz1 h dX0_isOrderSign_97
  replace h := h.2 c3
  by_cases c4 : p0 = 114
  · replace h := h.1 c4
    refine lv_tableIn (tgt := 96) hx hb dX0_isOrderSign_1 (by rw [c4]; decide) (by rw [c4]; decide) (by rw [c4]; rfl) (by decide) ?_
    refine lv_iconst (v := (1 : Int32)) hx hb dX0_isOrderSign_96 (by decide) ?_
    exact hQ bz1 h dX0_isOrderSign_97
  replace h := h.2 c4
  by_cases c5 : p0 = 115
  · replace h := h.1 c5
    refine lv_tableIn (tgt := 96) hx hb dX0_isOrderSign_1 (by rw [c5]; decide) (by rw [c5]; decide) (by rw [c5]; rfl) (by decide) ?_
    refine lv_iconst (v := (1 : Int32)) hx hb dX0_isOrderSign_96 (by decide) ?_
    exact hQ bz1 h dX0_isOrderSign_97
  replace h := h.2 c5
  by_cases c6 : p0 = 116
  · replace h := h.1 c6
    refine lv_tableIn (tgt := 96) hx hb dX0_isOrderSign_1 (by rw [c6]; decide) (by rw [c6]; decide) (by rw [c6]; rfl) (by decide) ?_
    refine lv_iconst (v := (1 : Int32)) hx hb dX0_isOrderSign_96 (by decide) ?_
    exact hQ bz1 h dX0_isOrderSign_97
  replace h := h.2 c6
  by_cases c7 : p0 = 98
  · refine lv_tableIn (tgt := 98) hx hb dX0_isOrderSign_1 (by rw [c7]; decide) (by rw [c7]; decide) (by rw [c7]; rfl) (by decide) ?_
    refine lv_iconst (v := (0 : Int32)) hx hb dX0_isOrderSign_98 (by decide) ?_
    exact hQ bz0 h dX0_isOrderSign_99
  by_cases c8 : p0 = 100
  · refine lv_tableIn (tgt := 98) hx hb dX0_isOrderSign_1 (by rw [c8]; decide) (by rw [c8]; decide) (by rw [c8]; rfl) (by decide) ?_
    refine lv_iconst (v := (0 : Int32)) hx hb dX0_isOrderSign_98 (by decide) ?_
    exact hQ bz0 h dX0_isOrderSign_99
  by_cases c9 : p0 = 101
  · refine lv_tableIn (tgt := 98) hx hb dX0_isOrderSign_1 (by rw [c9]; decide) (by rw [c9]; decide) (by rw [c9]; rfl) (by decide) ?_
    refine lv_iconst (v := (0 : Int32)) hx hb dX0_isOrderSign_98 (by decide) ?_
    exact hQ bz0 h dX0_isOrderSign_99
  by_cases c10 : p0 = 102
  · refine lv_tableIn (tgt := 98) hx hb dX0_isOrderSign_1 (by rw [c10]; decide) (by rw [c10]; decide) (by rw [c10]; rfl) (by decide) ?_
    refine lv_iconst (v := (0 : Int32)) hx hb dX0_isOrderSign_98 (by decide) ?_
    exact hQ bz0 h dX0_isOrderSign_99
  by_cases c11 : p0 = 103
  · refine lv_tableIn (tgt := 98) hx hb dX0_isOrderSign_1 (by rw [c11]; decide) (by rw [c11]; decide) (by rw [c11]; rfl) (by decide) ?_
    refine lv_iconst (v := (0 : Int32)) hx hb dX0_isOrderSign_98 (by decide) ?_
    exact hQ bz0 h dX0_isOrderSign_99
  by_cases c12 : p0 = 104
  · refine lv_tableIn (tgt := 98) hx hb dX0_isOrderSign_1 (by rw [c12]; decide) (by rw [c12]; decide) (by rw [c12]; rfl) (by decide) ?_
    refine lv_iconst (v := (0 : Int32)) hx hb dX0_isOrderSign_98 (by decide) ?_
    exact hQ bz0 h dX0_isOrderSign_99
  by_cases c13 : p0 = 105
  · refine lv_tableIn (tgt := 98) hx hb dX0_isOrderSign_1 (by rw [c13]; decide) (by rw [c13]; decide) (by rw [c13]; rfl) (by decide) ?_
    refine lv_iconst (v := (0 : Int32)) hx hb dX0_isOrderSign_98 (by decide) ?_
    exact hQ bz0 h dX0_isOrderSign_99
  by_cases c14 : p0 = 106
  · refine lv_tableIn (tgt := 98) hx hb dX0_isOrderSign_1 (by rw [c14]; decide) (by rw [c14]; decide) (by rw [c14]; rfl) (by decide) ?_
    refine lv_iconst (v := (0 : Int32)) hx hb dX0_isOrderSign_98 (by decide) ?_
    exact hQ bz0 h dX0_isOrderSign_99
  by_cases c15 : p0 = 107
  · refine lv_tableIn (tgt := 98) hx hb dX0_isOrderSign_1 (by rw [c15]; decide) (by rw [c15]; decide) (by rw [c15]; rfl) (by decide) ?_
    refine lv_iconst (v := (0 : Int32)) hx hb dX0_isOrderSign_98 (by decide) ?_
    exact hQ bz0 h dX0_isOrderSign_99
  by_cases c16 : p0 = 108
  · refine lv_tableIn (tgt := 98) hx hb dX0_isOrderSign_1 (by rw [c16]; decide) (by rw [c16]; decide) (by rw [c16]; rfl) (by decide) ?_
    refine lv_iconst (v := (0 : Int32)) hx hb dX0_isOrderSign_98 (by decide) ?_
    exact hQ bz0 h dX0_isOrderSign_99
  by_cases c17 : p0 = 109
  · refine lv_tableIn (tgt := 98) hx hb dX0_isOrderSign_1 (by rw [c17]; decide) (by rw [c17]; decide) (by rw [c17]; rfl) (by decide) ?_
    refine lv_iconst (v := (0 : Int32)) hx hb dX0_isOrderSign_98 (by decide) ?_
    exact hQ bz0 h dX0_isOrderSign_99
  by_cases c18 : p0 = 110
  · refine lv_tableIn (tgt := 98) hx hb dX0_isOrderSign_1 (by rw [c18]; decide) (by rw [c18]; decide) (by rw [c18]; rfl) (by decide) ?_
    refine lv_iconst (v := (0 : Int32)) hx hb dX0_isOrderSign_98 (by decide) ?_
    exact hQ bz0 h dX0_isOrderSign_99
  by_cases c19 : p0 = 112
  · refine lv_tableIn (tgt := 98) hx hb dX0_isOrderSign_1 (by rw [c19]; decide) (by rw [c19]; decide) (by rw [c19]; rfl) (by decide) ?_
    refine lv_iconst (v := (0 : Int32)) hx hb dX0_isOrderSign_98 (by decide) ?_
    exact hQ bz0 h dX0_isOrderSign_99
  by_cases c20 : p0 = 113
  · refine lv_tableIn (tgt := 98) hx hb dX0_isOrderSign_1 (by rw [c20]; decide) (by rw [c20]; decide) (by rw [c20]; rfl) (by decide) ?_
    refine lv_iconst (v := (0 : Int32)) hx hb dX0_isOrderSign_98 (by decide) ?_
    exact hQ bz0 h dX0_isOrderSign_99
  refine lv_tableOut (tgt := 98) hx hb dX0_isOrderSign_1 (by have := ne_toInt (k := 97) c1 rfl; have := ne_toInt (k := 99) c2 rfl; have := ne_toInt (k := 111) c3 rfl; have := ne_toInt (k := 114) c4 rfl; have := ne_toInt (k := 115) c5 rfl; have := ne_toInt (k := 116) c6 rfl; have := ne_toInt (k := 98) c7 rfl; have := ne_toInt (k := 100) c8 rfl; have := ne_toInt (k := 101) c9 rfl; have := ne_toInt (k := 102) c10 rfl; have := ne_toInt (k := 103) c11 rfl; have := ne_toInt (k := 104) c12 rfl; have := ne_toInt (k := 105) c13 rfl; have := ne_toInt (k := 106) c14 rfl; have := ne_toInt (k := 107) c15 rfl; have := ne_toInt (k := 108) c16 rfl; have := ne_toInt (k := 109) c17 rfl; have := ne_toInt (k := 110) c18 rfl; have := ne_toInt (k := 112) c19 rfl; have := ne_toInt (k := 113) c20 rfl; omega) (by decide) ?_
  refine lv_iconst (v := (0 : Int32)) hx hb dX0_isOrderSign_98 (by decide) ?_
  exact hQ bz0 h dX0_isOrderSign_99

def wp_X0_endsOrder (u : Ot) (p1 : Int32) (p2 : Int32) (post : Int32 → Prop) : Prop :=
  wp_X0_codeAt u p1 (fun r1 => (r1 = 97 → ((p2 - p1) < (4 : Int32) → post (0 : Int32)) ∧ (¬ (p2 - p1) < (4 : Int32) → post (1 : Int32))) ∧ (¬ r1 = 97 → (r1 = 114 → (¬ (p2 - p1) = (5 : Int32) → post (0 : Int32)) ∧ ((p2 - p1) = (5 : Int32) → post (1 : Int32))) ∧ (¬ r1 = 114 → (r1 = 115 → ((p2 - p1) < (4 : Int32) → post (0 : Int32)) ∧ (¬ (p2 - p1) < (4 : Int32) → post (1 : Int32))) ∧ (¬ r1 = 115 → (¬ (p2 - p1) = (2 : Int32) → post (0 : Int32)) ∧ ((p2 - p1) = (2 : Int32) → post (1 : Int32))))))
set_option maxHeartbeats 4000000 in
set_option maxRecDepth 100000 in
theorem c_X0_endsOrder (l : Launch) (D : va_G) (cI cS cJ : ClassId) (a : Nat → Nat) (u : Ot) (H0 : Heap) (p1 : Int32) (p2 : Int32) {post : Int32 → Prop} (h : wp_X0_endsOrder u p1 p2 post) : Met l yX0_endsOrder (wsA yX0_endsOrder cX0_endsOrder 4 (some .boolean)) rm_X0_endsOrder (va_Pc [.ref (a 0), .int p1, .int p2] (roP D (tysA cI cS cJ) (otW cI a u) H0)) (va_Qi (fun r (_ : Unit) => bz r ∧ post r) (fun _ t => t.heap = H0) nF) 0 0 nF := by
  refine mkROz (by decide +kernel) (Nat.le_of_ble_eq_true rfl) (fun {p e s m args below meth c Q ls} hx hb F hts hown hK hP hl hQ => ?_)
  have hown : s.vm.findClass RX0 = some m.cls := hown
  have F : CallFix p m c cX0_endsOrder 4 s args wsT RX0 := F
  have hl : lv_has ls 4 [(0, .ref (a 0)), (1, .int p1), (2, .int p2)] := hl
  unfold wp_X0_endsOrder at h
  refine lv_iload_n hx hb dX0_endsOrder_0 rfl (lv_at hl 2 rfl) ?_
  refine lv_iload_n hx hb dX0_endsOrder_1 rfl (lv_at hl 1 rfl) ?_
  refine lv_isub hx hb dX0_endsOrder_2 ?_
  refine lv_istore_n (lv' := [(3, .int (p2 - p1)), (0, .ref (a 0)), (1, .int p1), (2, .int p2)]) hx hb dX0_endsOrder_3 rfl hl (by decide) rfl (fun ls hl => ?_)
  refine lv_aload_n hx hb dX0_endsOrder_4 rfl (lv_at hl 1 rfl) ?_
  refine lv_iload_n hx hb dX0_endsOrder_5 rfl (lv_at hl 2 rfl) ?_
  refine roVi (As := [.int p1]) (rest := []) F (c_X0_codeAt l D cI cS cJ a u H0 p1 h) (cw_X0_23 hts (Nat.le_of_ble_eq_true rfl) (Nat.le_of_ble_eq_true rfl)) hK hP (recv (ci := 0) (k0 := 0) hK hP rfl rfl) rfl hl.1 rfl (Nat.le_of_ble_eq_true rfl) dX0_endsOrder_6 ⟨Nat.zero_le _, Nat.zero_le _⟩ (fun r1 h => ?_)
  by_cases c2 : r1 = 97
  · replace h := h.1 c2
    refine lv_lookup (tgt := 55) hx hb dX0_endsOrder_9 (by decide) (lk_hit c2 rfl) (by decide) ?_
    refine lv_iload_n hx hb dX0_endsOrder_55 rfl (lv_at hl 0 rfl) ?_
    refine lv_iconst (v := (4 : Int32)) hx hb dX0_endsOrder_56 (by decide) ?_
    refine lv_icmp_lt (tgt := 64) hx hb dX0_endsOrder_57 (by decide) (fun c3 => ?_) (fun c3 => ?_)
    · replace h := h.1 c3
      refine lv_iconst (v := (0 : Int32)) hx hb dX0_endsOrder_64 (by decide) ?_
      exact hQ bz0 h dX0_endsOrder_65
    · replace h := h.2 c3
      refine lv_iconst (v := (1 : Int32)) hx hb dX0_endsOrder_60 (by decide) ?_
      refine lv_goto (tgt := 65) hx hb dX0_endsOrder_61 (by decide) ?_
      exact hQ bz1 h dX0_endsOrder_65
  replace h := h.2 c2
  by_cases c4 : r1 = 114
  · replace h := h.1 c4
    refine lv_lookup (tgt := 44) hx hb dX0_endsOrder_9 (by decide) (lk_hit c4 rfl) (by decide) ?_
    refine lv_iload_n hx hb dX0_endsOrder_44 rfl (lv_at hl 0 rfl) ?_
    refine lv_iconst (v := (5 : Int32)) hx hb dX0_endsOrder_45 (by decide) ?_
    refine lv_icmp_ne (tgt := 53) hx hb dX0_endsOrder_46 (by decide) (fun c5 => ?_) (fun c5 => ?_)
    · replace h := h.1 c5
      refine lv_iconst (v := (0 : Int32)) hx hb dX0_endsOrder_53 (by decide) ?_
      exact hQ bz0 h dX0_endsOrder_54
    · replace h := h.2 c5
      refine lv_iconst (v := (1 : Int32)) hx hb dX0_endsOrder_49 (by decide) ?_
      refine lv_goto (tgt := 54) hx hb dX0_endsOrder_50 (by decide) ?_
      exact hQ bz1 h dX0_endsOrder_54
  replace h := h.2 c4
  by_cases c6 : r1 = 115
  · replace h := h.1 c6
    refine lv_lookup (tgt := 55) hx hb dX0_endsOrder_9 (by decide) (lk_hit c6 rfl) (by decide) ?_
    refine lv_iload_n hx hb dX0_endsOrder_55 rfl (lv_at hl 0 rfl) ?_
    refine lv_iconst (v := (4 : Int32)) hx hb dX0_endsOrder_56 (by decide) ?_
    refine lv_icmp_lt (tgt := 64) hx hb dX0_endsOrder_57 (by decide) (fun c7 => ?_) (fun c7 => ?_)
    · replace h := h.1 c7
      refine lv_iconst (v := (0 : Int32)) hx hb dX0_endsOrder_64 (by decide) ?_
      exact hQ bz0 h dX0_endsOrder_65
    · replace h := h.2 c7
      refine lv_iconst (v := (1 : Int32)) hx hb dX0_endsOrder_60 (by decide) ?_
      refine lv_goto (tgt := 65) hx hb dX0_endsOrder_61 (by decide) ?_
      exact hQ bz1 h dX0_endsOrder_65
  replace h := h.2 c6
  refine lv_lookup (tgt := 66) hx hb dX0_endsOrder_9 (by decide) (lk_c (lk_d c2 rfl) (lk_c (lk_d c4 rfl) (lk_c (lk_d c6 rfl) (lk_n)))) (by decide) ?_
  refine lv_iload_n hx hb dX0_endsOrder_66 rfl (lv_at hl 0 rfl) ?_
  refine lv_iconst (v := (2 : Int32)) hx hb dX0_endsOrder_67 (by decide) ?_
  refine lv_icmp_ne (tgt := 75) hx hb dX0_endsOrder_68 (by decide) (fun c8 => ?_) (fun c8 => ?_)
  · replace h := h.1 c8
    refine lv_iconst (v := (0 : Int32)) hx hb dX0_endsOrder_75 (by decide) ?_
    exact hQ bz0 h dX0_endsOrder_76
  · replace h := h.2 c8
    refine lv_iconst (v := (1 : Int32)) hx hb dX0_endsOrder_71 (by decide) ?_
    refine lv_goto (tgt := 76) hx hb dX0_endsOrder_72 (by decide) ?_
    exact hQ bz1 h dX0_endsOrder_76

def wp_X0_fitsLay (u : Ot) (p1 : Int32) (p2 : Int32) (post : Int32 → Prop) : Prop :=
  wp_X0_codeAt u p2 (fun r1 => ((p2 - p1) ≤ (3 : Int32) → LP1 (fun (K4 : Int32 → Prop) (x3 : Int32) => (p2 ≤ x3 → wp_X3_isBetween r1 (48 : Int32) (55 : Int32) (fun r7 => post r7)) ∧ (¬ p2 ≤ x3 → wp_X0_codeAt u x3 (fun r9 => (¬ r9 = r1 → K4 (x3 + 1)) ∧ (r9 = r1 → post (0 : Int32))))) (p1 + (1 : Int32))) ∧ (¬ (p2 - p1) ≤ (3 : Int32) → (¬ (p2 - p1) = (4 : Int32) → post (0 : Int32)) ∧ ((p2 - p1) = (4 : Int32) → wp_X3_isBetween r1 (48 : Int32) (51 : Int32) (fun r12 => (r12 = 0 → post (0 : Int32)) ∧ (¬ r12 = 0 → post (1 : Int32))))))
set_option maxHeartbeats 4000000 in
set_option maxRecDepth 100000 in
theorem c_X0_fitsLay (l : Launch) (D : va_G) (cI cS cJ : ClassId) (a : Nat → Nat) (u : Ot) (H0 : Heap) (p1 : Int32) (p2 : Int32) {post : Int32 → Prop} (h : wp_X0_fitsLay u p1 p2 post) : Met l yX0_fitsLay (wsA yX0_fitsLay cX0_fitsLay 6 (some .boolean)) rm_X0_fitsLay (va_Pc [.ref (a 0), .int p1, .int p2] (roP D (tysA cI cS cJ) (otW cI a u) H0)) (va_Qi (fun r (_ : Unit) => bz r ∧ post r) (fun _ t => t.heap = H0) nF) 0 0 nF := by
  refine mkROz (by decide +kernel) (Nat.le_of_ble_eq_true rfl) (fun {p e s m args below meth c Q ls} hx hb F hts hown hK hP hl hQ => ?_)
  have hown : s.vm.findClass RX0 = some m.cls := hown
  have F : CallFix p m c cX0_fitsLay 6 s args wsT RX0 := F
  have hl : lv_has ls 6 [(0, .ref (a 0)), (1, .int p1), (2, .int p2)] := hl
  unfold wp_X0_fitsLay at h
  refine lv_aload_n hx hb dX0_fitsLay_0 rfl (lv_at hl 0 rfl) ?_
  refine lv_iload_n hx hb dX0_fitsLay_1 rfl (lv_at hl 2 rfl) ?_
  refine roVi (As := [.int p2]) (rest := []) F (c_X0_codeAt l D cI cS cJ a u H0 p2 h) (cw_X0_23 hts (Nat.le_of_ble_eq_true rfl) (Nat.le_of_ble_eq_true rfl)) hK hP (recv (ci := 0) (k0 := 0) hK hP rfl rfl) rfl hl.1 rfl (Nat.le_of_ble_eq_true rfl) dX0_fitsLay_2 ⟨Nat.zero_le _, Nat.zero_le _⟩ (fun r1 h => ?_)
  refine lv_istore_n (lv' := [(3, .int r1), (0, .ref (a 0)), (1, .int p1), (2, .int p2)]) hx hb dX0_fitsLay_5 rfl hl (by decide) rfl (fun ls hl => ?_)
  refine lv_iload_n hx hb dX0_fitsLay_6 rfl (lv_at hl 3 rfl) ?_
  refine lv_iload_n hx hb dX0_fitsLay_7 rfl (lv_at hl 2 rfl) ?_
  refine lv_isub hx hb dX0_fitsLay_8 ?_
  refine lv_istore (lv' := [(4, .int (p2 - p1)), (3, .int r1), (0, .ref (a 0)), (1, .int p1), (2, .int p2)]) hx hb dX0_fitsLay_9 hl (by decide) rfl (fun ls hl => ?_)
  refine lv_iload hx hb dX0_fitsLay_11 (lv_at hl 0 rfl) ?_
  refine lv_iconst (v := (3 : Int32)) hx hb dX0_fitsLay_13 (by decide) ?_
  refine lv_icmp_le (tgt := 40) hx hb dX0_fitsLay_14 (by decide) (fun c2 => ?_) (fun c2 => ?_)
  · replace h := h.1 c2
    refine lv_iload_n hx hb dX0_fitsLay_40 rfl (lv_at hl 3 rfl) ?_
    refine lv_iconst (v := (1 : Int32)) hx hb dX0_fitsLay_41 (by decide) ?_
    refine lv_iadd hx hb dX0_fitsLay_42 ?_
    refine lv_istore (lv' := [(5, .int (p1 + (1 : Int32))), (4, .int (p2 - p1)), (3, .int r1), (0, .ref (a 0)), (1, .int p1), (2, .int p2)]) hx hb dX0_fitsLay_43 hl (by decide) rfl (fun ls hl => ?_)
    refine lpu1 h (fun K4 : Int32 → Prop => ∀ (x3 : Int32) (ls : Array Slot), lv_has ls 6 [(0, .ref (a 0)), (2, .int p2), (3, .int r1), (5, .int x3)] → K4 x3 → W p l e rm_X0_fitsLay s m args below meth c H0 [] 0 0 Q (F0 m 45 ls [])) ?_ ?_ ?_
    · intro x3 ls hl h
      exact h.elim
    · intro K4
      intro w5 x3 ls hl h
      refine lv_iload hx hb dX0_fitsLay_45 (lv_at hl 3 rfl) ?_
      refine lv_iload_n hx hb dX0_fitsLay_47 rfl (lv_at hl 1 rfl) ?_
      refine lv_icmp_ge (tgt := 69) hx hb dX0_fitsLay_48 (by decide) (fun c6 => ?_) (fun c6 => ?_)
      · replace h := h.1 c6
        refine lv_iload_n hx hb dX0_fitsLay_69 rfl (lv_at hl 2 rfl) ?_
        refine lv_bipush (v := (48 : Int32)) hx hb dX0_fitsLay_70 (by decide) ?_
        refine lv_bipush (v := (55 : Int32)) hx hb dX0_fitsLay_72 (by decide) ?_
        refine roNi (As := [.int r1, .int (48 : Int32), .int (55 : Int32)]) (rest := []) F (c_X3_isBetween l D cI cS cJ H0 r1 (48 : Int32) (55 : Int32) h) (cw_X0_51 hts (nw0 hK) (Nat.le_of_ble_eq_true rfl) (Nat.le_of_ble_eq_true rfl)) hK vP_nil rfl hl.1 rfl (Nat.le_of_ble_eq_true rfl) dX0_fitsLay_74 ⟨Nat.zero_le _, Nat.zero_le _⟩ (fun r7 h => ?_)
        obtain ⟨b8, h⟩ := h
        exact hQ b8 h dX0_fitsLay_77
      · replace h := h.2 c6
        refine lv_aload_n hx hb dX0_fitsLay_51 rfl (lv_at hl 0 rfl) ?_
        refine lv_iload hx hb dX0_fitsLay_52 (lv_at hl 3 rfl) ?_
        refine roVi (As := [.int x3]) (rest := []) F (c_X0_codeAt l D cI cS cJ a u H0 x3 h) (cw_X0_23 hts (Nat.le_of_ble_eq_true rfl) (Nat.le_of_ble_eq_true rfl)) hK hP (recv (ci := 0) (k0 := 0) hK hP rfl rfl) rfl hl.1 rfl (Nat.le_of_ble_eq_true rfl) dX0_fitsLay_54 ⟨Nat.zero_le _, Nat.zero_le _⟩ (fun r9 h => ?_)
        refine lv_iload_n hx hb dX0_fitsLay_57 rfl (lv_at hl 2 rfl) ?_
        refine lv_icmp_ne (tgt := 63) hx hb dX0_fitsLay_58 (by decide) (fun c10 => ?_) (fun c10 => ?_)
        · replace h := h.1 c10
          refine lv_iinc (v := (x3 + 1)) (lv' := [(5, .int (x3 + 1)), (0, .ref (a 0)), (2, .int p2), (3, .int r1)]) hx hb dX0_fitsLay_63 hl (k := 3) rfl rfl (by decide) rfl (fun ls hl => ?_)
          refine lv_goto (tgt := 45) hx hb dX0_fitsLay_66 (by decide) ?_
          exact w5 (x3 + 1) _ (lv_sub hl [1, 2, 3, 0] rfl) h
        · replace h := h.2 c10
          refine lv_iconst (v := (0 : Int32)) hx hb dX0_fitsLay_61 (by decide) ?_
          exact hQ bz0 h dX0_fitsLay_62
    · intro K4 w5 h
      exact w5 (p1 + (1 : Int32)) _ (lv_sub hl [3, 5, 2, 0] rfl) h
  · replace h := h.2 c2
    refine lv_iload hx hb dX0_fitsLay_17 (lv_at hl 0 rfl) ?_
    refine lv_iconst (v := (4 : Int32)) hx hb dX0_fitsLay_19 (by decide) ?_
    refine lv_icmp_ne (tgt := 38) hx hb dX0_fitsLay_20 (by decide) (fun c11 => ?_) (fun c11 => ?_)
    · replace h := h.1 c11
      refine lv_iconst (v := (0 : Int32)) hx hb dX0_fitsLay_38 (by decide) ?_
      exact hQ bz0 h dX0_fitsLay_39
    · replace h := h.2 c11
      refine lv_iload_n hx hb dX0_fitsLay_23 rfl (lv_at hl 1 rfl) ?_
      refine lv_bipush (v := (48 : Int32)) hx hb dX0_fitsLay_24 (by decide) ?_
      refine lv_bipush (v := (51 : Int32)) hx hb dX0_fitsLay_26 (by decide) ?_
      refine roNi (As := [.int r1, .int (48 : Int32), .int (51 : Int32)]) (rest := []) F (c_X3_isBetween l D cI cS cJ H0 r1 (48 : Int32) (51 : Int32) h) (cw_X0_51 hts (nw0 hK) (Nat.le_of_ble_eq_true rfl) (Nat.le_of_ble_eq_true rfl)) hK vP_nil rfl hl.1 rfl (Nat.le_of_ble_eq_true rfl) dX0_fitsLay_28 ⟨Nat.zero_le _, Nat.zero_le _⟩ (fun r12 h => ?_)
      obtain ⟨b13, h⟩ := h
      refine lv_if_eq (tgt := 38) hx hb dX0_fitsLay_31 (by decide) (fun c14 => ?_) (fun c14 => ?_)
      · replace h := h.1 c14
        refine lv_iconst (v := (0 : Int32)) hx hb dX0_fitsLay_38 (by decide) ?_
        exact hQ bz0 h dX0_fitsLay_39
      · replace h := h.2 c14
        refine lv_iconst (v := (1 : Int32)) hx hb dX0_fitsLay_34 (by decide) ?_
        refine lv_goto (tgt := 39) hx hb dX0_fitsLay_35 (by decide) ?_
        exact hQ bz1 h dX0_fitsLay_39

def wp_X0_fitsBody (u : Ot) (p1 : Int32) (p2 : Int32) (post : Int32 → Prop) : Prop :=
  wp_X0_codeAt u p2 (fun r1 => (¬ (p2 - p1) = (2 : Int32) → jn (fun (x3 : Int32) => ((6 : Int32) < (p2 - p1) → post (0 : Int32)) ∧ (¬ (6 : Int32) < (p2 - p1) → (¬ x3 = 0 → post (0 : Int32)) ∧ (x3 = 0 → wp_X3_isBetween r1 (48 : Int32) (57 : Int32) (fun r10 => (r10 = 0 → post (0 : Int32)) ∧ (¬ r10 = 0 → post (1 : Int32)))))) (fun (J5 : Int32 → Prop) => jn (J5 (0 : Int32)) (fun (J13 : Prop) => ((p2 - p1) ≤ (3 : Int32) → J13) ∧ (¬ (p2 - p1) ≤ (3 : Int32) → wp_X0_codeAt u (p1 + (3 : Int32)) (fun r17 => (¬ r17 = (48 : Int32) → J13) ∧ (r17 = (48 : Int32) → J5 (1 : Int32))))))) ∧ ((p2 - p1) = (2 : Int32) → (¬ r1 = (61 : Int32) → post (0 : Int32)) ∧ (r1 = (61 : Int32) → post (1 : Int32))))
set_option maxHeartbeats 4000000 in
set_option maxRecDepth 100000 in
theorem c_X0_fitsBody (l : Launch) (D : va_G) (cI cS cJ : ClassId) (a : Nat → Nat) (u : Ot) (H0 : Heap) (p1 : Int32) (p2 : Int32) {post : Int32 → Prop} (h : wp_X0_fitsBody u p1 p2 post) : Met l yX0_fitsBody (wsA yX0_fitsBody cX0_fitsBody 6 (some .boolean)) rm_X0_fitsBody (va_Pc [.ref (a 0), .int p1, .int p2] (roP D (tysA cI cS cJ) (otW cI a u) H0)) (va_Qi (fun r (_ : Unit) => bz r ∧ post r) (fun _ t => t.heap = H0) nF) 0 0 nF := by
  refine mkROz (by decide +kernel) (Nat.le_of_ble_eq_true rfl) (fun {p e s m args below meth c Q ls} hx hb F hts hown hK hP hl hQ => ?_)
  have hown : s.vm.findClass RX0 = some m.cls := hown
  have F : CallFix p m c cX0_fitsBody 6 s args wsT RX0 := F
  have hl : lv_has ls 6 [(0, .ref (a 0)), (1, .int p1), (2, .int p2)] := hl
  unfold wp_X0_fitsBody at h
  refine lv_aload_n hx hb dX0_fitsBody_0 rfl (lv_at hl 0 rfl) ?_
  refine lv_iload_n hx hb dX0_fitsBody_1 rfl (lv_at hl 2 rfl) ?_
  refine roVi (As := [.int p2]) (rest := []) F (c_X0_codeAt l D cI cS cJ a u H0 p2 h) (cw_X0_23 hts (Nat.le_of_ble_eq_true rfl) (Nat.le_of_ble_eq_true rfl)) hK hP (recv (ci := 0) (k0 := 0) hK hP rfl rfl) rfl hl.1 rfl (Nat.le_of_ble_eq_true rfl) dX0_fitsBody_2 ⟨Nat.zero_le _, Nat.zero_le _⟩ (fun r1 h => ?_)
  refine lv_istore_n (lv' := [(3, .int r1), (0, .ref (a 0)), (1, .int p1), (2, .int p2)]) hx hb dX0_fitsBody_5 rfl hl (by decide) rfl (fun ls hl => ?_)
  refine lv_iload_n hx hb dX0_fitsBody_6 rfl (lv_at hl 3 rfl) ?_
  refine lv_iload_n hx hb dX0_fitsBody_7 rfl (lv_at hl 2 rfl) ?_
  refine lv_isub hx hb dX0_fitsBody_8 ?_
  refine lv_istore (lv' := [(4, .int (p2 - p1)), (3, .int r1), (0, .ref (a 0)), (1, .int p1), (2, .int p2)]) hx hb dX0_fitsBody_9 hl (by decide) rfl (fun ls hl => ?_)
  refine lv_iload hx hb dX0_fitsBody_11 (lv_at hl 0 rfl) ?_
  refine lv_iconst (v := (2 : Int32)) hx hb dX0_fitsBody_13 (by decide) ?_
  refine lv_icmp_ne (tgt := 29) hx hb dX0_fitsBody_14 (by decide) (fun c2 => ?_) (fun c2 => ?_)
  · replace h := h.1 c2
    refine lv_iload hx hb dX0_fitsBody_29 (lv_at hl 0 rfl) ?_
    refine lv_iconst (v := (3 : Int32)) hx hb dX0_fitsBody_31 (by decide) ?_
    refine jn_e h (fun J5 e7 h => ?_)
    have w6 : ∀ (x3 : Int32) (ls : Array Slot), bz x3 → lv_has ls 6 [(3, .int r1), (4, .int (p2 - p1))] → J5 x3 → W p l e rm_X0_fitsBody s m args below meth c H0 [] 0 0 Q (F0 m 52 ls [.int x3]) := by
      intro x3 ls b4 hl h
      subst e7
      refine lv_istore (lv' := [(5, .int x3), (3, .int r1), (4, .int (p2 - p1))]) hx hb dX0_fitsBody_52 hl (by decide) rfl (fun ls hl => ?_)
      refine lv_iload hx hb dX0_fitsBody_54 (lv_at hl 2 rfl) ?_
      refine lv_bipush (v := (6 : Int32)) hx hb dX0_fitsBody_56 (by decide) ?_
      refine lv_icmp_gt (tgt := 81) hx hb dX0_fitsBody_58 (by decide) (fun c8 => ?_) (fun c8 => ?_)
      · replace h := h.1 c8
        refine lv_iconst (v := (0 : Int32)) hx hb dX0_fitsBody_81 (by decide) ?_
        exact hQ bz0 h dX0_fitsBody_82
      · replace h := h.2 c8
        refine lv_iload hx hb dX0_fitsBody_61 (lv_at hl 0 rfl) ?_
        refine lv_if_ne (tgt := 81) hx hb dX0_fitsBody_63 (by decide) (fun c9 => ?_) (fun c9 => ?_)
        · replace h := h.1 c9
          refine lv_iconst (v := (0 : Int32)) hx hb dX0_fitsBody_81 (by decide) ?_
          exact hQ bz0 h dX0_fitsBody_82
        · replace h := h.2 c9
          refine lv_iload_n hx hb dX0_fitsBody_66 rfl (lv_at hl 1 rfl) ?_
          refine lv_bipush (v := (48 : Int32)) hx hb dX0_fitsBody_67 (by decide) ?_
          refine lv_bipush (v := (57 : Int32)) hx hb dX0_fitsBody_69 (by decide) ?_
          refine roNi (As := [.int r1, .int (48 : Int32), .int (57 : Int32)]) (rest := []) F (c_X3_isBetween l D cI cS cJ H0 r1 (48 : Int32) (57 : Int32) h) (cw_X0_51 hts (nw0 hK) (Nat.le_of_ble_eq_true rfl) (Nat.le_of_ble_eq_true rfl)) hK vP_nil rfl hl.1 rfl (Nat.le_of_ble_eq_true rfl) dX0_fitsBody_71 ⟨Nat.zero_le _, Nat.zero_le _⟩ (fun r10 h => ?_)
          obtain ⟨b11, h⟩ := h
          refine lv_if_eq (tgt := 81) hx hb dX0_fitsBody_74 (by decide) (fun c12 => ?_) (fun c12 => ?_)
          · replace h := h.1 c12
            refine lv_iconst (v := (0 : Int32)) hx hb dX0_fitsBody_81 (by decide) ?_
            exact hQ bz0 h dX0_fitsBody_82
          · replace h := h.2 c12
            refine lv_iconst (v := (1 : Int32)) hx hb dX0_fitsBody_77 (by decide) ?_
            refine lv_goto (tgt := 82) hx hb dX0_fitsBody_78 (by decide) ?_
            exact hQ bz1 h dX0_fitsBody_82
    clear e7
    refine jn_e h (fun J13 e15 h => ?_)
    have w14 : ∀  (ls : Array Slot), lv_has ls 6 [(3, .int r1), (4, .int (p2 - p1))] → J13 → W p l e rm_X0_fitsBody s m args below meth c H0 [] 0 0 Q (F0 m 51 ls []) := by
      intro ls hl h
      subst e15
      refine lv_iconst (v := (0 : Int32)) hx hb dX0_fitsBody_51 (by decide) ?_
      exact w6 (0 : Int32) _ bz0 hl h
    clear e15
    refine lv_icmp_le (tgt := 51) hx hb dX0_fitsBody_32 (by decide) (fun c16 => ?_) (fun c16 => ?_)
    · replace h := h.1 c16
      exact w14 _ (lv_sub hl [1, 0] rfl) h
    · replace h := h.2 c16
      refine lv_aload_n hx hb dX0_fitsBody_35 rfl (lv_at hl 2 rfl) ?_
      refine lv_iload_n hx hb dX0_fitsBody_36 rfl (lv_at hl 3 rfl) ?_
      refine lv_iconst (v := (3 : Int32)) hx hb dX0_fitsBody_37 (by decide) ?_
      refine lv_iadd hx hb dX0_fitsBody_38 ?_
      refine roVi (As := [.int (p1 + (3 : Int32))]) (rest := []) F (c_X0_codeAt l D cI cS cJ a u H0 (p1 + (3 : Int32)) h) (cw_X0_23 hts (Nat.le_of_ble_eq_true rfl) (Nat.le_of_ble_eq_true rfl)) hK hP (recv (ci := 0) (k0 := 0) hK hP rfl rfl) rfl hl.1 rfl (Nat.le_of_ble_eq_true rfl) dX0_fitsBody_39 ⟨Nat.zero_le _, Nat.zero_le _⟩ (fun r17 h => ?_)
      refine lv_bipush (v := (48 : Int32)) hx hb dX0_fitsBody_42 (by decide) ?_
      refine lv_icmp_ne (tgt := 51) hx hb dX0_fitsBody_44 (by decide) (fun c18 => ?_) (fun c18 => ?_)
      · replace h := h.1 c18
        exact w14 _ (lv_sub hl [1, 0] rfl) h
      · replace h := h.2 c18
        refine lv_iconst (v := (1 : Int32)) hx hb dX0_fitsBody_47 (by decide) ?_
        refine lv_goto (tgt := 52) hx hb dX0_fitsBody_48 (by decide) ?_
        exact w6 (1 : Int32) _ bz1 (lv_sub hl [1, 0] rfl) h
  · replace h := h.2 c2
    refine lv_iload_n hx hb dX0_fitsBody_17 rfl (lv_at hl 1 rfl) ?_
    refine lv_bipush (v := (61 : Int32)) hx hb dX0_fitsBody_18 (by decide) ?_
    refine lv_icmp_ne (tgt := 27) hx hb dX0_fitsBody_20 (by decide) (fun c19 => ?_) (fun c19 => ?_)
    · replace h := h.1 c19
      refine lv_iconst (v := (0 : Int32)) hx hb dX0_fitsBody_27 (by decide) ?_
      exact hQ bz0 h dX0_fitsBody_28
    · replace h := h.2 c19
      refine lv_iconst (v := (1 : Int32)) hx hb dX0_fitsBody_23 (by decide) ?_
      refine lv_goto (tgt := 28) hx hb dX0_fitsBody_24 (by decide) ?_
      exact hQ bz1 h dX0_fitsBody_28

def wp_X0_fits (u : Ot) (p1 : Int32) (p2 : Int32) (post : Int32 → Prop) : Prop :=
  wp_X0_codeAt u p2 (fun r1 => (¬ (p2 - p1) = 0 → (¬ r1 = (59 : Int32) → wp_X0_codeAt u p1 (fun r4 => (r4 = 97 → (¬ (p2 - p1) = (1 : Int32) → wp_X0_fitsBody u p1 p2 (fun r7 => post r7)) ∧ ((p2 - p1) = (1 : Int32) → wp_X3_isBetween r1 (48 : Int32) (51 : Int32) (fun r9 => post r9))) ∧ (¬ r4 = 97 → (r4 = 114 → wp_X0_fitsLay u p1 p2 (fun r12 => post r12)) ∧ (¬ r4 = 114 → (r4 = 115 → (¬ (p2 - p1) = (1 : Int32) → wp_X0_fitsBody u p1 p2 (fun r16 => post r16)) ∧ ((p2 - p1) = (1 : Int32) → wp_X3_isBetween r1 (48 : Int32) (53 : Int32) (fun r18 => post r18))) ∧ (¬ r4 = 115 → (r4 = 116 → (¬ (p2 - p1) = (1 : Int32) → post (0 : Int32)) ∧ ((p2 - p1) = (1 : Int32) → wp_X3_isBetween r1 (49 : Int32) (57 : Int32) (fun r22 => (r22 = 0 → post (0 : Int32)) ∧ (¬ r22 = 0 → post (1 : Int32))))) ∧ (¬ r4 = 116 → (¬ (p2 - p1) = (1 : Int32) → post (0 : Int32)) ∧ ((p2 - p1) = (1 : Int32) → wp_X3_isBetween r1 (48 : Int32) (55 : Int32) (fun r26 => (r26 = 0 → post (0 : Int32)) ∧ (¬ r26 = 0 → post (1 : Int32)))))))))) ∧ (r1 = (59 : Int32) → wp_X0_endsOrder u p1 p2 (fun r29 => post r29))) ∧ ((p2 - p1) = 0 → wp_X0_isOrderSign r1 (fun r31 => post r31)))
set_option maxHeartbeats 4000000 in
set_option maxRecDepth 100000 in
theorem c_X0_fits (l : Launch) (D : va_G) (cI cS cJ : ClassId) (a : Nat → Nat) (u : Ot) (H0 : Heap) (p1 : Int32) (p2 : Int32) {post : Int32 → Prop} (h : wp_X0_fits u p1 p2 post) : Met l yX0_fits (wsA yX0_fits cX0_fits 5 (some .boolean)) rm_X0_fits (va_Pc [.ref (a 0), .int p1, .int p2] (roP D (tysA cI cS cJ) (otW cI a u) H0)) (va_Qi (fun r (_ : Unit) => bz r ∧ post r) (fun _ t => t.heap = H0) nF) 0 0 nF := by
  refine mkROz (by decide +kernel) (Nat.le_of_ble_eq_true rfl) (fun {p e s m args below meth c Q ls} hx hb F hts hown hK hP hl hQ => ?_)
  have hown : s.vm.findClass RX0 = some m.cls := hown
  have F : CallFix p m c cX0_fits 5 s args wsT RX0 := F
  have hl : lv_has ls 5 [(0, .ref (a 0)), (1, .int p1), (2, .int p2)] := hl
  unfold wp_X0_fits at h
  refine lv_aload_n hx hb dX0_fits_0 rfl (lv_at hl 0 rfl) ?_
  refine lv_iload_n hx hb dX0_fits_1 rfl (lv_at hl 2 rfl) ?_
  refine roVi (As := [.int p2]) (rest := []) F (c_X0_codeAt l D cI cS cJ a u H0 p2 h) (cw_X0_23 hts (Nat.le_of_ble_eq_true rfl) (Nat.le_of_ble_eq_true rfl)) hK hP (recv (ci := 0) (k0 := 0) hK hP rfl rfl) rfl hl.1 rfl (Nat.le_of_ble_eq_true rfl) dX0_fits_2 ⟨Nat.zero_le _, Nat.zero_le _⟩ (fun r1 h => ?_)
  refine lv_istore_n (lv' := [(3, .int r1), (0, .ref (a 0)), (1, .int p1), (2, .int p2)]) hx hb dX0_fits_5 rfl hl (by decide) rfl (fun ls hl => ?_)
  refine lv_iload_n hx hb dX0_fits_6 rfl (lv_at hl 3 rfl) ?_
  refine lv_iload_n hx hb dX0_fits_7 rfl (lv_at hl 2 rfl) ?_
  refine lv_isub hx hb dX0_fits_8 ?_
  refine lv_istore (lv' := [(4, .int (p2 - p1)), (3, .int r1), (0, .ref (a 0)), (1, .int p1), (2, .int p2)]) hx hb dX0_fits_9 hl (by decide) rfl (fun ls hl => ?_)
  refine lv_iload hx hb dX0_fits_11 (lv_at hl 0 rfl) ?_
  refine lv_if_ne (tgt := 21) hx hb dX0_fits_13 (by decide) (fun c2 => ?_) (fun c2 => ?_)
  · replace h := h.1 c2
    refine lv_iload_n hx hb dX0_fits_21 rfl (lv_at hl 1 rfl) ?_
    refine lv_bipush (v := (59 : Int32)) hx hb dX0_fits_22 (by decide) ?_
    refine lv_icmp_ne (tgt := 34) hx hb dX0_fits_24 (by decide) (fun c3 => ?_) (fun c3 => ?_)
    · replace h := h.1 c3
      refine lv_aload_n hx hb dX0_fits_34 rfl (lv_at hl 2 rfl) ?_
      refine lv_iload_n hx hb dX0_fits_35 rfl (lv_at hl 3 rfl) ?_
      refine roVi (As := [.int p1]) (rest := []) F (c_X0_codeAt l D cI cS cJ a u H0 p1 h) (cw_X0_23 hts (Nat.le_of_ble_eq_true rfl) (Nat.le_of_ble_eq_true rfl)) hK hP (recv (ci := 0) (k0 := 0) hK hP rfl rfl) rfl hl.1 rfl (Nat.le_of_ble_eq_true rfl) dX0_fits_36 ⟨Nat.zero_le _, Nat.zero_le _⟩ (fun r4 h => ?_)
      by_cases c5 : r4 = 97
      · replace h := h.1 c5
        refine lv_lookup (tgt := 111) hx hb dX0_fits_39 (by decide) (lk_hit c5 rfl) (by decide) ?_
        refine lv_iload hx hb dX0_fits_111 (lv_at hl 0 rfl) ?_
        refine lv_iconst (v := (1 : Int32)) hx hb dX0_fits_113 (by decide) ?_
        refine lv_icmp_ne (tgt := 128) hx hb dX0_fits_114 (by decide) (fun c6 => ?_) (fun c6 => ?_)
        · replace h := h.1 c6
          refine lv_aload_n hx hb dX0_fits_128 rfl (lv_at hl 2 rfl) ?_
          refine lv_iload_n hx hb dX0_fits_129 rfl (lv_at hl 3 rfl) ?_
          refine lv_iload_n hx hb dX0_fits_130 rfl (lv_at hl 4 rfl) ?_
          refine roVi (As := [.int p1, .int p2]) (rest := []) F (c_X0_fitsBody l D cI cS cJ a u H0 p1 p2 h) (cw_X0_55 hts (Nat.le_of_ble_eq_true rfl) (Nat.le_of_ble_eq_true rfl)) hK hP (recv (ci := 0) (k0 := 0) hK hP rfl rfl) rfl hl.1 rfl (Nat.le_of_ble_eq_true rfl) dX0_fits_131 ⟨Nat.zero_le _, Nat.zero_le _⟩ (fun r7 h => ?_)
          obtain ⟨b8, h⟩ := h
          exact hQ b8 h dX0_fits_134
        · replace h := h.2 c6
          refine lv_iload_n hx hb dX0_fits_117 rfl (lv_at hl 1 rfl) ?_
          refine lv_bipush (v := (48 : Int32)) hx hb dX0_fits_118 (by decide) ?_
          refine lv_bipush (v := (51 : Int32)) hx hb dX0_fits_120 (by decide) ?_
          refine roNi (As := [.int r1, .int (48 : Int32), .int (51 : Int32)]) (rest := []) F (c_X3_isBetween l D cI cS cJ H0 r1 (48 : Int32) (51 : Int32) h) (cw_X0_51 hts (nw0 hK) (Nat.le_of_ble_eq_true rfl) (Nat.le_of_ble_eq_true rfl)) hK vP_nil rfl hl.1 rfl (Nat.le_of_ble_eq_true rfl) dX0_fits_122 ⟨Nat.zero_le _, Nat.zero_le _⟩ (fun r9 h => ?_)
          obtain ⟨b10, h⟩ := h
          refine lv_goto (tgt := 134) hx hb dX0_fits_125 (by decide) ?_
          exact hQ b10 h dX0_fits_134
      replace h := h.2 c5
      by_cases c11 : r4 = 114
      · replace h := h.1 c11
        refine lv_lookup (tgt := 80) hx hb dX0_fits_39 (by decide) (lk_hit c11 rfl) (by decide) ?_
        refine lv_aload_n hx hb dX0_fits_80 rfl (lv_at hl 2 rfl) ?_
        refine lv_iload_n hx hb dX0_fits_81 rfl (lv_at hl 3 rfl) ?_
        refine lv_iload_n hx hb dX0_fits_82 rfl (lv_at hl 4 rfl) ?_
        refine roVi (As := [.int p1, .int p2]) (rest := []) F (c_X0_fitsLay l D cI cS cJ a u H0 p1 p2 h) (cw_X0_48 hts (Nat.le_of_ble_eq_true rfl) (Nat.le_of_ble_eq_true rfl)) hK hP (recv (ci := 0) (k0 := 0) hK hP rfl rfl) rfl hl.1 rfl (Nat.le_of_ble_eq_true rfl) dX0_fits_83 ⟨Nat.zero_le _, Nat.zero_le _⟩ (fun r12 h => ?_)
        obtain ⟨b13, h⟩ := h
        exact hQ b13 h dX0_fits_86
      replace h := h.2 c11
      by_cases c14 : r4 = 115
      · replace h := h.1 c14
        refine lv_lookup (tgt := 87) hx hb dX0_fits_39 (by decide) (lk_hit c14 rfl) (by decide) ?_
        refine lv_iload hx hb dX0_fits_87 (lv_at hl 0 rfl) ?_
        refine lv_iconst (v := (1 : Int32)) hx hb dX0_fits_89 (by decide) ?_
        refine lv_icmp_ne (tgt := 104) hx hb dX0_fits_90 (by decide) (fun c15 => ?_) (fun c15 => ?_)
        · replace h := h.1 c15
          refine lv_aload_n hx hb dX0_fits_104 rfl (lv_at hl 2 rfl) ?_
          refine lv_iload_n hx hb dX0_fits_105 rfl (lv_at hl 3 rfl) ?_
          refine lv_iload_n hx hb dX0_fits_106 rfl (lv_at hl 4 rfl) ?_
          refine roVi (As := [.int p1, .int p2]) (rest := []) F (c_X0_fitsBody l D cI cS cJ a u H0 p1 p2 h) (cw_X0_55 hts (Nat.le_of_ble_eq_true rfl) (Nat.le_of_ble_eq_true rfl)) hK hP (recv (ci := 0) (k0 := 0) hK hP rfl rfl) rfl hl.1 rfl (Nat.le_of_ble_eq_true rfl) dX0_fits_107 ⟨Nat.zero_le _, Nat.zero_le _⟩ (fun r16 h => ?_)
          obtain ⟨b17, h⟩ := h
          exact hQ b17 h dX0_fits_110
        · replace h := h.2 c15
          refine lv_iload_n hx hb dX0_fits_93 rfl (lv_at hl 1 rfl) ?_
          refine lv_bipush (v := (48 : Int32)) hx hb dX0_fits_94 (by decide) ?_
          refine lv_bipush (v := (53 : Int32)) hx hb dX0_fits_96 (by decide) ?_
          refine roNi (As := [.int r1, .int (48 : Int32), .int (53 : Int32)]) (rest := []) F (c_X3_isBetween l D cI cS cJ H0 r1 (48 : Int32) (53 : Int32) h) (cw_X0_51 hts (nw0 hK) (Nat.le_of_ble_eq_true rfl) (Nat.le_of_ble_eq_true rfl)) hK vP_nil rfl hl.1 rfl (Nat.le_of_ble_eq_true rfl) dX0_fits_98 ⟨Nat.zero_le _, Nat.zero_le _⟩ (fun r18 h => ?_)
          obtain ⟨b19, h⟩ := h
          refine lv_goto (tgt := 110) hx hb dX0_fits_101 (by decide) ?_
          exact hQ b19 h dX0_fits_110
      replace h := h.2 c14
      by_cases c20 : r4 = 116
      · replace h := h.1 c20
        refine lv_lookup (tgt := 135) hx hb dX0_fits_39 (by decide) (lk_hit c20 rfl) (by decide) ?_
        refine lv_iload hx hb dX0_fits_135 (lv_at hl 0 rfl) ?_
        refine lv_iconst (v := (1 : Int32)) hx hb dX0_fits_137 (by decide) ?_
        refine lv_icmp_ne (tgt := 156) hx hb dX0_fits_138 (by decide) (fun c21 => ?_) (fun c21 => ?_)
        · replace h := h.1 c21
          refine lv_iconst (v := (0 : Int32)) hx hb dX0_fits_156 (by decide) ?_
          exact hQ bz0 h dX0_fits_157
        · replace h := h.2 c21
          refine lv_iload_n hx hb dX0_fits_141 rfl (lv_at hl 1 rfl) ?_
          refine lv_bipush (v := (49 : Int32)) hx hb dX0_fits_142 (by decide) ?_
          refine lv_bipush (v := (57 : Int32)) hx hb dX0_fits_144 (by decide) ?_
          refine roNi (As := [.int r1, .int (49 : Int32), .int (57 : Int32)]) (rest := []) F (c_X3_isBetween l D cI cS cJ H0 r1 (49 : Int32) (57 : Int32) h) (cw_X0_51 hts (nw0 hK) (Nat.le_of_ble_eq_true rfl) (Nat.le_of_ble_eq_true rfl)) hK vP_nil rfl hl.1 rfl (Nat.le_of_ble_eq_true rfl) dX0_fits_146 ⟨Nat.zero_le _, Nat.zero_le _⟩ (fun r22 h => ?_)
          obtain ⟨b23, h⟩ := h
          refine lv_if_eq (tgt := 156) hx hb dX0_fits_149 (by decide) (fun c24 => ?_) (fun c24 => ?_)
          · replace h := h.1 c24
            refine lv_iconst (v := (0 : Int32)) hx hb dX0_fits_156 (by decide) ?_
            exact hQ bz0 h dX0_fits_157
          · replace h := h.2 c24
            refine lv_iconst (v := (1 : Int32)) hx hb dX0_fits_152 (by decide) ?_
            refine lv_goto (tgt := 157) hx hb dX0_fits_153 (by decide) ?_
            exact hQ bz1 h dX0_fits_157
      replace h := h.2 c20
      refine lv_lookup (tgt := 158) hx hb dX0_fits_39 (by decide) (lk_c (lk_d c5 rfl) (lk_c (lk_d c11 rfl) (lk_c (lk_d c14 rfl) (lk_c (lk_d c20 rfl) (lk_n))))) (by decide) ?_
      refine lv_iload hx hb dX0_fits_158 (lv_at hl 0 rfl) ?_
      refine lv_iconst (v := (1 : Int32)) hx hb dX0_fits_160 (by decide) ?_
      refine lv_icmp_ne (tgt := 179) hx hb dX0_fits_161 (by decide) (fun c25 => ?_) (fun c25 => ?_)
      · replace h := h.1 c25
        refine lv_iconst (v := (0 : Int32)) hx hb dX0_fits_179 (by decide) ?_
        exact hQ bz0 h dX0_fits_180
      · replace h := h.2 c25
        refine lv_iload_n hx hb dX0_fits_164 rfl (lv_at hl 1 rfl) ?_
        refine lv_bipush (v := (48 : Int32)) hx hb dX0_fits_165 (by decide) ?_
        refine lv_bipush (v := (55 : Int32)) hx hb dX0_fits_167 (by decide) ?_
        refine roNi (As := [.int r1, .int (48 : Int32), .int (55 : Int32)]) (rest := []) F (c_X3_isBetween l D cI cS cJ H0 r1 (48 : Int32) (55 : Int32) h) (cw_X0_51 hts (nw0 hK) (Nat.le_of_ble_eq_true rfl) (Nat.le_of_ble_eq_true rfl)) hK vP_nil rfl hl.1 rfl (Nat.le_of_ble_eq_true rfl) dX0_fits_169 ⟨Nat.zero_le _, Nat.zero_le _⟩ (fun r26 h => ?_)
        obtain ⟨b27, h⟩ := h
        refine lv_if_eq (tgt := 179) hx hb dX0_fits_172 (by decide) (fun c28 => ?_) (fun c28 => ?_)
        · replace h := h.1 c28
          refine lv_iconst (v := (0 : Int32)) hx hb dX0_fits_179 (by decide) ?_
          exact hQ bz0 h dX0_fits_180
        · replace h := h.2 c28
          refine lv_iconst (v := (1 : Int32)) hx hb dX0_fits_175 (by decide) ?_
          refine lv_goto (tgt := 180) hx hb dX0_fits_176 (by decide) ?_
          exact hQ bz1 h dX0_fits_180
    · replace h := h.2 c3
      refine lv_aload_n hx hb dX0_fits_27 rfl (lv_at hl 2 rfl) ?_
      refine lv_iload_n hx hb dX0_fits_28 rfl (lv_at hl 3 rfl) ?_
      refine lv_iload_n hx hb dX0_fits_29 rfl (lv_at hl 4 rfl) ?_
      refine roVi (As := [.int p1, .int p2]) (rest := []) F (c_X0_endsOrder l D cI cS cJ a u H0 p1 p2 h) (cw_X0_41 hts (Nat.le_of_ble_eq_true rfl) (Nat.le_of_ble_eq_true rfl)) hK hP (recv (ci := 0) (k0 := 0) hK hP rfl rfl) rfl hl.1 rfl (Nat.le_of_ble_eq_true rfl) dX0_fits_30 ⟨Nat.zero_le _, Nat.zero_le _⟩ (fun r29 h => ?_)
      obtain ⟨b30, h⟩ := h
      exact hQ b30 h dX0_fits_33
  · replace h := h.2 c2
    refine lv_iload_n hx hb dX0_fits_16 rfl (lv_at hl 1 rfl) ?_
    refine roSi (As := [.int r1]) (rest := []) F (c_X0_isOrderSign l D cI cS cJ H0 r1 h) (cw_X0_44 hts (Nat.le_of_ble_eq_true rfl) (Nat.le_of_ble_eq_true rfl)) hK vP_nil rfl hl.1 rfl (Nat.le_of_ble_eq_true rfl) dX0_fits_17 ⟨Nat.zero_le _, Nat.zero_le _⟩ (fun r31 h => ?_)
    obtain ⟨b32, h⟩ := h
    exact hQ b32 h dX0_fits_20

def wp_X0_errorIndex (u : Ot)  (post : Int32 → Prop) : Prop :=
  LP2 (fun (K3 : Int32 → Int32 → Prop) (x1 : Int32) (x2 : Int32) => ((O_length u) ≤ x2 → post (O_length u)) ∧ (¬ (O_length u) ≤ x2 → wp_X0_fits u x1 x2 (fun r6 => (¬ r6 = 0 → wp_X0_codeAt u x2 (fun r9 => (¬ r9 = (59 : Int32) → K3 x1 (x2 + 1)) ∧ (r9 = (59 : Int32) → K3 (x2 + (1 : Int32)) (x2 + 1)))) ∧ (r6 = 0 → post x2)))) (0 : Int32) (0 : Int32)
set_option maxHeartbeats 4000000 in
set_option maxRecDepth 100000 in
theorem c_X0_errorIndex (l : Launch) (D : va_G) (cI cS cJ : ClassId) (a : Nat → Nat) (u : Ot) (H0 : Heap)  {post : Int32 → Prop} (h : wp_X0_errorIndex u post) : Met l yX0_errorIndex (wsA yX0_errorIndex cX0_errorIndex 3 (some .int)) rm_X0_errorIndex (va_Pc [.ref (a 0)] (roP D (tysA cI cS cJ) (otW cI a u) H0)) (va_Qi (fun r (_ : Unit) => post r) (fun _ t => t.heap = H0) nF) 0 0 nF := by
  refine mkROi (by decide +kernel) (Nat.le_of_ble_eq_true rfl) (fun {p e s m args below meth c Q ls} hx hb F hts hown hK hP hl hQ => ?_)
  have hown : s.vm.findClass RX0 = some m.cls := hown
  have F : CallFix p m c cX0_errorIndex 3 s args wsT RX0 := F
  have hl : lv_has ls 3 [(0, .ref (a 0))] := hl
  unfold wp_X0_errorIndex at h
  refine lv_iconst (v := (0 : Int32)) hx hb dX0_errorIndex_0 (by decide) ?_
  refine lv_istore_n (lv' := [(1, .int (0 : Int32)), (0, .ref (a 0))]) hx hb dX0_errorIndex_1 rfl hl (by decide) rfl (fun ls hl => ?_)
  refine lv_iconst (v := (0 : Int32)) hx hb dX0_errorIndex_2 (by decide) ?_
  refine lv_istore_n (lv' := [(2, .int (0 : Int32)), (1, .int (0 : Int32)), (0, .ref (a 0))]) hx hb dX0_errorIndex_3 rfl hl (by decide) rfl (fun ls hl => ?_)
  refine lpu2 h (fun K3 : Int32 → Int32 → Prop => ∀ (x1 : Int32) (x2 : Int32) (ls : Array Slot), lv_has ls 3 [(0, .ref (a 0)), (1, .int x1), (2, .int x2)] → K3 x1 x2 → W p l e rm_X0_errorIndex s m args below meth c H0 [] 0 0 Q (F0 m 4 ls [])) ?_ ?_ ?_
  · intro x1 x2 ls hl h
    exact h.elim
  · intro K3
    intro w4 x1 x2 ls hl h
    refine lv_iload_n hx hb dX0_errorIndex_4 rfl (lv_at hl 2 rfl) ?_
    refine lv_aload_n hx hb dX0_errorIndex_5 rfl (lv_at hl 0 rfl) ?_
    refine va_get (D := D) (ci := 0) (v := .int (O_length u)) (C := RX0) (T := TX0) (N := 2) hx hb hts inT0 hown hK.k hP 0 rfl rfl 1 (by decide) (hts _ q_181) (fun _ h9 => h9) rfl dX0_errorIndex_6 ?_
    refine lv_icmp_ge (tgt := 43) hx hb dX0_errorIndex_9 (by decide) (fun c5 => ?_) (fun c5 => ?_)
    · replace h := h.1 c5
      refine lv_aload_n hx hb dX0_errorIndex_43 rfl (lv_at hl 0 rfl) ?_
      refine va_get (D := D) (ci := 0) (v := .int (O_length u)) (C := RX0) (T := TX0) (N := 2) hx hb hts inT0 hown hK.k hP 0 rfl rfl 1 (by decide) (hts _ q_181) (fun _ h9 => h9) rfl dX0_errorIndex_44 ?_
      exact hQ h dX0_errorIndex_47
    · replace h := h.2 c5
      refine lv_aload_n hx hb dX0_errorIndex_12 rfl (lv_at hl 0 rfl) ?_
      refine lv_iload_n hx hb dX0_errorIndex_13 rfl (lv_at hl 1 rfl) ?_
      refine lv_iload_n hx hb dX0_errorIndex_14 rfl (lv_at hl 2 rfl) ?_
      refine roVi (As := [.int x1, .int x2]) (rest := []) F (c_X0_fits l D cI cS cJ a u H0 x1 x2 h) (cw_X0_30 hts (Nat.le_of_ble_eq_true rfl) (Nat.le_of_ble_eq_true rfl)) hK hP (recv (ci := 0) (k0 := 0) hK hP rfl rfl) rfl hl.1 rfl (Nat.le_of_ble_eq_true rfl) dX0_errorIndex_15 ⟨Nat.zero_le _, Nat.zero_le _⟩ (fun r6 h => ?_)
      obtain ⟨b7, h⟩ := h
      refine lv_if_ne (tgt := 23) hx hb dX0_errorIndex_18 (by decide) (fun c8 => ?_) (fun c8 => ?_)
      · replace h := h.1 c8
        refine lv_aload_n hx hb dX0_errorIndex_23 rfl (lv_at hl 0 rfl) ?_
        refine lv_iload_n hx hb dX0_errorIndex_24 rfl (lv_at hl 2 rfl) ?_
        refine roVi (As := [.int x2]) (rest := []) F (c_X0_codeAt l D cI cS cJ a u H0 x2 h) (cw_X0_23 hts (Nat.le_of_ble_eq_true rfl) (Nat.le_of_ble_eq_true rfl)) hK hP (recv (ci := 0) (k0 := 0) hK hP rfl rfl) rfl hl.1 rfl (Nat.le_of_ble_eq_true rfl) dX0_errorIndex_25 ⟨Nat.zero_le _, Nat.zero_le _⟩ (fun r9 h => ?_)
        refine lv_bipush (v := (59 : Int32)) hx hb dX0_errorIndex_28 (by decide) ?_
        refine lv_icmp_ne (tgt := 37) hx hb dX0_errorIndex_30 (by decide) (fun c10 => ?_) (fun c10 => ?_)
        · replace h := h.1 c10
          refine lv_iinc (v := (x2 + 1)) (lv' := [(2, .int (x2 + 1)), (0, .ref (a 0)), (1, .int x1)]) hx hb dX0_errorIndex_37 hl (k := 2) rfl rfl (by decide) rfl (fun ls hl => ?_)
          refine lv_goto (tgt := 4) hx hb dX0_errorIndex_40 (by decide) ?_
          exact w4 x1 (x2 + 1) _ (lv_sub hl [1, 2, 0] rfl) h
        · replace h := h.2 c10
          refine lv_iload_n hx hb dX0_errorIndex_33 rfl (lv_at hl 2 rfl) ?_
          refine lv_iconst (v := (1 : Int32)) hx hb dX0_errorIndex_34 (by decide) ?_
          refine lv_iadd hx hb dX0_errorIndex_35 ?_
          refine lv_istore_n (lv' := [(1, .int (x2 + (1 : Int32))), (0, .ref (a 0)), (2, .int x2)]) hx hb dX0_errorIndex_36 rfl hl (by decide) rfl (fun ls hl => ?_)
          refine lv_iinc (v := (x2 + 1)) (lv' := [(2, .int (x2 + 1)), (1, .int (x2 + (1 : Int32))), (0, .ref (a 0))]) hx hb dX0_errorIndex_37 hl (k := 2) rfl rfl (by decide) rfl (fun ls hl => ?_)
          refine lv_goto (tgt := 4) hx hb dX0_errorIndex_40 (by decide) ?_
          exact w4 (x2 + (1 : Int32)) (x2 + 1) _ (lv_sub hl [2, 1, 0] rfl) h
      · replace h := h.2 c8
        refine lv_iload_n hx hb dX0_errorIndex_21 rfl (lv_at hl 2 rfl) ?_
        exact hQ h dX0_errorIndex_22
  · intro K3 w4 h
    exact w4 (0 : Int32) (0 : Int32) _ (lv_sub hl [2, 1, 0] rfl) h

def wp_X0_lastStart (u : Ot)  (post : Int32 → Prop) : Prop :=
  LP2 (fun (K3 : Int32 → Int32 → Prop) (x1 : Int32) (x2 : Int32) => ((O_length u) ≤ x2 → post x1) ∧ (¬ (O_length u) ≤ x2 → wp_X0_codeAt u x2 (fun r6 => (¬ r6 = (59 : Int32) → K3 x1 (x2 + 1)) ∧ (r6 = (59 : Int32) → K3 (x2 + (1 : Int32)) (x2 + 1))))) (0 : Int32) (0 : Int32)
set_option maxHeartbeats 4000000 in
set_option maxRecDepth 100000 in
theorem c_X0_lastStart (l : Launch) (D : va_G) (cI cS cJ : ClassId) (a : Nat → Nat) (u : Ot) (H0 : Heap)  {post : Int32 → Prop} (h : wp_X0_lastStart u post) : Met l yX0_lastStart (wsA yX0_lastStart cX0_lastStart 3 (some .int)) rm_X0_lastStart (va_Pc [.ref (a 0)] (roP D (tysA cI cS cJ) (otW cI a u) H0)) (va_Qi (fun r (_ : Unit) => post r) (fun _ t => t.heap = H0) nF) 0 0 nF := by
  refine mkROi (by decide +kernel) (Nat.le_of_ble_eq_true rfl) (fun {p e s m args below meth c Q ls} hx hb F hts hown hK hP hl hQ => ?_)
  have hown : s.vm.findClass RX0 = some m.cls := hown
  have F : CallFix p m c cX0_lastStart 3 s args wsT RX0 := F
  have hl : lv_has ls 3 [(0, .ref (a 0))] := hl
  unfold wp_X0_lastStart at h
  refine lv_iconst (v := (0 : Int32)) hx hb dX0_lastStart_0 (by decide) ?_
  refine lv_istore_n (lv' := [(1, .int (0 : Int32)), (0, .ref (a 0))]) hx hb dX0_lastStart_1 rfl hl (by decide) rfl (fun ls hl => ?_)
  refine lv_iconst (v := (0 : Int32)) hx hb dX0_lastStart_2 (by decide) ?_
  refine lv_istore_n (lv' := [(2, .int (0 : Int32)), (1, .int (0 : Int32)), (0, .ref (a 0))]) hx hb dX0_lastStart_3 rfl hl (by decide) rfl (fun ls hl => ?_)
  refine lpu2 h (fun K3 : Int32 → Int32 → Prop => ∀ (x1 : Int32) (x2 : Int32) (ls : Array Slot), lv_has ls 3 [(0, .ref (a 0)), (1, .int x1), (2, .int x2)] → K3 x1 x2 → W p l e rm_X0_lastStart s m args below meth c H0 [] 0 0 Q (F0 m 4 ls [])) ?_ ?_ ?_
  · intro x1 x2 ls hl h
    exact h.elim
  · intro K3
    intro w4 x1 x2 ls hl h
    refine lv_iload_n hx hb dX0_lastStart_4 rfl (lv_at hl 2 rfl) ?_
    refine lv_aload_n hx hb dX0_lastStart_5 rfl (lv_at hl 0 rfl) ?_
    refine va_get (D := D) (ci := 0) (v := .int (O_length u)) (C := RX0) (T := TX0) (N := 2) hx hb hts inT0 hown hK.k hP 0 rfl rfl 1 (by decide) (hts _ q_181) (fun _ h9 => h9) rfl dX0_lastStart_6 ?_
    refine lv_icmp_ge (tgt := 32) hx hb dX0_lastStart_9 (by decide) (fun c5 => ?_) (fun c5 => ?_)
    · replace h := h.1 c5
      refine lv_iload_n hx hb dX0_lastStart_32 rfl (lv_at hl 1 rfl) ?_
      exact hQ h dX0_lastStart_33
    · replace h := h.2 c5
      refine lv_aload_n hx hb dX0_lastStart_12 rfl (lv_at hl 0 rfl) ?_
      refine lv_iload_n hx hb dX0_lastStart_13 rfl (lv_at hl 2 rfl) ?_
      refine roVi (As := [.int x2]) (rest := []) F (c_X0_codeAt l D cI cS cJ a u H0 x2 h) (cw_X0_23 hts (Nat.le_of_ble_eq_true rfl) (Nat.le_of_ble_eq_true rfl)) hK hP (recv (ci := 0) (k0 := 0) hK hP rfl rfl) rfl hl.1 rfl (Nat.le_of_ble_eq_true rfl) dX0_lastStart_14 ⟨Nat.zero_le _, Nat.zero_le _⟩ (fun r6 h => ?_)
      refine lv_bipush (v := (59 : Int32)) hx hb dX0_lastStart_17 (by decide) ?_
      refine lv_icmp_ne (tgt := 26) hx hb dX0_lastStart_19 (by decide) (fun c7 => ?_) (fun c7 => ?_)
      · replace h := h.1 c7
        refine lv_iinc (v := (x2 + 1)) (lv' := [(2, .int (x2 + 1)), (0, .ref (a 0)), (1, .int x1)]) hx hb dX0_lastStart_26 hl (k := 2) rfl rfl (by decide) rfl (fun ls hl => ?_)
        refine lv_goto (tgt := 4) hx hb dX0_lastStart_29 (by decide) ?_
        exact w4 x1 (x2 + 1) _ (lv_sub hl [1, 2, 0] rfl) h
      · replace h := h.2 c7
        refine lv_iload_n hx hb dX0_lastStart_22 rfl (lv_at hl 2 rfl) ?_
        refine lv_iconst (v := (1 : Int32)) hx hb dX0_lastStart_23 (by decide) ?_
        refine lv_iadd hx hb dX0_lastStart_24 ?_
        refine lv_istore_n (lv' := [(1, .int (x2 + (1 : Int32))), (0, .ref (a 0)), (2, .int x2)]) hx hb dX0_lastStart_25 rfl hl (by decide) rfl (fun ls hl => ?_)
        refine lv_iinc (v := (x2 + 1)) (lv' := [(2, .int (x2 + 1)), (1, .int (x2 + (1 : Int32))), (0, .ref (a 0))]) hx hb dX0_lastStart_26 hl (k := 2) rfl rfl (by decide) rfl (fun ls hl => ?_)
        refine lv_goto (tgt := 4) hx hb dX0_lastStart_29 (by decide) ?_
        exact w4 (x2 + (1 : Int32)) (x2 + 1) _ (lv_sub hl [2, 1, 0] rfl) h
  · intro K3 w4 h
    exact w4 (0 : Int32) (0 : Int32) _ (lv_sub hl [2, 1, 0] rfl) h

def wp_X0_isComplete (u : Ot)  (post : Int32 → Prop) : Prop :=
  wp_X0_errorIndex u (fun r1 => (¬ r1 = (O_length u) → post (0 : Int32)) ∧ (r1 = (O_length u) → wp_X0_lastStart u (fun r3 => wp_X0_endsOrder u r3 (O_length u) (fun r4 => (r4 = 0 → post (0 : Int32)) ∧ (¬ r4 = 0 → post (1 : Int32))))))
set_option maxHeartbeats 4000000 in
set_option maxRecDepth 100000 in
theorem c_X0_isComplete (l : Launch) (D : va_G) (cI cS cJ : ClassId) (a : Nat → Nat) (u : Ot) (H0 : Heap)  {post : Int32 → Prop} (h : wp_X0_isComplete u post) : Met l yX0_isComplete (wsA yX0_isComplete cX0_isComplete 1 (some .boolean)) rm_X0_isComplete (va_Pc [.ref (a 0)] (roP D (tysA cI cS cJ) (otW cI a u) H0)) (va_Qi (fun r (_ : Unit) => bz r ∧ post r) (fun _ t => t.heap = H0) nF) 0 0 nF := by
  refine mkROz (by decide +kernel) (Nat.le_of_ble_eq_true rfl) (fun {p e s m args below meth c Q ls} hx hb F hts hown hK hP hl hQ => ?_)
  have hown : s.vm.findClass RX0 = some m.cls := hown
  have F : CallFix p m c cX0_isComplete 1 s args wsT RX0 := F
  have hl : lv_has ls 1 [(0, .ref (a 0))] := hl
  unfold wp_X0_isComplete at h
  refine lv_aload_n hx hb dX0_isComplete_0 rfl (lv_at hl 0 rfl) ?_
  refine roVi (As := []) (rest := []) F (c_X0_errorIndex l D cI cS cJ a u H0  h) (cw_X0_34 hts (Nat.le_of_ble_eq_true rfl) (Nat.le_of_ble_eq_true rfl)) hK hP (recv (ci := 0) (k0 := 0) hK hP rfl rfl) rfl hl.1 rfl (Nat.le_of_ble_eq_true rfl) dX0_isComplete_1 ⟨Nat.zero_le _, Nat.zero_le _⟩ (fun r1 h => ?_)
  refine lv_aload_n hx hb dX0_isComplete_4 rfl (lv_at hl 0 rfl) ?_
  refine va_get (D := D) (ci := 0) (v := .int (O_length u)) (C := RX0) (T := TX0) (N := 2) hx hb hts inT0 hown hK.k hP 0 rfl rfl 1 (by decide) (hts _ q_181) (fun _ h9 => h9) rfl dX0_isComplete_5 ?_
  refine lv_icmp_ne (tgt := 30) hx hb dX0_isComplete_8 (by decide) (fun c2 => ?_) (fun c2 => ?_)
  · replace h := h.1 c2
    refine lv_iconst (v := (0 : Int32)) hx hb dX0_isComplete_30 (by decide) ?_
    exact hQ bz0 h dX0_isComplete_31
  · replace h := h.2 c2
    refine lv_aload_n hx hb dX0_isComplete_11 rfl (lv_at hl 0 rfl) ?_
    refine lv_aload_n hx hb dX0_isComplete_12 rfl (lv_at hl 0 rfl) ?_
    refine roVi (As := []) (rest := [.ref (a 0)]) F (c_X0_lastStart l D cI cS cJ a u H0  h) (cw_X0_38 hts (Nat.le_of_ble_eq_true rfl) (Nat.le_of_ble_eq_true rfl)) hK hP (recv (ci := 0) (k0 := 0) hK hP rfl rfl) rfl hl.1 rfl (Nat.le_of_ble_eq_true rfl) dX0_isComplete_13 ⟨Nat.zero_le _, Nat.zero_le _⟩ (fun r3 h => ?_)
    refine lv_aload_n hx hb dX0_isComplete_16 rfl (lv_at hl 0 rfl) ?_
    refine va_get (D := D) (ci := 0) (v := .int (O_length u)) (C := RX0) (T := TX0) (N := 2) hx hb hts inT0 hown hK.k hP 0 rfl rfl 1 (by decide) (hts _ q_181) (fun _ h9 => h9) rfl dX0_isComplete_17 ?_
    refine roVi (As := [.int r3, .int (O_length u)]) (rest := []) F (c_X0_endsOrder l D cI cS cJ a u H0 r3 (O_length u) h) (cw_X0_41 hts (Nat.le_of_ble_eq_true rfl) (Nat.le_of_ble_eq_true rfl)) hK hP (recv (ci := 0) (k0 := 0) hK hP rfl rfl) rfl hl.1 rfl (Nat.le_of_ble_eq_true rfl) dX0_isComplete_20 ⟨Nat.zero_le _, Nat.zero_le _⟩ (fun r4 h => ?_)
    obtain ⟨b5, h⟩ := h
    refine lv_if_eq (tgt := 30) hx hb dX0_isComplete_23 (by decide) (fun c6 => ?_) (fun c6 => ?_)
    · replace h := h.1 c6
      refine lv_iconst (v := (0 : Int32)) hx hb dX0_isComplete_30 (by decide) ?_
      exact hQ bz0 h dX0_isComplete_31
    · replace h := h.2 c6
      refine lv_iconst (v := (1 : Int32)) hx hb dX0_isComplete_26 (by decide) ?_
      refine lv_goto (tgt := 31) hx hb dX0_isComplete_27 (by decide) ?_
      exact hQ bz1 h dX0_isComplete_31
