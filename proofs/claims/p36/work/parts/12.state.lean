def wp_X2_isInMask  (p0 : Int32) (p1 : Int32) (post : Int32 → Prop) : Prop :=
  (((p0 >>> (p1 &&& 31)) &&& (1 : Int32)) = 0 → post (0 : Int32)) ∧ (¬ ((p0 >>> (p1 &&& 31)) &&& (1 : Int32)) = 0 → post (1 : Int32))
set_option maxHeartbeats 4000000 in
set_option maxRecDepth 100000 in
theorem c_X2_isInMask (l : Launch) (D : va_G) (cI cS cJ : ClassId)  (H0 : Heap) (p0 : Int32) (p1 : Int32) {post : Int32 → Prop} (h : wp_X2_isInMask p0 p1 post) : Met l yX2_isInMask (wsA yX2_isInMask cX2_isInMask 2 (some .boolean)) rm_X2_isInMask (va_Pc [.int p0, .int p1] (roP D (tysA cI cS cJ) ([]) H0)) (va_Qi (fun r (_ : Unit) => bz r ∧ post r) (fun _ t => t.heap = H0) nF) 0 0 nF := by
  refine mkROz (by decide +kernel) (Nat.le_of_ble_eq_true rfl) (fun {p e s m args below meth c Q ls} hx hb F hts hown hK hP hl hQ => ?_)
  have hown : s.vm.findClass RX2 = some m.cls := hown
  have F : CallFix p m c cX2_isInMask 2 s args wsT RX2 := F
  have hl : lv_has ls 2 [(0, .int p0), (1, .int p1)] := hl
  unfold wp_X2_isInMask at h
  refine lv_iload_n hx hb dX2_isInMask_0 rfl (lv_at hl 0 rfl) ?_
  refine lv_iload_n hx hb dX2_isInMask_1 rfl (lv_at hl 1 rfl) ?_
  refine lv_ishr hx hb dX2_isInMask_2 ?_
  refine lv_iconst (v := (1 : Int32)) hx hb dX2_isInMask_3 (by decide) ?_
  refine lv_iand hx hb dX2_isInMask_4 ?_
  refine lv_if_eq (tgt := 12) hx hb dX2_isInMask_5 (by decide) (fun c1 => ?_) (fun c1 => ?_)
  · replace h := h.1 c1
    refine lv_iconst (v := (0 : Int32)) hx hb dX2_isInMask_12 (by decide) ?_
    exact hQ bz0 h dX2_isInMask_13
  · replace h := h.2 c1
    refine lv_iconst (v := (1 : Int32)) hx hb dX2_isInMask_8 (by decide) ?_
    refine lv_goto (tgt := 13) hx hb dX2_isInMask_9 (by decide) ?_
    exact hQ bz1 h dX2_isInMask_13

def wp_X2_hasOpen (u : St) (p1 : Int32) (post : Int32 → Prop) : Prop :=
  wp_X2_isInMask (S_openMask u) p1 (fun r1 => post r1)
set_option maxHeartbeats 4000000 in
set_option maxRecDepth 100000 in
theorem c_X2_hasOpen (l : Launch) (D : va_G) (cI cS cJ : ClassId) (a : Nat → Nat) (u : St) (H0 : Heap) (p1 : Int32) {post : Int32 → Prop} (h : wp_X2_hasOpen u p1 post) : Met l yX2_hasOpen (wsA yX2_hasOpen cX2_hasOpen 2 (some .boolean)) rm_X2_hasOpen (va_Pc [.ref (a 0), .int p1] (roP D (tysA cI cS cJ) (stW cI a u) H0)) (va_Qi (fun r (_ : Unit) => bz r ∧ post r) (fun _ t => t.heap = H0) nF) 0 0 nF := by
  refine mkROz (by decide +kernel) (Nat.le_of_ble_eq_true rfl) (fun {p e s m args below meth c Q ls} hx hb F hts hown hK hP hl hQ => ?_)
  have hown : s.vm.findClass RX2 = some m.cls := hown
  have F : CallFix p m c cX2_hasOpen 2 s args wsT RX2 := F
  have hl : lv_has ls 2 [(0, .ref (a 0)), (1, .int p1)] := hl
  unfold wp_X2_hasOpen at h
  refine lv_aload_n hx hb dX2_hasOpen_0 rfl (lv_at hl 0 rfl) ?_
  refine va_get (D := D) (ci := 2) (v := .int (S_openMask u)) (C := RX2) (T := TX2) (N := 12) hx hb hts inT2 hown hK.k hP 0 rfl rfl 0 (by decide) (hts _ q_53) (fun _ h9 => h9) rfl dX2_hasOpen_1 ?_
  refine lv_iload_n hx hb dX2_hasOpen_4 rfl (lv_at hl 1 rfl) ?_
  refine roSi (As := [.int (S_openMask u), .int p1]) (rest := []) F (c_X2_isInMask l D cI cS cJ H0 (S_openMask u) p1 h) (cw_X2_59 hts (Nat.le_of_ble_eq_true rfl) (Nat.le_of_ble_eq_true rfl)) hK vP_nil rfl hl.1 rfl (Nat.le_of_ble_eq_true rfl) dX2_hasOpen_5 ⟨Nat.zero_le _, Nat.zero_le _⟩ (fun r1 h => ?_)
  obtain ⟨b2, h⟩ := h
  exact hQ b2 h dX2_hasOpen_8

def wp_X2_turn (u : St) (p1 : Int32) (p2 : Int32) (post : St → Prop) : Prop :=
  jn (fun (x1 : Int32) => post (sS_openMask u x1)) (fun (J2 : Int32 → Prop) => (p2 = 0 → J2 ((S_openMask u) &&& (((1 : Int32) <<< (p1 &&& 31)) ^^^ (-1 : Int32)))) ∧ (¬ p2 = 0 → J2 ((S_openMask u) ||| ((1 : Int32) <<< (p1 &&& 31)))))
set_option maxHeartbeats 4000000 in
set_option maxRecDepth 100000 in
theorem c_X2_turn (l : Launch) (D : va_G) (cI cS cJ : ClassId) (a : Nat → Nat) (u : St) (sz : Nat) (p1 : Int32) (p2 : Int32) {post : St → Prop} (h : wp_X2_turn u p1 p2 post) : Met l yX2_turn (wsA yX2_turn cX2_turn 4 none) rm_X2_turn (va_Pc [.ref (a 0), .int p1, .int p2] (rwP D (tysA cI cS cJ) (stW cI a u) sz)) (va_Qv post (fun u9 t => va_P D vwCl ((stW cI a) u9) t.heap ∧ va_D (va_A (stW cI a u) sz) ((stW cI a) u9)) (va_A (stW cI a u) sz)) 0 0 (va_A (stW cI a u) sz) := by
  refine mkRWv (wf := (stW cI a)) (by decide +kernel) (Nat.le_of_ble_eq_true rfl) (fun {p e s m args below meth c Q ls A H0 H locs} hx hb F hts hown hin hK hP hD hS hA hl hQ => ?_)
  have hown : s.vm.findClass RX2 = some m.cls := hown
  have F : CallFix p m c cX2_turn 4 s args wsT RX2 := F
  have hl : lv_has ls 4 [(0, .ref (a 0)), (1, .int p1), (2, .int p2)] := hl
  unfold wp_X2_turn at h
  refine lv_iconst (v := (1 : Int32)) hx hb dX2_turn_0 (by decide) ?_
  refine lv_iload_n hx hb dX2_turn_1 rfl (lv_at hl 1 rfl) ?_
  refine lv_ishl hx hb dX2_turn_2 ?_
  refine lv_istore_n (lv' := [(3, .int ((1 : Int32) <<< (p1 &&& 31))), (0, .ref (a 0)), (1, .int p1), (2, .int p2)]) hx hb dX2_turn_3 rfl hl (by decide) rfl (fun ls hl => ?_)
  refine lv_aload_n hx hb dX2_turn_4 rfl (lv_at hl 1 rfl) ?_
  refine lv_iload_n hx hb dX2_turn_5 rfl (lv_at hl 3 rfl) ?_
  refine jn_e h (fun J2 e4 h => ?_)
  have w3 : ∀ (x1 : Int32) (ls : Array Slot) (H : Heap) (locs : List Loc), lv_has ls 4 [] → va_P D vwCl (stW cI a u) H → va_D A (stW cI a u) → va_S A H0 H locs → J2 x1 → W p l e rm_X2_turn s m args below meth c H locs 0 0 Q (F0 m 26 ls [.int x1, .ref (a 0)]) := by
    intro x1 ls H locs hl hP hD hS h
    subst e4
    refine va_put (D := D) (ci := 2) (v := .int x1) (ty := .int) (C := RX2) (T := TX2) (N := 12) hx hb hts inT2 tyX2 tyX2_ok nmX2 hown hK.k hP hD hS 0 rfl rfl 0 (by decide) (hts _ q_53) (fun _ h9 => h9) rfl (by decide +kernel) rfl rfl (Nat.le_of_ble_eq_true rfl) dX2_turn_26 (fun H locs hP hD hS => ?_)
    have hP : va_P D vwCl (stW cI a (sS_openMask u x1)) H := hP
    have hD : va_D A (stW cI a (sS_openMask u x1)) := hD
    exact hQ h hP hD hS dX2_turn_29
  clear e4
  refine lv_if_eq (tgt := 18) hx hb dX2_turn_6 (by decide) (fun c5 => ?_) (fun c5 => ?_)
  · replace h := h.1 c5
    refine lv_aload_n hx hb dX2_turn_18 rfl (lv_at hl 1 rfl) ?_
    refine va_get (D := D) (ci := 2) (v := .int (S_openMask u)) (C := RX2) (T := TX2) (N := 12) hx hb hts inT2 hown hK.k hP 0 rfl rfl 0 (by decide) (hts _ q_53) (fun _ h9 => h9) rfl dX2_turn_19 ?_
    refine lv_iload_n hx hb dX2_turn_22 rfl (lv_at hl 0 rfl) ?_
    refine lv_iconst (v := (-1 : Int32)) hx hb dX2_turn_23 (by decide) ?_
    refine lv_ixor hx hb dX2_turn_24 ?_
    refine lv_iand hx hb dX2_turn_25 ?_
    exact w3 ((S_openMask u) &&& (((1 : Int32) <<< (p1 &&& 31)) ^^^ (-1 : Int32))) _ _ _ (lv_sub hl [] rfl) hP hD hS h
  · replace h := h.2 c5
    refine lv_aload_n hx hb dX2_turn_9 rfl (lv_at hl 1 rfl) ?_
    refine va_get (D := D) (ci := 2) (v := .int (S_openMask u)) (C := RX2) (T := TX2) (N := 12) hx hb hts inT2 hown hK.k hP 0 rfl rfl 0 (by decide) (hts _ q_53) (fun _ h9 => h9) rfl dX2_turn_10 ?_
    refine lv_iload_n hx hb dX2_turn_13 rfl (lv_at hl 0 rfl) ?_
    refine lv_ior hx hb dX2_turn_14 ?_
    refine lv_goto (tgt := 26) hx hb dX2_turn_15 (by decide) ?_
    exact w3 ((S_openMask u) ||| ((1 : Int32) <<< (p1 &&& 31))) _ _ _ (lv_sub hl [] rfl) hP hD hS h

def wp_X2_putInn (u : St) (p1 : Int32) (p2 : Int32) (p3 : Int32) (post : St → Prop) : Prop :=
  wp_X3_write 18 (S_roadInns u) ((((3 : Int32) * p1) + p2) - (1 : Int32)) p3 (fun f2 => wp_X3_read 8 (S_keys (aS_roadInns u f2)) p3 (fun r3 => wp_X3_write 18 (S_roadKeys (aS_roadInns u f2)) ((((3 : Int32) * p1) + p2) - (1 : Int32)) r3 (fun f5 => post (aS_roadKeys (aS_roadInns u f2) f5))))
set_option maxHeartbeats 4000000 in
set_option maxRecDepth 100000 in
theorem c_X2_putInn (l : Launch) (D : va_G) (cI cS cJ : ClassId) (a : Nat → Nat) (u : St) (sz : Nat) (p1 : Int32) (p2 : Int32) (p3 : Int32) {post : St → Prop} (h : wp_X2_putInn u p1 p2 p3 post) : Met l yX2_putInn (wsA yX2_putInn cX2_putInn 4 none) rm_X2_putInn (va_Pc [.ref (a 0), .int p1, .int p2, .int p3] (rwP D (tysA cI cS cJ) (stW cI a u) sz)) (va_Qv post (fun u9 t => va_P D vwCl ((stW cI a) u9) t.heap ∧ va_D (va_A (stW cI a u) sz) ((stW cI a) u9)) (va_A (stW cI a u) sz)) 0 0 (va_A (stW cI a u) sz) := by
  refine mkRWv (wf := (stW cI a)) (by decide +kernel) (Nat.le_of_ble_eq_true rfl) (fun {p e s m args below meth c Q ls A H0 H locs} hx hb F hts hown hin hK hP hD hS hA hl hQ => ?_)
  have hown : s.vm.findClass RX2 = some m.cls := hown
  have F : CallFix p m c cX2_putInn 4 s args wsT RX2 := F
  have hl : lv_has ls 4 [(0, .ref (a 0)), (1, .int p1), (2, .int p2), (3, .int p3)] := hl
  unfold wp_X2_putInn at h
  refine lv_aload_n hx hb dX2_putInn_0 rfl (lv_at hl 0 rfl) ?_
  refine va_get (D := D) (ci := 2) (v := .ref (a 2)) (C := RX2) (T := TX2) (N := 12) hx hb hts inT2 hown hK.k hP 0 rfl rfl 3 (by decide) (hts _ q_59) (fun _ h9 => h9) rfl dX2_putInn_1 ?_
  refine lv_iconst (v := (3 : Int32)) hx hb dX2_putInn_4 (by decide) ?_
  refine lv_iload_n hx hb dX2_putInn_5 rfl (lv_at hl 1 rfl) ?_
  refine lv_imul hx hb dX2_putInn_6 ?_
  refine lv_iload_n hx hb dX2_putInn_7 rfl (lv_at hl 2 rfl) ?_
  refine lv_iadd hx hb dX2_putInn_8 ?_
  refine lv_iconst (v := (1 : Int32)) hx hb dX2_putInn_9 (by decide) ?_
  refine lv_isub hx hb dX2_putInn_10 ?_
  refine lv_iload_n hx hb dX2_putInn_11 rfl (lv_at hl 3 rfl) ?_
  refine rwNv (wr := List.eraseIdx (stW cI a u) 2) (wf := fun f1 => [((a 2), .inl (cI, 18, .inl f1))]) (As := [.ref (a 2), .int ((((3 : Int32) * p1) + p2) - (1 : Int32)), .int p3]) (rest := []) (perm_k _ 2 rfl) F (c_X3_write l D cI cS cJ (a 2) 18 (S_roadInns u) H.size ((((3 : Int32) * p1) + p2) - (1 : Int32)) p3 h) (cw_X2_67 hts (nw3 hK) (Nat.le_of_ble_eq_true rfl) (Nat.le_of_ble_eq_true rfl)) hK hP hD hS hA rfl hl.1 rfl (Nat.le_of_ble_eq_true rfl) dX2_putInn_12 ⟨Nat.zero_le _, Nat.zero_le _⟩ (fun f2 H locs h hP hD hS => ?_)
  have hP : va_P D vwCl (stW cI a (aS_roadInns u f2)) H := vP_set1 (k := 2) (ws := stW cI a u) rfl hP
  have hD : va_D A (stW cI a (aS_roadInns u f2)) := vD_set1 (k := 2) (ws := stW cI a u) rfl hD
  refine lv_aload_n hx hb dX2_putInn_15 rfl (lv_at hl 0 rfl) ?_
  refine va_get (D := D) (ci := 2) (v := .ref (a 3)) (C := RX2) (T := TX2) (N := 12) hx hb hts inT2 hown hK.k hP 0 rfl rfl 4 (by decide) (hts _ q_60) (fun _ h9 => h9) rfl dX2_putInn_16 ?_
  refine lv_iconst (v := (3 : Int32)) hx hb dX2_putInn_19 (by decide) ?_
  refine lv_iload_n hx hb dX2_putInn_20 rfl (lv_at hl 1 rfl) ?_
  refine lv_imul hx hb dX2_putInn_21 ?_
  refine lv_iload_n hx hb dX2_putInn_22 rfl (lv_at hl 2 rfl) ?_
  refine lv_iadd hx hb dX2_putInn_23 ?_
  refine lv_iconst (v := (1 : Int32)) hx hb dX2_putInn_24 (by decide) ?_
  refine lv_isub hx hb dX2_putInn_25 ?_
  refine lv_aload_n hx hb dX2_putInn_26 rfl (lv_at hl 0 rfl) ?_
  refine va_get (D := D) (ci := 2) (v := .ref (a 1)) (C := RX2) (T := TX2) (N := 12) hx hb hts inT2 hown hK.k hP 0 rfl rfl 1 (by decide) (hts _ q_55) (fun _ h9 => h9) rfl dX2_putInn_27 ?_
  refine lv_iload_n hx hb dX2_putInn_30 rfl (lv_at hl 3 rfl) ?_
  refine roNi (As := [.ref (a 1), .int p3]) (rest := [.int ((((3 : Int32) * p1) + p2) - (1 : Int32)), .ref (a 3)]) F (c_X3_read l D cI cS cJ (a 1) 8 (S_keys (aS_roadInns u f2)) H p3 h) (cw_X2_71 hts (nw1 hK) (Nat.le_of_ble_eq_true rfl) (Nat.le_of_ble_eq_true rfl)) hK (vP_one hP 1 rfl) rfl hl.1 rfl (Nat.le_of_ble_eq_true rfl) dX2_putInn_31 ⟨Nat.zero_le _, Nat.zero_le _⟩ (fun r3 h => ?_)
  refine rwNv (wr := List.eraseIdx (stW cI a (aS_roadInns u f2)) 3) (wf := fun f1 => [((a 3), .inl (cI, 18, .inl f1))]) (As := [.ref (a 3), .int ((((3 : Int32) * p1) + p2) - (1 : Int32)), .int r3]) (rest := []) (perm_k _ 3 rfl) F (c_X3_write l D cI cS cJ (a 3) 18 (S_roadKeys (aS_roadInns u f2)) H.size ((((3 : Int32) * p1) + p2) - (1 : Int32)) r3 h) (cw_X2_67 hts (nw3 hK) (Nat.le_of_ble_eq_true rfl) (Nat.le_of_ble_eq_true rfl)) hK hP hD hS hA rfl hl.1 rfl (Nat.le_of_ble_eq_true rfl) dX2_putInn_34 ⟨Nat.zero_le _, Nat.zero_le _⟩ (fun f5 H locs h hP hD hS => ?_)
  have hP : va_P D vwCl (stW cI a (aS_roadKeys (aS_roadInns u f2) f5)) H := vP_set1 (k := 3) (ws := stW cI a (aS_roadInns u f2)) rfl hP
  have hD : va_D A (stW cI a (aS_roadKeys (aS_roadInns u f2) f5)) := vD_set1 (k := 3) (ws := stW cI a (aS_roadInns u f2)) rfl hD
  exact hQ h hP hD hS dX2_putInn_37

def wp_X2_addRoad (u : St) (p1 : Int32) (p2 : Int32) (p3 : Int32) (p4 : Int32) (post : Int32 → St → Prop) : Prop :=
  wp_X2_putInn u (S_roadCount u) (1 : Int32) p1 (fun u2 => wp_X2_putInn u2 (S_roadCount u) (2 : Int32) p2 (fun u4 => wp_X2_putInn u4 (S_roadCount u) (3 : Int32) p3 (fun u6 => wp_X3_write 6 (S_roadHalls u6) (S_roadCount u) p4 (fun f8 => post (S_roadCount u) (sS_roadCount (aS_roadHalls u6 f8) ((S_roadCount (aS_roadHalls u6 f8)) + (1 : Int32)))))))
set_option maxHeartbeats 4000000 in
set_option maxRecDepth 100000 in
theorem c_X2_addRoad (l : Launch) (D : va_G) (cI cS cJ : ClassId) (a : Nat → Nat) (u : St) (sz : Nat) (p1 : Int32) (p2 : Int32) (p3 : Int32) (p4 : Int32) {post : Int32 → St → Prop} (h : wp_X2_addRoad u p1 p2 p3 p4 post) : Met l yX2_addRoad (wsA yX2_addRoad cX2_addRoad 6 (some .int)) rm_X2_addRoad (va_Pc [.ref (a 0), .int p1, .int p2, .int p3, .int p4] (rwP D (tysA cI cS cJ) (stW cI a u) sz)) (va_Qi post (fun u9 t => va_P D vwCl ((stW cI a) u9) t.heap ∧ va_D (va_A (stW cI a u) sz) ((stW cI a) u9)) (va_A (stW cI a u) sz)) 0 0 (va_A (stW cI a u) sz) := by
  refine mkRWi (wf := (stW cI a)) (by decide +kernel) (Nat.le_of_ble_eq_true rfl) (fun {p e s m args below meth c Q ls A H0 H locs} hx hb F hts hown hK hP hD hS hA hl hQ => ?_)
  have hown : s.vm.findClass RX2 = some m.cls := hown
  have F : CallFix p m c cX2_addRoad 6 s args wsT RX2 := F
  have hl : lv_has ls 6 [(0, .ref (a 0)), (1, .int p1), (2, .int p2), (3, .int p3), (4, .int p4)] := hl
  unfold wp_X2_addRoad at h
  refine lv_aload_n hx hb dX2_addRoad_0 rfl (lv_at hl 0 rfl) ?_
  refine va_get (D := D) (ci := 2) (v := .int (S_roadCount u)) (C := RX2) (T := TX2) (N := 12) hx hb hts inT2 hown hK.k hP 0 rfl rfl 2 (by decide) (hts _ q_57) (fun _ h9 => h9) rfl dX2_addRoad_1 ?_
  refine lv_istore (lv' := [(5, .int (S_roadCount u)), (0, .ref (a 0)), (1, .int p1), (2, .int p2), (3, .int p3), (4, .int p4)]) hx hb dX2_addRoad_4 hl (by decide) rfl (fun ls hl => ?_)
  refine lv_aload_n hx hb dX2_addRoad_6 rfl (lv_at hl 1 rfl) ?_
  refine lv_iload hx hb dX2_addRoad_7 (lv_at hl 0 rfl) ?_
  refine lv_iconst (v := (1 : Int32)) hx hb dX2_addRoad_9 (by decide) ?_
  refine lv_iload_n hx hb dX2_addRoad_10 rfl (lv_at hl 2 rfl) ?_
  refine rwVv0 (As := [.int (S_roadCount u), .int (1 : Int32), .int p1]) (rest := []) F (c_X2_putInn l D cI cS cJ a u H.size (S_roadCount u) (1 : Int32) p1 h) (cw_X2_63 hts (Nat.le_of_ble_eq_true rfl) (Nat.le_of_ble_eq_true rfl)) hK hP hD hS hA (recv (ci := 2) (k0 := 0) hK hP rfl rfl) rfl hl.1 rfl (Nat.le_of_ble_eq_true rfl) dX2_addRoad_11 ⟨Nat.zero_le _, Nat.zero_le _⟩ (fun u2 H locs h hP hD hS => ?_)
  refine lv_aload_n hx hb dX2_addRoad_14 rfl (lv_at hl 1 rfl) ?_
  refine lv_iload hx hb dX2_addRoad_15 (lv_at hl 0 rfl) ?_
  refine lv_iconst (v := (2 : Int32)) hx hb dX2_addRoad_17 (by decide) ?_
  refine lv_iload_n hx hb dX2_addRoad_18 rfl (lv_at hl 3 rfl) ?_
  refine rwVv0 (As := [.int (S_roadCount u), .int (2 : Int32), .int p2]) (rest := []) F (c_X2_putInn l D cI cS cJ a u2 H.size (S_roadCount u) (2 : Int32) p2 h) (cw_X2_63 hts (Nat.le_of_ble_eq_true rfl) (Nat.le_of_ble_eq_true rfl)) hK hP hD hS hA (recv (ci := 2) (k0 := 0) hK hP rfl rfl) rfl hl.1 rfl (Nat.le_of_ble_eq_true rfl) dX2_addRoad_19 ⟨Nat.zero_le _, Nat.zero_le _⟩ (fun u4 H locs h hP hD hS => ?_)
  refine lv_aload_n hx hb dX2_addRoad_22 rfl (lv_at hl 1 rfl) ?_
  refine lv_iload hx hb dX2_addRoad_23 (lv_at hl 0 rfl) ?_
  refine lv_iconst (v := (3 : Int32)) hx hb dX2_addRoad_25 (by decide) ?_
  refine lv_iload_n hx hb dX2_addRoad_26 rfl (lv_at hl 4 rfl) ?_
  refine rwVv0 (As := [.int (S_roadCount u), .int (3 : Int32), .int p3]) (rest := []) F (c_X2_putInn l D cI cS cJ a u4 H.size (S_roadCount u) (3 : Int32) p3 h) (cw_X2_63 hts (Nat.le_of_ble_eq_true rfl) (Nat.le_of_ble_eq_true rfl)) hK hP hD hS hA (recv (ci := 2) (k0 := 0) hK hP rfl rfl) rfl hl.1 rfl (Nat.le_of_ble_eq_true rfl) dX2_addRoad_27 ⟨Nat.zero_le _, Nat.zero_le _⟩ (fun u6 H locs h hP hD hS => ?_)
  refine lv_aload_n hx hb dX2_addRoad_30 rfl (lv_at hl 1 rfl) ?_
  refine va_get (D := D) (ci := 2) (v := .ref (a 4)) (C := RX2) (T := TX2) (N := 12) hx hb hts inT2 hown hK.k hP 0 rfl rfl 5 (by decide) (hts _ q_61) (fun _ h9 => h9) rfl dX2_addRoad_31 ?_
  refine lv_iload hx hb dX2_addRoad_34 (lv_at hl 0 rfl) ?_
  refine lv_iload hx hb dX2_addRoad_36 (lv_at hl 5 rfl) ?_
  refine rwNv (wr := List.eraseIdx (stW cI a u6) 4) (wf := fun f1 => [((a 4), .inl (cI, 6, .inl f1))]) (As := [.ref (a 4), .int (S_roadCount u), .int p4]) (rest := []) (perm_k _ 4 rfl) F (c_X3_write l D cI cS cJ (a 4) 6 (S_roadHalls u6) H.size (S_roadCount u) p4 h) (cw_X2_67 hts (nw3 hK) (Nat.le_of_ble_eq_true rfl) (Nat.le_of_ble_eq_true rfl)) hK hP hD hS hA rfl hl.1 rfl (Nat.le_of_ble_eq_true rfl) dX2_addRoad_38 ⟨Nat.zero_le _, Nat.zero_le _⟩ (fun f8 H locs h hP hD hS => ?_)
  have hP : va_P D vwCl (stW cI a (aS_roadHalls u6 f8)) H := vP_set1 (k := 4) (ws := stW cI a u6) rfl hP
  have hD : va_D A (stW cI a (aS_roadHalls u6 f8)) := vD_set1 (k := 4) (ws := stW cI a u6) rfl hD
  refine lv_aload_n hx hb dX2_addRoad_41 rfl (lv_at hl 1 rfl) ?_
  refine lv_dup hx hb dX2_addRoad_42 rfl ?_
  refine va_get (D := D) (ci := 2) (v := .int (S_roadCount (aS_roadHalls u6 f8))) (C := RX2) (T := TX2) (N := 12) hx hb hts inT2 hown hK.k hP 0 rfl rfl 2 (by decide) (hts _ q_57) (fun _ h9 => h9) rfl dX2_addRoad_43 ?_
  refine lv_iconst (v := (1 : Int32)) hx hb dX2_addRoad_46 (by decide) ?_
  refine lv_iadd hx hb dX2_addRoad_47 ?_
  refine va_put (D := D) (ci := 2) (v := .int ((S_roadCount (aS_roadHalls u6 f8)) + (1 : Int32))) (ty := .int) (C := RX2) (T := TX2) (N := 12) hx hb hts inT2 tyX2 tyX2_ok nmX2 hown hK.k hP hD hS 0 rfl rfl 2 (by decide) (hts _ q_57) (fun _ h9 => h9) rfl (by decide +kernel) rfl rfl (Nat.le_of_ble_eq_true rfl) dX2_addRoad_48 (fun H locs hP hD hS => ?_)
  have hP : va_P D vwCl (stW cI a (sS_roadCount (aS_roadHalls u6 f8) ((S_roadCount (aS_roadHalls u6 f8)) + (1 : Int32)))) H := hP
  have hD : va_D A (stW cI a (sS_roadCount (aS_roadHalls u6 f8) ((S_roadCount (aS_roadHalls u6 f8)) + (1 : Int32)))) := hD
  refine lv_iload hx hb dX2_addRoad_51 (lv_at hl 0 rfl) ?_
  exact hQ h hP hD hS dX2_addRoad_53

def wp_X2_removeLastRoad (u : St)  (post : St → Prop) : Prop :=
  LP2 (fun (K3 : Int32 → St → Prop) (x1 : Int32) (u2 : St) => ((4 : Int32) ≤ x1 → post u2) ∧ (¬ (4 : Int32) ≤ x1 → wp_X3_read 4 (S_answerRoads u2) x1 (fun r6 => (¬ r6 = (S_roadCount u2) → K3 (x1 + 1) u2) ∧ (r6 = (S_roadCount u2) → wp_X3_write 4 (S_answerRoads u2) x1 (-1 : Int32) (fun f9 => K3 (x1 + 1) (aS_answerRoads u2 f9)))))) (0 : Int32) (sS_roadCount u ((S_roadCount u) - (1 : Int32)))
set_option maxHeartbeats 4000000 in
set_option maxRecDepth 100000 in
theorem c_X2_removeLastRoad (l : Launch) (D : va_G) (cI cS cJ : ClassId) (a : Nat → Nat) (u : St) (sz : Nat)  {post : St → Prop} (h : wp_X2_removeLastRoad u post) : Met l yX2_removeLastRoad (wsA yX2_removeLastRoad cX2_removeLastRoad 2 none) rm_X2_removeLastRoad (va_Pc [.ref (a 0)] (rwP D (tysA cI cS cJ) (stW cI a u) sz)) (va_Qv post (fun u9 t => va_P D vwCl ((stW cI a) u9) t.heap ∧ va_D (va_A (stW cI a u) sz) ((stW cI a) u9)) (va_A (stW cI a u) sz)) 0 0 (va_A (stW cI a u) sz) := by
  refine mkRWv (wf := (stW cI a)) (by decide +kernel) (Nat.le_of_ble_eq_true rfl) (fun {p e s m args below meth c Q ls A H0 H locs} hx hb F hts hown hin hK hP hD hS hA hl hQ => ?_)
  have hown : s.vm.findClass RX2 = some m.cls := hown
  have F : CallFix p m c cX2_removeLastRoad 2 s args wsT RX2 := F
  have hl : lv_has ls 2 [(0, .ref (a 0))] := hl
  unfold wp_X2_removeLastRoad at h
  refine lv_aload_n hx hb dX2_removeLastRoad_0 rfl (lv_at hl 0 rfl) ?_
  refine lv_dup hx hb dX2_removeLastRoad_1 rfl ?_
  refine va_get (D := D) (ci := 2) (v := .int (S_roadCount u)) (C := RX2) (T := TX2) (N := 12) hx hb hts inT2 hown hK.k hP 0 rfl rfl 2 (by decide) (hts _ q_57) (fun _ h9 => h9) rfl dX2_removeLastRoad_2 ?_
  refine lv_iconst (v := (1 : Int32)) hx hb dX2_removeLastRoad_5 (by decide) ?_
  refine lv_isub hx hb dX2_removeLastRoad_6 ?_
  refine va_put (D := D) (ci := 2) (v := .int ((S_roadCount u) - (1 : Int32))) (ty := .int) (C := RX2) (T := TX2) (N := 12) hx hb hts inT2 tyX2 tyX2_ok nmX2 hown hK.k hP hD hS 0 rfl rfl 2 (by decide) (hts _ q_57) (fun _ h9 => h9) rfl (by decide +kernel) rfl rfl (Nat.le_of_ble_eq_true rfl) dX2_removeLastRoad_7 (fun H locs hP hD hS => ?_)
  have hP : va_P D vwCl (stW cI a (sS_roadCount u ((S_roadCount u) - (1 : Int32)))) H := hP
  have hD : va_D A (stW cI a (sS_roadCount u ((S_roadCount u) - (1 : Int32)))) := hD
  refine lv_iconst (v := (0 : Int32)) hx hb dX2_removeLastRoad_10 (by decide) ?_
  refine lv_istore_n (lv' := [(1, .int (0 : Int32)), (0, .ref (a 0))]) hx hb dX2_removeLastRoad_11 rfl hl (by decide) rfl (fun ls hl => ?_)
  refine lpu2 h (fun K3 : Int32 → St → Prop => ∀ (x1 : Int32) (u2 : St) (ls : Array Slot) (H : Heap) (locs : List Loc), lv_has ls 2 [(0, .ref (a 0)), (1, .int x1)] → va_P D vwCl (stW cI a u2) H → va_D A (stW cI a u2) → va_S A H0 H locs → K3 x1 u2 → W p l e rm_X2_removeLastRoad s m args below meth c H locs 0 0 Q (F0 m 12 ls [])) ?_ ?_ ?_
  · intro x1 u2 ls H locs hl hP hD hS h
    exact h.elim
  · intro K3
    intro w4 x1 u2 ls H locs hl hP hD hS h
    refine lv_iload_n hx hb dX2_removeLastRoad_12 rfl (lv_at hl 1 rfl) ?_
    refine lv_iconst (v := (4 : Int32)) hx hb dX2_removeLastRoad_13 (by decide) ?_
    refine lv_icmp_ge (tgt := 47) hx hb dX2_removeLastRoad_14 (by decide) (fun c5 => ?_) (fun c5 => ?_)
    · replace h := h.1 c5
      exact hQ h hP hD hS dX2_removeLastRoad_47
    · replace h := h.2 c5
      refine lv_aload_n hx hb dX2_removeLastRoad_17 rfl (lv_at hl 0 rfl) ?_
      refine va_get (D := D) (ci := 2) (v := .ref (a 7)) (C := RX2) (T := TX2) (N := 12) hx hb hts inT2 hown hK.k hP 0 rfl rfl 9 (by decide) (hts _ q_68) (fun _ h9 => h9) rfl dX2_removeLastRoad_18 ?_
      refine lv_iload_n hx hb dX2_removeLastRoad_21 rfl (lv_at hl 1 rfl) ?_
      refine roNi (As := [.ref (a 7), .int x1]) (rest := []) F (c_X3_read l D cI cS cJ (a 7) 4 (S_answerRoads u2) H x1 h) (cw_X2_71 hts (nw1 hK) (Nat.le_of_ble_eq_true rfl) (Nat.le_of_ble_eq_true rfl)) hK (vP_one hP 7 rfl) rfl hl.1 rfl (Nat.le_of_ble_eq_true rfl) dX2_removeLastRoad_22 ⟨Nat.zero_le _, Nat.zero_le _⟩ (fun r6 h => ?_)
      refine lv_aload_n hx hb dX2_removeLastRoad_25 rfl (lv_at hl 0 rfl) ?_
      refine va_get (D := D) (ci := 2) (v := .int (S_roadCount u2)) (C := RX2) (T := TX2) (N := 12) hx hb hts inT2 hown hK.k hP 0 rfl rfl 2 (by decide) (hts _ q_57) (fun _ h9 => h9) rfl dX2_removeLastRoad_26 ?_
      refine lv_icmp_ne (tgt := 41) hx hb dX2_removeLastRoad_29 (by decide) (fun c7 => ?_) (fun c7 => ?_)
      · replace h := h.1 c7
        refine lv_iinc (v := (x1 + 1)) (lv' := [(1, .int (x1 + 1)), (0, .ref (a 0))]) hx hb dX2_removeLastRoad_41 hl (k := 1) rfl rfl (by decide) rfl (fun ls hl => ?_)
        refine lv_goto (tgt := 12) hx hb dX2_removeLastRoad_44 (by decide) ?_
        exact w4 (x1 + 1) u2 _ _ _ (lv_sub hl [1, 0] rfl) hP hD hS h
      · replace h := h.2 c7
        refine lv_aload_n hx hb dX2_removeLastRoad_32 rfl (lv_at hl 0 rfl) ?_
        refine va_get (D := D) (ci := 2) (v := .ref (a 7)) (C := RX2) (T := TX2) (N := 12) hx hb hts inT2 hown hK.k hP 0 rfl rfl 9 (by decide) (hts _ q_68) (fun _ h9 => h9) rfl dX2_removeLastRoad_33 ?_
        refine lv_iload_n hx hb dX2_removeLastRoad_36 rfl (lv_at hl 1 rfl) ?_
        refine lv_iconst (v := (-1 : Int32)) hx hb dX2_removeLastRoad_37 (by decide) ?_
        refine rwNv (wr := List.eraseIdx (stW cI a u2) 7) (wf := fun f1 => [((a 7), .inl (cI, 4, .inl f1))]) (As := [.ref (a 7), .int x1, .int (-1 : Int32)]) (rest := []) (perm_k _ 7 rfl) F (c_X3_write l D cI cS cJ (a 7) 4 (S_answerRoads u2) H.size x1 (-1 : Int32) h) (cw_X2_67 hts (nw3 hK) (Nat.le_of_ble_eq_true rfl) (Nat.le_of_ble_eq_true rfl)) hK hP hD hS hA rfl hl.1 rfl (Nat.le_of_ble_eq_true rfl) dX2_removeLastRoad_38 ⟨Nat.zero_le _, Nat.zero_le _⟩ (fun f9 H locs h hP hD hS => ?_)
        have hP : va_P D vwCl (stW cI a (aS_answerRoads u2 f9)) H := vP_set1 (k := 7) (ws := stW cI a u2) rfl hP
        have hD : va_D A (stW cI a (aS_answerRoads u2 f9)) := vD_set1 (k := 7) (ws := stW cI a u2) rfl hD
        refine lv_iinc (v := (x1 + 1)) (lv' := [(1, .int (x1 + 1)), (0, .ref (a 0))]) hx hb dX2_removeLastRoad_41 hl (k := 1) rfl rfl (by decide) rfl (fun ls hl => ?_)
        refine lv_goto (tgt := 12) hx hb dX2_removeLastRoad_44 (by decide) ?_
        exact w4 (x1 + 1) (aS_answerRoads u2 f9) _ _ _ (lv_sub hl [1, 0] rfl) hP hD hS h
  · intro K3 w4 h
    exact w4 (0 : Int32) (sS_roadCount u ((S_roadCount u) - (1 : Int32))) _ _ _ (lv_sub hl [1, 0] rfl) hP hD hS h

def wp_X2_ofEnvelope (u : St) (p1 : Int32) (p2 : Int32) (post : Int32 → Prop) : Prop :=
  wp_X3_read 48 (S_envelopeNumbers u) (((4 : Int32) * p1) + p2) (fun r1 => post r1)
set_option maxHeartbeats 4000000 in
set_option maxRecDepth 100000 in
theorem c_X2_ofEnvelope (l : Launch) (D : va_G) (cI cS cJ : ClassId) (a : Nat → Nat) (u : St) (H0 : Heap) (p1 : Int32) (p2 : Int32) {post : Int32 → Prop} (h : wp_X2_ofEnvelope u p1 p2 post) : Met l yX2_ofEnvelope (wsA yX2_ofEnvelope cX2_ofEnvelope 3 (some .int)) rm_X2_ofEnvelope (va_Pc [.ref (a 0), .int p1, .int p2] (roP D (tysA cI cS cJ) (stW cI a u) H0)) (va_Qi (fun r (_ : Unit) => post r) (fun _ t => t.heap = H0) nF) 0 0 nF := by
  refine mkROi (by decide +kernel) (Nat.le_of_ble_eq_true rfl) (fun {p e s m args below meth c Q ls} hx hb F hts hown hK hP hl hQ => ?_)
  have hown : s.vm.findClass RX2 = some m.cls := hown
  have F : CallFix p m c cX2_ofEnvelope 3 s args wsT RX2 := F
  have hl : lv_has ls 3 [(0, .ref (a 0)), (1, .int p1), (2, .int p2)] := hl
  unfold wp_X2_ofEnvelope at h
  refine lv_aload_n hx hb dX2_ofEnvelope_0 rfl (lv_at hl 0 rfl) ?_
  refine va_get (D := D) (ci := 2) (v := .ref (a 5)) (C := RX2) (T := TX2) (N := 12) hx hb hts inT2 hown hK.k hP 0 rfl rfl 7 (by decide) (hts _ q_65) (fun _ h9 => h9) rfl dX2_ofEnvelope_1 ?_
  refine lv_iconst (v := (4 : Int32)) hx hb dX2_ofEnvelope_4 (by decide) ?_
  refine lv_iload_n hx hb dX2_ofEnvelope_5 rfl (lv_at hl 1 rfl) ?_
  refine lv_imul hx hb dX2_ofEnvelope_6 ?_
  refine lv_iload_n hx hb dX2_ofEnvelope_7 rfl (lv_at hl 2 rfl) ?_
  refine lv_iadd hx hb dX2_ofEnvelope_8 ?_
  refine roNi (As := [.ref (a 5), .int (((4 : Int32) * p1) + p2)]) (rest := []) F (c_X3_read l D cI cS cJ (a 5) 48 (S_envelopeNumbers u) H0 (((4 : Int32) * p1) + p2) h) (cw_X2_71 hts (nw1 hK) (Nat.le_of_ble_eq_true rfl) (Nat.le_of_ble_eq_true rfl)) hK (vP_one hP 5 rfl) rfl hl.1 rfl (Nat.le_of_ble_eq_true rfl) dX2_ofEnvelope_9 ⟨Nat.zero_le _, Nat.zero_le _⟩ (fun r1 h => ?_)
  exact hQ h dX2_ofEnvelope_12

def wp_X2_isUsed (u : St) (p1 : Int32) (post : Int32 → Prop) : Prop :=
  LP1 (fun (K2 : Int32 → Prop) (x1 : Int32) => ((S_envelopeCount u) ≤ x1 → post (0 : Int32)) ∧ (¬ (S_envelopeCount u) ≤ x1 → wp_X2_ofEnvelope u x1 (0 : Int32) (fun r5 => (¬ r5 = p1 → K2 (x1 + 1)) ∧ (r5 = p1 → post (1 : Int32))))) (0 : Int32)
set_option maxHeartbeats 4000000 in
set_option maxRecDepth 100000 in
theorem c_X2_isUsed (l : Launch) (D : va_G) (cI cS cJ : ClassId) (a : Nat → Nat) (u : St) (H0 : Heap) (p1 : Int32) {post : Int32 → Prop} (h : wp_X2_isUsed u p1 post) : Met l yX2_isUsed (wsA yX2_isUsed cX2_isUsed 3 (some .boolean)) rm_X2_isUsed (va_Pc [.ref (a 0), .int p1] (roP D (tysA cI cS cJ) (stW cI a u) H0)) (va_Qi (fun r (_ : Unit) => bz r ∧ post r) (fun _ t => t.heap = H0) nF) 0 0 nF := by
  refine mkROz (by decide +kernel) (Nat.le_of_ble_eq_true rfl) (fun {p e s m args below meth c Q ls} hx hb F hts hown hK hP hl hQ => ?_)
  have hown : s.vm.findClass RX2 = some m.cls := hown
  have F : CallFix p m c cX2_isUsed 3 s args wsT RX2 := F
  have hl : lv_has ls 3 [(0, .ref (a 0)), (1, .int p1)] := hl
  unfold wp_X2_isUsed at h
  refine lv_iconst (v := (0 : Int32)) hx hb dX2_isUsed_0 (by decide) ?_
  refine lv_istore_n (lv' := [(2, .int (0 : Int32)), (0, .ref (a 0)), (1, .int p1)]) hx hb dX2_isUsed_1 rfl hl (by decide) rfl (fun ls hl => ?_)
  refine lpu1 h (fun K2 : Int32 → Prop => ∀ (x1 : Int32) (ls : Array Slot), lv_has ls 3 [(0, .ref (a 0)), (1, .int p1), (2, .int x1)] → K2 x1 → W p l e rm_X2_isUsed s m args below meth c H0 [] 0 0 Q (F0 m 2 ls [])) ?_ ?_ ?_
  · intro x1 ls hl h
    exact h.elim
  · intro K2
    intro w3 x1 ls hl h
    refine lv_iload_n hx hb dX2_isUsed_2 rfl (lv_at hl 2 rfl) ?_
    refine lv_aload_n hx hb dX2_isUsed_3 rfl (lv_at hl 0 rfl) ?_
    refine va_get (D := D) (ci := 2) (v := .int (S_envelopeCount u)) (C := RX2) (T := TX2) (N := 12) hx hb hts inT2 hown hK.k hP 0 rfl rfl 6 (by decide) (hts _ q_63) (fun _ h9 => h9) rfl dX2_isUsed_4 ?_
    refine lv_icmp_ge (tgt := 28) hx hb dX2_isUsed_7 (by decide) (fun c4 => ?_) (fun c4 => ?_)
    · replace h := h.1 c4
      refine lv_iconst (v := (0 : Int32)) hx hb dX2_isUsed_28 (by decide) ?_
      exact hQ bz0 h dX2_isUsed_29
    · replace h := h.2 c4
      refine lv_aload_n hx hb dX2_isUsed_10 rfl (lv_at hl 0 rfl) ?_
      refine lv_iload_n hx hb dX2_isUsed_11 rfl (lv_at hl 2 rfl) ?_
      refine lv_iconst (v := (0 : Int32)) hx hb dX2_isUsed_12 (by decide) ?_
      refine roVi (As := [.int x1, .int (0 : Int32)]) (rest := []) F (c_X2_ofEnvelope l D cI cS cJ a u H0 x1 (0 : Int32) h) (cw_X2_75 hts (Nat.le_of_ble_eq_true rfl) (Nat.le_of_ble_eq_true rfl)) hK hP (recv (ci := 2) (k0 := 0) hK hP rfl rfl) rfl hl.1 rfl (Nat.le_of_ble_eq_true rfl) dX2_isUsed_13 ⟨Nat.zero_le _, Nat.zero_le _⟩ (fun r5 h => ?_)
      refine lv_iload_n hx hb dX2_isUsed_16 rfl (lv_at hl 1 rfl) ?_
      refine lv_icmp_ne (tgt := 22) hx hb dX2_isUsed_17 (by decide) (fun c6 => ?_) (fun c6 => ?_)
      · replace h := h.1 c6
        refine lv_iinc (v := (x1 + 1)) (lv' := [(2, .int (x1 + 1)), (0, .ref (a 0)), (1, .int p1)]) hx hb dX2_isUsed_22 hl (k := 2) rfl rfl (by decide) rfl (fun ls hl => ?_)
        refine lv_goto (tgt := 2) hx hb dX2_isUsed_25 (by decide) ?_
        exact w3 (x1 + 1) _ (lv_sub hl [1, 2, 0] rfl) h
      · replace h := h.2 c6
        refine lv_iconst (v := (1 : Int32)) hx hb dX2_isUsed_20 (by decide) ?_
        exact hQ bz1 h dX2_isUsed_21
  · intro K2 w3 h
    exact w3 (0 : Int32) _ (lv_sub hl [1, 2, 0] rfl) h

def wp_X2_innAt (u : St) (p1 : Int32) (p2 : Int32) (post : Int32 → Prop) : Prop :=
  wp_X3_read 18 (S_roadInns u) ((((3 : Int32) * p1) + p2) - (1 : Int32)) (fun r1 => post r1)
set_option maxHeartbeats 4000000 in
set_option maxRecDepth 100000 in
theorem c_X2_innAt (l : Launch) (D : va_G) (cI cS cJ : ClassId) (a : Nat → Nat) (u : St) (H0 : Heap) (p1 : Int32) (p2 : Int32) {post : Int32 → Prop} (h : wp_X2_innAt u p1 p2 post) : Met l yX2_innAt (wsA yX2_innAt cX2_innAt 3 (some .int)) rm_X2_innAt (va_Pc [.ref (a 0), .int p1, .int p2] (roP D (tysA cI cS cJ) (stW cI a u) H0)) (va_Qi (fun r (_ : Unit) => post r) (fun _ t => t.heap = H0) nF) 0 0 nF := by
  refine mkROi (by decide +kernel) (Nat.le_of_ble_eq_true rfl) (fun {p e s m args below meth c Q ls} hx hb F hts hown hK hP hl hQ => ?_)
  have hown : s.vm.findClass RX2 = some m.cls := hown
  have F : CallFix p m c cX2_innAt 3 s args wsT RX2 := F
  have hl : lv_has ls 3 [(0, .ref (a 0)), (1, .int p1), (2, .int p2)] := hl
  unfold wp_X2_innAt at h
  refine lv_aload_n hx hb dX2_innAt_0 rfl (lv_at hl 0 rfl) ?_
  refine va_get (D := D) (ci := 2) (v := .ref (a 2)) (C := RX2) (T := TX2) (N := 12) hx hb hts inT2 hown hK.k hP 0 rfl rfl 3 (by decide) (hts _ q_59) (fun _ h9 => h9) rfl dX2_innAt_1 ?_
  refine lv_iconst (v := (3 : Int32)) hx hb dX2_innAt_4 (by decide) ?_
  refine lv_iload_n hx hb dX2_innAt_5 rfl (lv_at hl 1 rfl) ?_
  refine lv_imul hx hb dX2_innAt_6 ?_
  refine lv_iload_n hx hb dX2_innAt_7 rfl (lv_at hl 2 rfl) ?_
  refine lv_iadd hx hb dX2_innAt_8 ?_
  refine lv_iconst (v := (1 : Int32)) hx hb dX2_innAt_9 (by decide) ?_
  refine lv_isub hx hb dX2_innAt_10 ?_
  refine roNi (As := [.ref (a 2), .int ((((3 : Int32) * p1) + p2) - (1 : Int32))]) (rest := []) F (c_X3_read l D cI cS cJ (a 2) 18 (S_roadInns u) H0 ((((3 : Int32) * p1) + p2) - (1 : Int32)) h) (cw_X2_71 hts (nw1 hK) (Nat.le_of_ble_eq_true rfl) (Nat.le_of_ble_eq_true rfl)) hK (vP_one hP 2 rfl) rfl hl.1 rfl (Nat.le_of_ble_eq_true rfl) dX2_innAt_11 ⟨Nat.zero_le _, Nat.zero_le _⟩ (fun r1 h => ?_)
  exact hQ h dX2_innAt_14

def wp_X2_keyAt (u : St) (p1 : Int32) (p2 : Int32) (post : Int32 → Prop) : Prop :=
  wp_X3_read 18 (S_roadKeys u) ((((3 : Int32) * p1) + p2) - (1 : Int32)) (fun r1 => post r1)
set_option maxHeartbeats 4000000 in
set_option maxRecDepth 100000 in
theorem c_X2_keyAt (l : Launch) (D : va_G) (cI cS cJ : ClassId) (a : Nat → Nat) (u : St) (H0 : Heap) (p1 : Int32) (p2 : Int32) {post : Int32 → Prop} (h : wp_X2_keyAt u p1 p2 post) : Met l yX2_keyAt (wsA yX2_keyAt cX2_keyAt 3 (some .int)) rm_X2_keyAt (va_Pc [.ref (a 0), .int p1, .int p2] (roP D (tysA cI cS cJ) (stW cI a u) H0)) (va_Qi (fun r (_ : Unit) => post r) (fun _ t => t.heap = H0) nF) 0 0 nF := by
  refine mkROi (by decide +kernel) (Nat.le_of_ble_eq_true rfl) (fun {p e s m args below meth c Q ls} hx hb F hts hown hK hP hl hQ => ?_)
  have hown : s.vm.findClass RX2 = some m.cls := hown
  have F : CallFix p m c cX2_keyAt 3 s args wsT RX2 := F
  have hl : lv_has ls 3 [(0, .ref (a 0)), (1, .int p1), (2, .int p2)] := hl
  unfold wp_X2_keyAt at h
  refine lv_aload_n hx hb dX2_keyAt_0 rfl (lv_at hl 0 rfl) ?_
  refine va_get (D := D) (ci := 2) (v := .ref (a 3)) (C := RX2) (T := TX2) (N := 12) hx hb hts inT2 hown hK.k hP 0 rfl rfl 4 (by decide) (hts _ q_60) (fun _ h9 => h9) rfl dX2_keyAt_1 ?_
  refine lv_iconst (v := (3 : Int32)) hx hb dX2_keyAt_4 (by decide) ?_
  refine lv_iload_n hx hb dX2_keyAt_5 rfl (lv_at hl 1 rfl) ?_
  refine lv_imul hx hb dX2_keyAt_6 ?_
  refine lv_iload_n hx hb dX2_keyAt_7 rfl (lv_at hl 2 rfl) ?_
  refine lv_iadd hx hb dX2_keyAt_8 ?_
  refine lv_iconst (v := (1 : Int32)) hx hb dX2_keyAt_9 (by decide) ?_
  refine lv_isub hx hb dX2_keyAt_10 ?_
  refine roNi (As := [.ref (a 3), .int ((((3 : Int32) * p1) + p2) - (1 : Int32))]) (rest := []) F (c_X3_read l D cI cS cJ (a 3) 18 (S_roadKeys u) H0 ((((3 : Int32) * p1) + p2) - (1 : Int32)) h) (cw_X2_71 hts (nw1 hK) (Nat.le_of_ble_eq_true rfl) (Nat.le_of_ble_eq_true rfl)) hK (vP_one hP 3 rfl) rfl hl.1 rfl (Nat.le_of_ble_eq_true rfl) dX2_keyAt_11 ⟨Nat.zero_le _, Nat.zero_le _⟩ (fun r1 h => ?_)
  exact hQ h dX2_keyAt_14

def wp_X2_placeOn (u : St) (p1 : Int32) (p2 : Int32) (post : Int32 → Prop) : Prop :=
  LP1 (fun (K2 : Int32 → Prop) (x1 : Int32) => ((3 : Int32) < x1 → post (-1 : Int32)) ∧ (¬ (3 : Int32) < x1 → wp_X2_innAt u p1 x1 (fun r5 => (¬ r5 = p2 → K2 (x1 + 1)) ∧ (r5 = p2 → post x1)))) (1 : Int32)
set_option maxHeartbeats 4000000 in
set_option maxRecDepth 100000 in
theorem c_X2_placeOn (l : Launch) (D : va_G) (cI cS cJ : ClassId) (a : Nat → Nat) (u : St) (H0 : Heap) (p1 : Int32) (p2 : Int32) {post : Int32 → Prop} (h : wp_X2_placeOn u p1 p2 post) : Met l yX2_placeOn (wsA yX2_placeOn cX2_placeOn 4 (some .int)) rm_X2_placeOn (va_Pc [.ref (a 0), .int p1, .int p2] (roP D (tysA cI cS cJ) (stW cI a u) H0)) (va_Qi (fun r (_ : Unit) => post r) (fun _ t => t.heap = H0) nF) 0 0 nF := by
  refine mkROi (by decide +kernel) (Nat.le_of_ble_eq_true rfl) (fun {p e s m args below meth c Q ls} hx hb F hts hown hK hP hl hQ => ?_)
  have hown : s.vm.findClass RX2 = some m.cls := hown
  have F : CallFix p m c cX2_placeOn 4 s args wsT RX2 := F
  have hl : lv_has ls 4 [(0, .ref (a 0)), (1, .int p1), (2, .int p2)] := hl
  unfold wp_X2_placeOn at h
  refine lv_iconst (v := (1 : Int32)) hx hb dX2_placeOn_0 (by decide) ?_
  refine lv_istore_n (lv' := [(3, .int (1 : Int32)), (0, .ref (a 0)), (1, .int p1), (2, .int p2)]) hx hb dX2_placeOn_1 rfl hl (by decide) rfl (fun ls hl => ?_)
  refine lpu1 h (fun K2 : Int32 → Prop => ∀ (x1 : Int32) (ls : Array Slot), lv_has ls 4 [(0, .ref (a 0)), (1, .int p1), (2, .int p2), (3, .int x1)] → K2 x1 → W p l e rm_X2_placeOn s m args below meth c H0 [] 0 0 Q (F0 m 2 ls [])) ?_ ?_ ?_
  · intro x1 ls hl h
    exact h.elim
  · intro K2
    intro w3 x1 ls hl h
    refine lv_iload_n hx hb dX2_placeOn_2 rfl (lv_at hl 3 rfl) ?_
    refine lv_iconst (v := (3 : Int32)) hx hb dX2_placeOn_3 (by decide) ?_
    refine lv_icmp_gt (tgt := 25) hx hb dX2_placeOn_4 (by decide) (fun c4 => ?_) (fun c4 => ?_)
    · replace h := h.1 c4
      refine lv_iconst (v := (-1 : Int32)) hx hb dX2_placeOn_25 (by decide) ?_
      exact hQ h dX2_placeOn_26
    · replace h := h.2 c4
      refine lv_aload_n hx hb dX2_placeOn_7 rfl (lv_at hl 0 rfl) ?_
      refine lv_iload_n hx hb dX2_placeOn_8 rfl (lv_at hl 1 rfl) ?_
      refine lv_iload_n hx hb dX2_placeOn_9 rfl (lv_at hl 3 rfl) ?_
      refine roVi (As := [.int p1, .int x1]) (rest := []) F (c_X2_innAt l D cI cS cJ a u H0 p1 x1 h) (cw_X2_79 hts (Nat.le_of_ble_eq_true rfl) (Nat.le_of_ble_eq_true rfl)) hK hP (recv (ci := 2) (k0 := 0) hK hP rfl rfl) rfl hl.1 rfl (Nat.le_of_ble_eq_true rfl) dX2_placeOn_10 ⟨Nat.zero_le _, Nat.zero_le _⟩ (fun r5 h => ?_)
      refine lv_iload_n hx hb dX2_placeOn_13 rfl (lv_at hl 2 rfl) ?_
      refine lv_icmp_ne (tgt := 19) hx hb dX2_placeOn_14 (by decide) (fun c6 => ?_) (fun c6 => ?_)
      · replace h := h.1 c6
        refine lv_iinc (v := (x1 + 1)) (lv' := [(3, .int (x1 + 1)), (0, .ref (a 0)), (1, .int p1), (2, .int p2)]) hx hb dX2_placeOn_19 hl (k := 3) rfl rfl (by decide) rfl (fun ls hl => ?_)
        refine lv_goto (tgt := 2) hx hb dX2_placeOn_22 (by decide) ?_
        exact w3 (x1 + 1) _ (lv_sub hl [1, 2, 3, 0] rfl) h
      · replace h := h.2 c6
        refine lv_iload_n hx hb dX2_placeOn_17 rfl (lv_at hl 3 rfl) ?_
        exact hQ h dX2_placeOn_18
  · intro K2 w3 h
    exact w3 (1 : Int32) _ (lv_sub hl [1, 2, 3, 0] rfl) h

def wp_X2_allOpenOn (u : St) (p1 : Int32) (post : Int32 → Prop) : Prop :=
  LP1 (fun (K2 : Int32 → Prop) (x1 : Int32) => ((3 : Int32) < x1 → post (1 : Int32)) ∧ (¬ (3 : Int32) < x1 → wp_X2_innAt u p1 x1 (fun r5 => wp_X2_hasOpen u r5 (fun r6 => (¬ r6 = 0 → K2 (x1 + 1)) ∧ (r6 = 0 → post (0 : Int32)))))) (1 : Int32)
set_option maxHeartbeats 4000000 in
set_option maxRecDepth 100000 in
theorem c_X2_allOpenOn (l : Launch) (D : va_G) (cI cS cJ : ClassId) (a : Nat → Nat) (u : St) (H0 : Heap) (p1 : Int32) {post : Int32 → Prop} (h : wp_X2_allOpenOn u p1 post) : Met l yX2_allOpenOn (wsA yX2_allOpenOn cX2_allOpenOn 3 (some .boolean)) rm_X2_allOpenOn (va_Pc [.ref (a 0), .int p1] (roP D (tysA cI cS cJ) (stW cI a u) H0)) (va_Qi (fun r (_ : Unit) => bz r ∧ post r) (fun _ t => t.heap = H0) nF) 0 0 nF := by
  refine mkROz (by decide +kernel) (Nat.le_of_ble_eq_true rfl) (fun {p e s m args below meth c Q ls} hx hb F hts hown hK hP hl hQ => ?_)
  have hown : s.vm.findClass RX2 = some m.cls := hown
  have F : CallFix p m c cX2_allOpenOn 3 s args wsT RX2 := F
  have hl : lv_has ls 3 [(0, .ref (a 0)), (1, .int p1)] := hl
  unfold wp_X2_allOpenOn at h
  refine lv_iconst (v := (1 : Int32)) hx hb dX2_allOpenOn_0 (by decide) ?_
  refine lv_istore_n (lv' := [(2, .int (1 : Int32)), (0, .ref (a 0)), (1, .int p1)]) hx hb dX2_allOpenOn_1 rfl hl (by decide) rfl (fun ls hl => ?_)
  refine lpu1 h (fun K2 : Int32 → Prop => ∀ (x1 : Int32) (ls : Array Slot), lv_has ls 3 [(0, .ref (a 0)), (1, .int p1), (2, .int x1)] → K2 x1 → W p l e rm_X2_allOpenOn s m args below meth c H0 [] 0 0 Q (F0 m 2 ls [])) ?_ ?_ ?_
  · intro x1 ls hl h
    exact h.elim
  · intro K2
    intro w3 x1 ls hl h
    refine lv_iload_n hx hb dX2_allOpenOn_2 rfl (lv_at hl 2 rfl) ?_
    refine lv_iconst (v := (3 : Int32)) hx hb dX2_allOpenOn_3 (by decide) ?_
    refine lv_icmp_gt (tgt := 28) hx hb dX2_allOpenOn_4 (by decide) (fun c4 => ?_) (fun c4 => ?_)
    · replace h := h.1 c4
      refine lv_iconst (v := (1 : Int32)) hx hb dX2_allOpenOn_28 (by decide) ?_
      exact hQ bz1 h dX2_allOpenOn_29
    · replace h := h.2 c4
      refine lv_aload_n hx hb dX2_allOpenOn_7 rfl (lv_at hl 0 rfl) ?_
      refine lv_aload_n hx hb dX2_allOpenOn_8 rfl (lv_at hl 0 rfl) ?_
      refine lv_iload_n hx hb dX2_allOpenOn_9 rfl (lv_at hl 1 rfl) ?_
      refine lv_iload_n hx hb dX2_allOpenOn_10 rfl (lv_at hl 2 rfl) ?_
      refine roVi (As := [.int p1, .int x1]) (rest := [.ref (a 0)]) F (c_X2_innAt l D cI cS cJ a u H0 p1 x1 h) (cw_X2_79 hts (Nat.le_of_ble_eq_true rfl) (Nat.le_of_ble_eq_true rfl)) hK hP (recv (ci := 2) (k0 := 0) hK hP rfl rfl) rfl hl.1 rfl (Nat.le_of_ble_eq_true rfl) dX2_allOpenOn_11 ⟨Nat.zero_le _, Nat.zero_le _⟩ (fun r5 h => ?_)
      refine roVi (As := [.int r5]) (rest := []) F (c_X2_hasOpen l D cI cS cJ a u H0 r5 h) (cw_X2_82 hts (Nat.le_of_ble_eq_true rfl) (Nat.le_of_ble_eq_true rfl)) hK hP (recv (ci := 2) (k0 := 0) hK hP rfl rfl) rfl hl.1 rfl (Nat.le_of_ble_eq_true rfl) dX2_allOpenOn_14 ⟨Nat.zero_le _, Nat.zero_le _⟩ (fun r6 h => ?_)
      obtain ⟨b7, h⟩ := h
      refine lv_if_ne (tgt := 22) hx hb dX2_allOpenOn_17 (by decide) (fun c8 => ?_) (fun c8 => ?_)
      · replace h := h.1 c8
        refine lv_iinc (v := (x1 + 1)) (lv' := [(2, .int (x1 + 1)), (0, .ref (a 0)), (1, .int p1)]) hx hb dX2_allOpenOn_22 hl (k := 2) rfl rfl (by decide) rfl (fun ls hl => ?_)
        refine lv_goto (tgt := 2) hx hb dX2_allOpenOn_25 (by decide) ?_
        exact w3 (x1 + 1) _ (lv_sub hl [1, 2, 0] rfl) h
      · replace h := h.2 c8
        refine lv_iconst (v := (0 : Int32)) hx hb dX2_allOpenOn_20 (by decide) ?_
        exact hQ bz0 h dX2_allOpenOn_21
  · intro K2 w3 h
    exact w3 (1 : Int32) _ (lv_sub hl [1, 2, 0] rfl) h

def wp_X2_seenBeside (u : St) (p1 : Int32) (p2 : Int32) (p3 : Int32) (post : Int32 → Prop) : Prop :=
  wp_X2_placeOn u p2 p1 (fun r1 => (¬ r1 = (-1 : Int32) → jn (fun (x3 : Int32) => (¬ x3 = 0 → (¬ x3 = (4 : Int32) → wp_X2_innAt u p2 x3 (fun r9 => post r9)) ∧ (x3 = (4 : Int32) → wp_X3_read 6 (S_roadHalls u) p2 (fun r10 => post ((10 : Int32) + r10)))) ∧ (x3 = 0 → post (8 : Int32))) (fun (J4 : Int32 → Prop) => (¬ p3 = 0 → J4 (r1 + (1 : Int32))) ∧ (p3 = 0 → J4 (r1 - (1 : Int32))))) ∧ (r1 = (-1 : Int32) → post (-1 : Int32)))
set_option maxHeartbeats 4000000 in
set_option maxRecDepth 100000 in
theorem c_X2_seenBeside (l : Launch) (D : va_G) (cI cS cJ : ClassId) (a : Nat → Nat) (u : St) (H0 : Heap) (p1 : Int32) (p2 : Int32) (p3 : Int32) {post : Int32 → Prop} (h : wp_X2_seenBeside u p1 p2 p3 post) : Met l yX2_seenBeside (wsA yX2_seenBeside cX2_seenBeside 6 (some .int)) rm_X2_seenBeside (va_Pc [.ref (a 0), .int p1, .int p2, .int p3] (roP D (tysA cI cS cJ) (stW cI a u) H0)) (va_Qi (fun r (_ : Unit) => post r) (fun _ t => t.heap = H0) nF) 0 0 nF := by
  refine mkROi (by decide +kernel) (Nat.le_of_ble_eq_true rfl) (fun {p e s m args below meth c Q ls} hx hb F hts hown hK hP hl hQ => ?_)
  have hown : s.vm.findClass RX2 = some m.cls := hown
  have F : CallFix p m c cX2_seenBeside 6 s args wsT RX2 := F
  have hl : lv_has ls 6 [(0, .ref (a 0)), (1, .int p1), (2, .int p2), (3, .int p3)] := hl
  unfold wp_X2_seenBeside at h
  refine lv_aload_n hx hb dX2_seenBeside_0 rfl (lv_at hl 0 rfl) ?_
  refine lv_iload_n hx hb dX2_seenBeside_1 rfl (lv_at hl 2 rfl) ?_
  refine lv_iload_n hx hb dX2_seenBeside_2 rfl (lv_at hl 1 rfl) ?_
  refine roVi (As := [.int p2, .int p1]) (rest := []) F (c_X2_placeOn l D cI cS cJ a u H0 p2 p1 h) (cw_X2_86 hts (Nat.le_of_ble_eq_true rfl) (Nat.le_of_ble_eq_true rfl)) hK hP (recv (ci := 2) (k0 := 0) hK hP rfl rfl) rfl hl.1 rfl (Nat.le_of_ble_eq_true rfl) dX2_seenBeside_3 ⟨Nat.zero_le _, Nat.zero_le _⟩ (fun r1 h => ?_)
  refine lv_istore (lv' := [(4, .int r1), (0, .ref (a 0)), (1, .int p1), (2, .int p2), (3, .int p3)]) hx hb dX2_seenBeside_6 hl (by decide) rfl (fun ls hl => ?_)
  refine lv_iload hx hb dX2_seenBeside_8 (lv_at hl 0 rfl) ?_
  refine lv_iconst (v := (-1 : Int32)) hx hb dX2_seenBeside_10 (by decide) ?_
  refine lv_icmp_ne (tgt := 16) hx hb dX2_seenBeside_11 (by decide) (fun c2 => ?_) (fun c2 => ?_)
  · replace h := h.1 c2
    refine lv_iload_n hx hb dX2_seenBeside_16 rfl (lv_at hl 4 rfl) ?_
    refine jn_e h (fun J4 e6 h => ?_)
    have w5 : ∀ (x3 : Int32) (ls : Array Slot), lv_has ls 6 [(0, .ref (a 0)), (2, .int p2)] → J4 x3 → W p l e rm_X2_seenBeside s m args below meth c H0 [] 0 0 Q (F0 m 31 ls [.int x3]) := by
      intro x3 ls hl h
      subst e6
      refine lv_istore (lv' := [(5, .int x3), (0, .ref (a 0)), (2, .int p2)]) hx hb dX2_seenBeside_31 hl (by decide) rfl (fun ls hl => ?_)
      refine lv_iload hx hb dX2_seenBeside_33 (lv_at hl 0 rfl) ?_
      refine lv_if_ne (tgt := 41) hx hb dX2_seenBeside_35 (by decide) (fun c7 => ?_) (fun c7 => ?_)
      · replace h := h.1 c7
        refine lv_iload hx hb dX2_seenBeside_41 (lv_at hl 0 rfl) ?_
        refine lv_iconst (v := (4 : Int32)) hx hb dX2_seenBeside_43 (by decide) ?_
        refine lv_icmp_ne (tgt := 59) hx hb dX2_seenBeside_44 (by decide) (fun c8 => ?_) (fun c8 => ?_)
        · replace h := h.1 c8
          refine lv_aload_n hx hb dX2_seenBeside_59 rfl (lv_at hl 1 rfl) ?_
          refine lv_iload_n hx hb dX2_seenBeside_60 rfl (lv_at hl 2 rfl) ?_
          refine lv_iload hx hb dX2_seenBeside_61 (lv_at hl 0 rfl) ?_
          refine roVi (As := [.int p2, .int x3]) (rest := []) F (c_X2_innAt l D cI cS cJ a u H0 p2 x3 h) (cw_X2_79 hts (Nat.le_of_ble_eq_true rfl) (Nat.le_of_ble_eq_true rfl)) hK hP (recv (ci := 2) (k0 := 0) hK hP rfl rfl) rfl hl.1 rfl (Nat.le_of_ble_eq_true rfl) dX2_seenBeside_63 ⟨Nat.zero_le _, Nat.zero_le _⟩ (fun r9 h => ?_)
          exact hQ h dX2_seenBeside_66
        · replace h := h.2 c8
          refine lv_bipush (v := (10 : Int32)) hx hb dX2_seenBeside_47 (by decide) ?_
          refine lv_aload_n hx hb dX2_seenBeside_49 rfl (lv_at hl 1 rfl) ?_
          refine va_get (D := D) (ci := 2) (v := .ref (a 4)) (C := RX2) (T := TX2) (N := 12) hx hb hts inT2 hown hK.k hP 0 rfl rfl 5 (by decide) (hts _ q_61) (fun _ h9 => h9) rfl dX2_seenBeside_50 ?_
          refine lv_iload_n hx hb dX2_seenBeside_53 rfl (lv_at hl 2 rfl) ?_
          refine roNi (As := [.ref (a 4), .int p2]) (rest := [.int (10 : Int32)]) F (c_X3_read l D cI cS cJ (a 4) 6 (S_roadHalls u) H0 p2 h) (cw_X2_71 hts (nw1 hK) (Nat.le_of_ble_eq_true rfl) (Nat.le_of_ble_eq_true rfl)) hK (vP_one hP 4 rfl) rfl hl.1 rfl (Nat.le_of_ble_eq_true rfl) dX2_seenBeside_54 ⟨Nat.zero_le _, Nat.zero_le _⟩ (fun r10 h => ?_)
          refine lv_iadd hx hb dX2_seenBeside_57 ?_
          exact hQ h dX2_seenBeside_58
      · replace h := h.2 c7
        refine lv_bipush (v := (8 : Int32)) hx hb dX2_seenBeside_38 (by decide) ?_
        exact hQ h dX2_seenBeside_40
    clear e6
    refine lv_if_ne (tgt := 27) hx hb dX2_seenBeside_17 (by decide) (fun c11 => ?_) (fun c11 => ?_)
    · replace h := h.1 c11
      refine lv_iload hx hb dX2_seenBeside_27 (lv_at hl 0 rfl) ?_
      refine lv_iconst (v := (1 : Int32)) hx hb dX2_seenBeside_29 (by decide) ?_
      refine lv_iadd hx hb dX2_seenBeside_30 ?_
      exact w5 (r1 + (1 : Int32)) _ (lv_sub hl [1, 3] rfl) h
    · replace h := h.2 c11
      refine lv_iload hx hb dX2_seenBeside_20 (lv_at hl 0 rfl) ?_
      refine lv_iconst (v := (1 : Int32)) hx hb dX2_seenBeside_22 (by decide) ?_
      refine lv_isub hx hb dX2_seenBeside_23 ?_
      refine lv_goto (tgt := 31) hx hb dX2_seenBeside_24 (by decide) ?_
      exact w5 (r1 - (1 : Int32)) _ (lv_sub hl [1, 3] rfl) h
  · replace h := h.2 c2
    refine lv_iconst (v := (-1 : Int32)) hx hb dX2_seenBeside_14 (by decide) ?_
    exact hQ h dX2_seenBeside_15

def wp_X2_innBit  (p0 : Int32) (post : Int32 → Prop) : Prop :=
  wp_X3_isBetween p0 (0 : Int32) (7 : Int32) (fun r1 => (r1 = 0 → post (0 : Int32)) ∧ (¬ r1 = 0 → post ((1 : Int32) <<< (p0 &&& 31))))
set_option maxHeartbeats 4000000 in
set_option maxRecDepth 100000 in
theorem c_X2_innBit (l : Launch) (D : va_G) (cI cS cJ : ClassId)  (H0 : Heap) (p0 : Int32) {post : Int32 → Prop} (h : wp_X2_innBit p0 post) : Met l yX2_innBit (wsA yX2_innBit cX2_innBit 1 (some .int)) rm_X2_innBit (va_Pc [.int p0] (roP D (tysA cI cS cJ) ([]) H0)) (va_Qi (fun r (_ : Unit) => post r) (fun _ t => t.heap = H0) nF) 0 0 nF := by
  refine mkROi (by decide +kernel) (Nat.le_of_ble_eq_true rfl) (fun {p e s m args below meth c Q ls} hx hb F hts hown hK hP hl hQ => ?_)
  have hown : s.vm.findClass RX2 = some m.cls := hown
  have F : CallFix p m c cX2_innBit 1 s args wsT RX2 := F
  have hl : lv_has ls 1 [(0, .int p0)] := hl
  unfold wp_X2_innBit at h
  refine lv_iload_n hx hb dX2_innBit_0 rfl (lv_at hl 0 rfl) ?_
  refine lv_iconst (v := (0 : Int32)) hx hb dX2_innBit_1 (by decide) ?_
  refine lv_bipush (v := (7 : Int32)) hx hb dX2_innBit_2 (by decide) ?_
  refine roNi (As := [.int p0, .int (0 : Int32), .int (7 : Int32)]) (rest := []) F (c_X3_isBetween l D cI cS cJ H0 p0 (0 : Int32) (7 : Int32) h) (cw_X2_97 hts (nw2 hK) (Nat.le_of_ble_eq_true rfl) (Nat.le_of_ble_eq_true rfl)) hK vP_nil rfl hl.1 rfl (Nat.le_of_ble_eq_true rfl) dX2_innBit_4 ⟨Nat.zero_le _, Nat.zero_le _⟩ (fun r1 h => ?_)
  obtain ⟨b2, h⟩ := h
  refine lv_if_eq (tgt := 16) hx hb dX2_innBit_7 (by decide) (fun c3 => ?_) (fun c3 => ?_)
  · replace h := h.1 c3
    refine lv_iconst (v := (0 : Int32)) hx hb dX2_innBit_16 (by decide) ?_
    exact hQ h dX2_innBit_17
  · replace h := h.2 c3
    refine lv_iconst (v := (1 : Int32)) hx hb dX2_innBit_10 (by decide) ?_
    refine lv_iload_n hx hb dX2_innBit_11 rfl (lv_at hl 0 rfl) ?_
    refine lv_ishl hx hb dX2_innBit_12 ?_
    refine lv_goto (tgt := 17) hx hb dX2_innBit_13 (by decide) ?_
    exact hQ h dX2_innBit_17

def wp_X2_knownMask (u : St) (p1 : Int32) (post : Int32 → Prop) : Prop :=
  LP2 (fun (K3 : Int32 → Int32 → Prop) (x1 : Int32) (x2 : Int32) => ((S_roadCount u) ≤ x2 → post x1) ∧ (¬ (S_roadCount u) ≤ x2 → wp_X2_seenBeside u p1 x2 (0 : Int32) (fun r6 => wp_X2_innBit r6 (fun r7 => wp_X2_seenBeside u p1 x2 (1 : Int32) (fun r8 => wp_X2_innBit r8 (fun r9 => K3 (x1 ||| (r7 ||| r9)) (x2 + 1))))))) (0 : Int32) (0 : Int32)
set_option maxHeartbeats 4000000 in
set_option maxRecDepth 100000 in
theorem c_X2_knownMask (l : Launch) (D : va_G) (cI cS cJ : ClassId) (a : Nat → Nat) (u : St) (H0 : Heap) (p1 : Int32) {post : Int32 → Prop} (h : wp_X2_knownMask u p1 post) : Met l yX2_knownMask (wsA yX2_knownMask cX2_knownMask 4 (some .int)) rm_X2_knownMask (va_Pc [.ref (a 0), .int p1] (roP D (tysA cI cS cJ) (stW cI a u) H0)) (va_Qi (fun r (_ : Unit) => post r) (fun _ t => t.heap = H0) nF) 0 0 nF := by
  refine mkROi (by decide +kernel) (Nat.le_of_ble_eq_true rfl) (fun {p e s m args below meth c Q ls} hx hb F hts hown hK hP hl hQ => ?_)
  have hown : s.vm.findClass RX2 = some m.cls := hown
  have F : CallFix p m c cX2_knownMask 4 s args wsT RX2 := F
  have hl : lv_has ls 4 [(0, .ref (a 0)), (1, .int p1)] := hl
  unfold wp_X2_knownMask at h
  refine lv_iconst (v := (0 : Int32)) hx hb dX2_knownMask_0 (by decide) ?_
  refine lv_istore_n (lv' := [(2, .int (0 : Int32)), (0, .ref (a 0)), (1, .int p1)]) hx hb dX2_knownMask_1 rfl hl (by decide) rfl (fun ls hl => ?_)
  refine lv_iconst (v := (0 : Int32)) hx hb dX2_knownMask_2 (by decide) ?_
  refine lv_istore_n (lv' := [(3, .int (0 : Int32)), (2, .int (0 : Int32)), (0, .ref (a 0)), (1, .int p1)]) hx hb dX2_knownMask_3 rfl hl (by decide) rfl (fun ls hl => ?_)
  refine lpu2 h (fun K3 : Int32 → Int32 → Prop => ∀ (x1 : Int32) (x2 : Int32) (ls : Array Slot), lv_has ls 4 [(0, .ref (a 0)), (1, .int p1), (2, .int x1), (3, .int x2)] → K3 x1 x2 → W p l e rm_X2_knownMask s m args below meth c H0 [] 0 0 Q (F0 m 4 ls [])) ?_ ?_ ?_
  · intro x1 x2 ls hl h
    exact h.elim
  · intro K3
    intro w4 x1 x2 ls hl h
    refine lv_iload_n hx hb dX2_knownMask_4 rfl (lv_at hl 3 rfl) ?_
    refine lv_aload_n hx hb dX2_knownMask_5 rfl (lv_at hl 0 rfl) ?_
    refine va_get (D := D) (ci := 2) (v := .int (S_roadCount u)) (C := RX2) (T := TX2) (N := 12) hx hb hts inT2 hown hK.k hP 0 rfl rfl 2 (by decide) (hts _ q_57) (fun _ h9 => h9) rfl dX2_knownMask_6 ?_
    refine lv_icmp_ge (tgt := 42) hx hb dX2_knownMask_9 (by decide) (fun c5 => ?_) (fun c5 => ?_)
    · replace h := h.1 c5
      refine lv_iload_n hx hb dX2_knownMask_42 rfl (lv_at hl 2 rfl) ?_
      exact hQ h dX2_knownMask_43
    · replace h := h.2 c5
      refine lv_iload_n hx hb dX2_knownMask_12 rfl (lv_at hl 2 rfl) ?_
      refine lv_aload_n hx hb dX2_knownMask_13 rfl (lv_at hl 0 rfl) ?_
      refine lv_iload_n hx hb dX2_knownMask_14 rfl (lv_at hl 1 rfl) ?_
      refine lv_iload_n hx hb dX2_knownMask_15 rfl (lv_at hl 3 rfl) ?_
      refine lv_iconst (v := (0 : Int32)) hx hb dX2_knownMask_16 (by decide) ?_
      refine roVi (As := [.int p1, .int x2, .int (0 : Int32)]) (rest := [.int x1]) F (c_X2_seenBeside l D cI cS cJ a u H0 p1 x2 (0 : Int32) h) (cw_X2_89 hts (Nat.le_of_ble_eq_true rfl) (Nat.le_of_ble_eq_true rfl)) hK hP (recv (ci := 2) (k0 := 0) hK hP rfl rfl) rfl hl.1 rfl (Nat.le_of_ble_eq_true rfl) dX2_knownMask_17 ⟨Nat.zero_le _, Nat.zero_le _⟩ (fun r6 h => ?_)
      refine roSi (As := [.int r6]) (rest := [.int x1]) F (c_X2_innBit l D cI cS cJ H0 r6 h) (cw_X2_93 hts (Nat.le_of_ble_eq_true rfl) (Nat.le_of_ble_eq_true rfl)) hK vP_nil rfl hl.1 rfl (Nat.le_of_ble_eq_true rfl) dX2_knownMask_20 ⟨Nat.zero_le _, Nat.zero_le _⟩ (fun r7 h => ?_)
      refine lv_aload_n hx hb dX2_knownMask_23 rfl (lv_at hl 0 rfl) ?_
      refine lv_iload_n hx hb dX2_knownMask_24 rfl (lv_at hl 1 rfl) ?_
      refine lv_iload_n hx hb dX2_knownMask_25 rfl (lv_at hl 3 rfl) ?_
      refine lv_iconst (v := (1 : Int32)) hx hb dX2_knownMask_26 (by decide) ?_
      refine roVi (As := [.int p1, .int x2, .int (1 : Int32)]) (rest := [.int r7, .int x1]) F (c_X2_seenBeside l D cI cS cJ a u H0 p1 x2 (1 : Int32) h) (cw_X2_89 hts (Nat.le_of_ble_eq_true rfl) (Nat.le_of_ble_eq_true rfl)) hK hP (recv (ci := 2) (k0 := 0) hK hP rfl rfl) rfl hl.1 rfl (Nat.le_of_ble_eq_true rfl) dX2_knownMask_27 ⟨Nat.zero_le _, Nat.zero_le _⟩ (fun r8 h => ?_)
      refine roSi (As := [.int r8]) (rest := [.int r7, .int x1]) F (c_X2_innBit l D cI cS cJ H0 r8 h) (cw_X2_93 hts (Nat.le_of_ble_eq_true rfl) (Nat.le_of_ble_eq_true rfl)) hK vP_nil rfl hl.1 rfl (Nat.le_of_ble_eq_true rfl) dX2_knownMask_30 ⟨Nat.zero_le _, Nat.zero_le _⟩ (fun r9 h => ?_)
      refine lv_ior hx hb dX2_knownMask_33 ?_
      refine lv_ior hx hb dX2_knownMask_34 ?_
      refine lv_istore_n (lv' := [(2, .int (x1 ||| (r7 ||| r9))), (0, .ref (a 0)), (1, .int p1), (3, .int x2)]) hx hb dX2_knownMask_35 rfl hl (by decide) rfl (fun ls hl => ?_)
      refine lv_iinc (v := (x2 + 1)) (lv' := [(3, .int (x2 + 1)), (2, .int (x1 ||| (r7 ||| r9))), (0, .ref (a 0)), (1, .int p1)]) hx hb dX2_knownMask_36 hl (k := 3) rfl rfl (by decide) rfl (fun ls hl => ?_)
      refine lv_goto (tgt := 4) hx hb dX2_knownMask_39 (by decide) ?_
      exact w4 (x1 ||| (r7 ||| r9)) (x2 + 1) _ (lv_sub hl [2, 3, 1, 0] rfl) h
  · intro K3 w4 h
    exact w4 (0 : Int32) (0 : Int32) _ (lv_sub hl [2, 3, 1, 0] rfl) h

def wp_X2_roadsThrough (u : St) (p1 : Int32) (post : Int32 → Prop) : Prop :=
  LP2 (fun (K3 : Int32 → Int32 → Prop) (x1 : Int32) (x2 : Int32) => ((S_roadCount u) ≤ x2 → post x1) ∧ (¬ (S_roadCount u) ≤ x2 → wp_X2_placeOn u x2 p1 (fun r6 => (r6 = (-1 : Int32) → K3 x1 (x2 + 1)) ∧ (¬ r6 = (-1 : Int32) → K3 (x1 + 1) (x2 + 1))))) (0 : Int32) (0 : Int32)
set_option maxHeartbeats 4000000 in
set_option maxRecDepth 100000 in
theorem c_X2_roadsThrough (l : Launch) (D : va_G) (cI cS cJ : ClassId) (a : Nat → Nat) (u : St) (H0 : Heap) (p1 : Int32) {post : Int32 → Prop} (h : wp_X2_roadsThrough u p1 post) : Met l yX2_roadsThrough (wsA yX2_roadsThrough cX2_roadsThrough 4 (some .int)) rm_X2_roadsThrough (va_Pc [.ref (a 0), .int p1] (roP D (tysA cI cS cJ) (stW cI a u) H0)) (va_Qi (fun r (_ : Unit) => post r) (fun _ t => t.heap = H0) nF) 0 0 nF := by
  refine mkROi (by decide +kernel) (Nat.le_of_ble_eq_true rfl) (fun {p e s m args below meth c Q ls} hx hb F hts hown hK hP hl hQ => ?_)
  have hown : s.vm.findClass RX2 = some m.cls := hown
  have F : CallFix p m c cX2_roadsThrough 4 s args wsT RX2 := F
  have hl : lv_has ls 4 [(0, .ref (a 0)), (1, .int p1)] := hl
  unfold wp_X2_roadsThrough at h
  refine lv_iconst (v := (0 : Int32)) hx hb dX2_roadsThrough_0 (by decide) ?_
  refine lv_istore_n (lv' := [(2, .int (0 : Int32)), (0, .ref (a 0)), (1, .int p1)]) hx hb dX2_roadsThrough_1 rfl hl (by decide) rfl (fun ls hl => ?_)
  refine lv_iconst (v := (0 : Int32)) hx hb dX2_roadsThrough_2 (by decide) ?_
  refine lv_istore_n (lv' := [(3, .int (0 : Int32)), (2, .int (0 : Int32)), (0, .ref (a 0)), (1, .int p1)]) hx hb dX2_roadsThrough_3 rfl hl (by decide) rfl (fun ls hl => ?_)
  refine lpu2 h (fun K3 : Int32 → Int32 → Prop => ∀ (x1 : Int32) (x2 : Int32) (ls : Array Slot), lv_has ls 4 [(0, .ref (a 0)), (1, .int p1), (2, .int x1), (3, .int x2)] → K3 x1 x2 → W p l e rm_X2_roadsThrough s m args below meth c H0 [] 0 0 Q (F0 m 4 ls [])) ?_ ?_ ?_
  · intro x1 x2 ls hl h
    exact h.elim
  · intro K3
    intro w4 x1 x2 ls hl h
    refine lv_iload_n hx hb dX2_roadsThrough_4 rfl (lv_at hl 3 rfl) ?_
    refine lv_aload_n hx hb dX2_roadsThrough_5 rfl (lv_at hl 0 rfl) ?_
    refine va_get (D := D) (ci := 2) (v := .int (S_roadCount u)) (C := RX2) (T := TX2) (N := 12) hx hb hts inT2 hown hK.k hP 0 rfl rfl 2 (by decide) (hts _ q_57) (fun _ h9 => h9) rfl dX2_roadsThrough_6 ?_
    refine lv_icmp_ge (tgt := 31) hx hb dX2_roadsThrough_9 (by decide) (fun c5 => ?_) (fun c5 => ?_)
    · replace h := h.1 c5
      refine lv_iload_n hx hb dX2_roadsThrough_31 rfl (lv_at hl 2 rfl) ?_
      exact hQ h dX2_roadsThrough_32
    · replace h := h.2 c5
      refine lv_aload_n hx hb dX2_roadsThrough_12 rfl (lv_at hl 0 rfl) ?_
      refine lv_iload_n hx hb dX2_roadsThrough_13 rfl (lv_at hl 3 rfl) ?_
      refine lv_iload_n hx hb dX2_roadsThrough_14 rfl (lv_at hl 1 rfl) ?_
      refine roVi (As := [.int x2, .int p1]) (rest := []) F (c_X2_placeOn l D cI cS cJ a u H0 x2 p1 h) (cw_X2_86 hts (Nat.le_of_ble_eq_true rfl) (Nat.le_of_ble_eq_true rfl)) hK hP (recv (ci := 2) (k0 := 0) hK hP rfl rfl) rfl hl.1 rfl (Nat.le_of_ble_eq_true rfl) dX2_roadsThrough_15 ⟨Nat.zero_le _, Nat.zero_le _⟩ (fun r6 h => ?_)
      refine lv_iconst (v := (-1 : Int32)) hx hb dX2_roadsThrough_18 (by decide) ?_
      refine lv_icmp_eq (tgt := 25) hx hb dX2_roadsThrough_19 (by decide) (fun c7 => ?_) (fun c7 => ?_)
      · replace h := h.1 c7
        refine lv_iinc (v := (x2 + 1)) (lv' := [(3, .int (x2 + 1)), (0, .ref (a 0)), (1, .int p1), (2, .int x1)]) hx hb dX2_roadsThrough_25 hl (k := 3) rfl rfl (by decide) rfl (fun ls hl => ?_)
        refine lv_goto (tgt := 4) hx hb dX2_roadsThrough_28 (by decide) ?_
        exact w4 x1 (x2 + 1) _ (lv_sub hl [1, 2, 3, 0] rfl) h
      · replace h := h.2 c7
        refine lv_iinc (v := (x1 + 1)) (lv' := [(2, .int (x1 + 1)), (0, .ref (a 0)), (1, .int p1), (3, .int x2)]) hx hb dX2_roadsThrough_22 hl (k := 2) rfl rfl (by decide) rfl (fun ls hl => ?_)
        refine lv_iinc (v := (x2 + 1)) (lv' := [(3, .int (x2 + 1)), (2, .int (x1 + 1)), (0, .ref (a 0)), (1, .int p1)]) hx hb dX2_roadsThrough_25 hl (k := 3) rfl rfl (by decide) rfl (fun ls hl => ?_)
        refine lv_goto (tgt := 4) hx hb dX2_roadsThrough_28 (by decide) ?_
        exact w4 (x1 + 1) (x2 + 1) _ (lv_sub hl [2, 3, 1, 0] rfl) h
  · intro K3 w4 h
    exact w4 (0 : Int32) (0 : Int32) _ (lv_sub hl [2, 3, 1, 0] rfl) h

def wp_X2_leastUsedInn (u : St) (p1 : Int32) (post : Int32 → Prop) : Prop :=
  LP2 (fun (K3 : Int32 → Int32 → Prop) (x1 : Int32) (x2 : Int32) => ((6 : Int32) < x2 → post (-1 : Int32)) ∧ (¬ (6 : Int32) < x2 → LP2 (fun (K8 : Int32 → Int32 → Prop) (x6 : Int32) (x7 : Int32) => ((8 : Int32) ≤ x7 → K3 x6 (x2 + 1)) ∧ (¬ (8 : Int32) ≤ x7 → wp_X2_hasOpen u x7 (fun r11 => (r11 = 0 → K8 x6 (x7 + 1)) ∧ (¬ r11 = 0 → wp_X2_roadsThrough u x7 (fun r14 => (¬ r14 = x2 → K8 x6 (x7 + 1)) ∧ (r14 = x2 → (¬ (x6 + 1) = p1 → K8 (x6 + 1) (x7 + 1)) ∧ ((x6 + 1) = p1 → post x7))))))) x1 (0 : Int32))) (0 : Int32) (0 : Int32)
set_option maxHeartbeats 4000000 in
set_option maxRecDepth 100000 in
theorem c_X2_leastUsedInn (l : Launch) (D : va_G) (cI cS cJ : ClassId) (a : Nat → Nat) (u : St) (H0 : Heap) (p1 : Int32) {post : Int32 → Prop} (h : wp_X2_leastUsedInn u p1 post) : Met l yX2_leastUsedInn (wsA yX2_leastUsedInn cX2_leastUsedInn 5 (some .int)) rm_X2_leastUsedInn (va_Pc [.ref (a 0), .int p1] (roP D (tysA cI cS cJ) (stW cI a u) H0)) (va_Qi (fun r (_ : Unit) => post r) (fun _ t => t.heap = H0) nF) 0 0 nF := by
  refine mkROi (by decide +kernel) (Nat.le_of_ble_eq_true rfl) (fun {p e s m args below meth c Q ls} hx hb F hts hown hK hP hl hQ => ?_)
  have hown : s.vm.findClass RX2 = some m.cls := hown
  have F : CallFix p m c cX2_leastUsedInn 5 s args wsT RX2 := F
  have hl : lv_has ls 5 [(0, .ref (a 0)), (1, .int p1)] := hl
  unfold wp_X2_leastUsedInn at h
  refine lv_iconst (v := (0 : Int32)) hx hb dX2_leastUsedInn_0 (by decide) ?_
  refine lv_istore_n (lv' := [(2, .int (0 : Int32)), (0, .ref (a 0)), (1, .int p1)]) hx hb dX2_leastUsedInn_1 rfl hl (by decide) rfl (fun ls hl => ?_)
  refine lv_iconst (v := (0 : Int32)) hx hb dX2_leastUsedInn_2 (by decide) ?_
  refine lv_istore_n (lv' := [(3, .int (0 : Int32)), (2, .int (0 : Int32)), (0, .ref (a 0)), (1, .int p1)]) hx hb dX2_leastUsedInn_3 rfl hl (by decide) rfl (fun ls hl => ?_)
  refine lpu2 h (fun K3 : Int32 → Int32 → Prop => ∀ (x1 : Int32) (x2 : Int32) (ls : Array Slot), lv_has ls 5 [(0, .ref (a 0)), (1, .int p1), (2, .int x1), (3, .int x2)] → K3 x1 x2 → W p l e rm_X2_leastUsedInn s m args below meth c H0 [] 0 0 Q (F0 m 4 ls [])) ?_ ?_ ?_
  · intro x1 x2 ls hl h
    exact h.elim
  · intro K3
    intro w4 x1 x2 ls hl h
    refine lv_iload_n hx hb dX2_leastUsedInn_4 rfl (lv_at hl 3 rfl) ?_
    refine lv_bipush (v := (6 : Int32)) hx hb dX2_leastUsedInn_5 (by decide) ?_
    refine lv_icmp_gt (tgt := 62) hx hb dX2_leastUsedInn_7 (by decide) (fun c5 => ?_) (fun c5 => ?_)
    · replace h := h.1 c5
      refine lv_iconst (v := (-1 : Int32)) hx hb dX2_leastUsedInn_62 (by decide) ?_
      exact hQ h dX2_leastUsedInn_63
    · replace h := h.2 c5
      refine lv_iconst (v := (0 : Int32)) hx hb dX2_leastUsedInn_10 (by decide) ?_
      refine lv_istore (lv' := [(4, .int (0 : Int32)), (0, .ref (a 0)), (1, .int p1), (2, .int x1), (3, .int x2)]) hx hb dX2_leastUsedInn_11 hl (by decide) rfl (fun ls hl => ?_)
      refine lpu2 h (fun K8 : Int32 → Int32 → Prop => ∀ (x6 : Int32) (x7 : Int32) (ls : Array Slot), lv_has ls 5 [(0, .ref (a 0)), (1, .int p1), (2, .int x6), (3, .int x2), (4, .int x7)] → K8 x6 x7 → W p l e rm_X2_leastUsedInn s m args below meth c H0 [] 0 0 Q (F0 m 13 ls [])) ?_ ?_ ?_
      · intro x6 x7 ls hl h
        exact h.elim
      · intro K8
        intro w9 x6 x7 ls hl h
        refine lv_iload hx hb dX2_leastUsedInn_13 (lv_at hl 4 rfl) ?_
        refine lv_bipush (v := (8 : Int32)) hx hb dX2_leastUsedInn_15 (by decide) ?_
        refine lv_icmp_ge (tgt := 56) hx hb dX2_leastUsedInn_17 (by decide) (fun c10 => ?_) (fun c10 => ?_)
        · replace h := h.1 c10
          refine lv_iinc (v := (x2 + 1)) (lv' := [(3, .int (x2 + 1)), (0, .ref (a 0)), (1, .int p1), (2, .int x6), (4, .int x7)]) hx hb dX2_leastUsedInn_56 hl (k := 3) rfl rfl (by decide) rfl (fun ls hl => ?_)
          refine lv_goto (tgt := 4) hx hb dX2_leastUsedInn_59 (by decide) ?_
          exact w4 x6 (x2 + 1) _ (lv_sub hl [1, 2, 3, 0] rfl) h
        · replace h := h.2 c10
          refine lv_aload_n hx hb dX2_leastUsedInn_20 rfl (lv_at hl 0 rfl) ?_
          refine lv_iload hx hb dX2_leastUsedInn_21 (lv_at hl 4 rfl) ?_
          refine roVi (As := [.int x7]) (rest := []) F (c_X2_hasOpen l D cI cS cJ a u H0 x7 h) (cw_X2_82 hts (Nat.le_of_ble_eq_true rfl) (Nat.le_of_ble_eq_true rfl)) hK hP (recv (ci := 2) (k0 := 0) hK hP rfl rfl) rfl hl.1 rfl (Nat.le_of_ble_eq_true rfl) dX2_leastUsedInn_23 ⟨Nat.zero_le _, Nat.zero_le _⟩ (fun r11 h => ?_)
          obtain ⟨b12, h⟩ := h
          refine lv_if_eq (tgt := 50) hx hb dX2_leastUsedInn_26 (by decide) (fun c13 => ?_) (fun c13 => ?_)
          · replace h := h.1 c13
            refine lv_iinc (v := (x7 + 1)) (lv' := [(4, .int (x7 + 1)), (0, .ref (a 0)), (1, .int p1), (2, .int x6), (3, .int x2)]) hx hb dX2_leastUsedInn_50 hl (k := 4) rfl rfl (by decide) rfl (fun ls hl => ?_)
            refine lv_goto (tgt := 13) hx hb dX2_leastUsedInn_53 (by decide) ?_
            exact w9 x6 (x7 + 1) _ (lv_sub hl [1, 2, 3, 4, 0] rfl) h
          · replace h := h.2 c13
            refine lv_aload_n hx hb dX2_leastUsedInn_29 rfl (lv_at hl 0 rfl) ?_
            refine lv_iload hx hb dX2_leastUsedInn_30 (lv_at hl 4 rfl) ?_
            refine roVi (As := [.int x7]) (rest := []) F (c_X2_roadsThrough l D cI cS cJ a u H0 x7 h) (cw_X2_101 hts (Nat.le_of_ble_eq_true rfl) (Nat.le_of_ble_eq_true rfl)) hK hP (recv (ci := 2) (k0 := 0) hK hP rfl rfl) rfl hl.1 rfl (Nat.le_of_ble_eq_true rfl) dX2_leastUsedInn_32 ⟨Nat.zero_le _, Nat.zero_le _⟩ (fun r14 h => ?_)
            refine lv_iload_n hx hb dX2_leastUsedInn_35 rfl (lv_at hl 3 rfl) ?_
            refine lv_icmp_ne (tgt := 50) hx hb dX2_leastUsedInn_36 (by decide) (fun c15 => ?_) (fun c15 => ?_)
            · replace h := h.1 c15
              refine lv_iinc (v := (x7 + 1)) (lv' := [(4, .int (x7 + 1)), (0, .ref (a 0)), (1, .int p1), (2, .int x6), (3, .int x2)]) hx hb dX2_leastUsedInn_50 hl (k := 4) rfl rfl (by decide) rfl (fun ls hl => ?_)
              refine lv_goto (tgt := 13) hx hb dX2_leastUsedInn_53 (by decide) ?_
              exact w9 x6 (x7 + 1) _ (lv_sub hl [1, 2, 3, 4, 0] rfl) h
            · replace h := h.2 c15
              refine lv_iinc (v := (x6 + 1)) (lv' := [(2, .int (x6 + 1)), (0, .ref (a 0)), (1, .int p1), (3, .int x2), (4, .int x7)]) hx hb dX2_leastUsedInn_39 hl (k := 2) rfl rfl (by decide) rfl (fun ls hl => ?_)
              refine lv_iload_n hx hb dX2_leastUsedInn_42 rfl (lv_at hl 0 rfl) ?_
              refine lv_iload_n hx hb dX2_leastUsedInn_43 rfl (lv_at hl 2 rfl) ?_
              refine lv_icmp_ne (tgt := 50) hx hb dX2_leastUsedInn_44 (by decide) (fun c16 => ?_) (fun c16 => ?_)
              · replace h := h.1 c16
                refine lv_iinc (v := (x7 + 1)) (lv' := [(4, .int (x7 + 1)), (2, .int (x6 + 1)), (0, .ref (a 0)), (1, .int p1), (3, .int x2)]) hx hb dX2_leastUsedInn_50 hl (k := 4) rfl rfl (by decide) rfl (fun ls hl => ?_)
                refine lv_goto (tgt := 13) hx hb dX2_leastUsedInn_53 (by decide) ?_
                exact w9 (x6 + 1) (x7 + 1) _ (lv_sub hl [2, 3, 1, 4, 0] rfl) h
              · replace h := h.2 c16
                refine lv_iload hx hb dX2_leastUsedInn_47 (lv_at hl 4 rfl) ?_
                exact hQ h dX2_leastUsedInn_49
      · intro K8 w9 h
        exact w9 x1 (0 : Int32) _ (lv_sub hl [1, 2, 3, 4, 0] rfl) h
  · intro K3 w4 h
    exact w4 (0 : Int32) (0 : Int32) _ (lv_sub hl [2, 3, 1, 0] rfl) h

def wp_X2_putNumber (u : St) (p1 : Int32) (p2 : Int32) (p3 : Int32) (post : St → Prop) : Prop :=
  wp_X3_write 48 (S_envelopeNumbers u) (((4 : Int32) * p1) + p2) p3 (fun f2 => post (aS_envelopeNumbers u f2))
set_option maxHeartbeats 4000000 in
set_option maxRecDepth 100000 in
theorem c_X2_putNumber (l : Launch) (D : va_G) (cI cS cJ : ClassId) (a : Nat → Nat) (u : St) (sz : Nat) (p1 : Int32) (p2 : Int32) (p3 : Int32) {post : St → Prop} (h : wp_X2_putNumber u p1 p2 p3 post) : Met l yX2_putNumber (wsA yX2_putNumber cX2_putNumber 4 none) rm_X2_putNumber (va_Pc [.ref (a 0), .int p1, .int p2, .int p3] (rwP D (tysA cI cS cJ) (stW cI a u) sz)) (va_Qv post (fun u9 t => va_P D vwCl ((stW cI a) u9) t.heap ∧ va_D (va_A (stW cI a u) sz) ((stW cI a) u9)) (va_A (stW cI a u) sz)) 0 0 (va_A (stW cI a u) sz) := by
  refine mkRWv (wf := (stW cI a)) (by decide +kernel) (Nat.le_of_ble_eq_true rfl) (fun {p e s m args below meth c Q ls A H0 H locs} hx hb F hts hown hin hK hP hD hS hA hl hQ => ?_)
  have hown : s.vm.findClass RX2 = some m.cls := hown
  have F : CallFix p m c cX2_putNumber 4 s args wsT RX2 := F
  have hl : lv_has ls 4 [(0, .ref (a 0)), (1, .int p1), (2, .int p2), (3, .int p3)] := hl
  unfold wp_X2_putNumber at h
  refine lv_aload_n hx hb dX2_putNumber_0 rfl (lv_at hl 0 rfl) ?_
  refine va_get (D := D) (ci := 2) (v := .ref (a 5)) (C := RX2) (T := TX2) (N := 12) hx hb hts inT2 hown hK.k hP 0 rfl rfl 7 (by decide) (hts _ q_65) (fun _ h9 => h9) rfl dX2_putNumber_1 ?_
  refine lv_iconst (v := (4 : Int32)) hx hb dX2_putNumber_4 (by decide) ?_
  refine lv_iload_n hx hb dX2_putNumber_5 rfl (lv_at hl 1 rfl) ?_
  refine lv_imul hx hb dX2_putNumber_6 ?_
  refine lv_iload_n hx hb dX2_putNumber_7 rfl (lv_at hl 2 rfl) ?_
  refine lv_iadd hx hb dX2_putNumber_8 ?_
  refine lv_iload_n hx hb dX2_putNumber_9 rfl (lv_at hl 3 rfl) ?_
  refine rwNv (wr := List.eraseIdx (stW cI a u) 5) (wf := fun f1 => [((a 5), .inl (cI, 48, .inl f1))]) (As := [.ref (a 5), .int (((4 : Int32) * p1) + p2), .int p3]) (rest := []) (perm_k _ 5 rfl) F (c_X3_write l D cI cS cJ (a 5) 48 (S_envelopeNumbers u) H.size (((4 : Int32) * p1) + p2) p3 h) (cw_X2_67 hts (nw3 hK) (Nat.le_of_ble_eq_true rfl) (Nat.le_of_ble_eq_true rfl)) hK hP hD hS hA rfl hl.1 rfl (Nat.le_of_ble_eq_true rfl) dX2_putNumber_10 ⟨Nat.zero_le _, Nat.zero_le _⟩ (fun f2 H locs h hP hD hS => ?_)
  have hP : va_P D vwCl (stW cI a (aS_envelopeNumbers u f2)) H := vP_set1 (k := 5) (ws := stW cI a u) rfl hP
  have hD : va_D A (stW cI a (aS_envelopeNumbers u f2)) := vD_set1 (k := 5) (ws := stW cI a u) rfl hD
  exact hQ h hP hD hS dX2_putNumber_13

def wp_X2_countUp (u : St) (p1 : Int32) (post : St → Prop) : Prop :=
  wp_X3_read 5 (S_counts u) p1 (fun r1 => wp_X3_write 5 (S_counts u) p1 (r1 + (1 : Int32)) (fun f3 => post (aS_counts u f3)))
set_option maxHeartbeats 4000000 in
set_option maxRecDepth 100000 in
theorem c_X2_countUp (l : Launch) (D : va_G) (cI cS cJ : ClassId) (a : Nat → Nat) (u : St) (sz : Nat) (p1 : Int32) {post : St → Prop} (h : wp_X2_countUp u p1 post) : Met l yX2_countUp (wsA yX2_countUp cX2_countUp 2 none) rm_X2_countUp (va_Pc [.ref (a 0), .int p1] (rwP D (tysA cI cS cJ) (stW cI a u) sz)) (va_Qv post (fun u9 t => va_P D vwCl ((stW cI a) u9) t.heap ∧ va_D (va_A (stW cI a u) sz) ((stW cI a) u9)) (va_A (stW cI a u) sz)) 0 0 (va_A (stW cI a u) sz) := by
  refine mkRWv (wf := (stW cI a)) (by decide +kernel) (Nat.le_of_ble_eq_true rfl) (fun {p e s m args below meth c Q ls A H0 H locs} hx hb F hts hown hin hK hP hD hS hA hl hQ => ?_)
  have hown : s.vm.findClass RX2 = some m.cls := hown
  have F : CallFix p m c cX2_countUp 2 s args wsT RX2 := F
  have hl : lv_has ls 2 [(0, .ref (a 0)), (1, .int p1)] := hl
  unfold wp_X2_countUp at h
  refine lv_aload_n hx hb dX2_countUp_0 rfl (lv_at hl 0 rfl) ?_
  refine va_get (D := D) (ci := 2) (v := .ref (a 8)) (C := RX2) (T := TX2) (N := 12) hx hb hts inT2 hown hK.k hP 0 rfl rfl 11 (by decide) (hts _ q_72) (fun _ h9 => h9) rfl dX2_countUp_1 ?_
  refine lv_iload_n hx hb dX2_countUp_4 rfl (lv_at hl 1 rfl) ?_
  refine lv_aload_n hx hb dX2_countUp_5 rfl (lv_at hl 0 rfl) ?_
  refine va_get (D := D) (ci := 2) (v := .ref (a 8)) (C := RX2) (T := TX2) (N := 12) hx hb hts inT2 hown hK.k hP 0 rfl rfl 11 (by decide) (hts _ q_72) (fun _ h9 => h9) rfl dX2_countUp_6 ?_
  refine lv_iload_n hx hb dX2_countUp_9 rfl (lv_at hl 1 rfl) ?_
  refine roNi (As := [.ref (a 8), .int p1]) (rest := [.int p1, .ref (a 8)]) F (c_X3_read l D cI cS cJ (a 8) 5 (S_counts u) H p1 h) (cw_X2_71 hts (nw1 hK) (Nat.le_of_ble_eq_true rfl) (Nat.le_of_ble_eq_true rfl)) hK (vP_one hP 8 rfl) rfl hl.1 rfl (Nat.le_of_ble_eq_true rfl) dX2_countUp_10 ⟨Nat.zero_le _, Nat.zero_le _⟩ (fun r1 h => ?_)
  refine lv_iconst (v := (1 : Int32)) hx hb dX2_countUp_13 (by decide) ?_
  refine lv_iadd hx hb dX2_countUp_14 ?_
  refine rwNv (wr := List.eraseIdx (stW cI a u) 8) (wf := fun f1 => [((a 8), .inl (cI, 5, .inl f1))]) (As := [.ref (a 8), .int p1, .int (r1 + (1 : Int32))]) (rest := []) (perm_k _ 8 rfl) F (c_X3_write l D cI cS cJ (a 8) 5 (S_counts u) H.size p1 (r1 + (1 : Int32)) h) (cw_X2_67 hts (nw3 hK) (Nat.le_of_ble_eq_true rfl) (Nat.le_of_ble_eq_true rfl)) hK hP hD hS hA rfl hl.1 rfl (Nat.le_of_ble_eq_true rfl) dX2_countUp_15 ⟨Nat.zero_le _, Nat.zero_le _⟩ (fun f3 H locs h hP hD hS => ?_)
  have hP : va_P D vwCl (stW cI a (aS_counts u f3)) H := vP_set1 (k := 8) (ws := stW cI a u) rfl hP
  have hD : va_D A (stW cI a (aS_counts u f3)) := vD_set1 (k := 8) (ws := stW cI a u) rfl hD
  exact hQ h hP hD hS dX2_countUp_18

def wp_X2_addEnvelope (u : St) (p1 : Int32) (p2 : Int32) (p3 : Int32) (p4 : Int32) (post : Int32 → St → Prop) : Prop :=
  wp_X2_putNumber u (S_envelopeCount u) (0 : Int32) p1 (fun u2 => wp_X2_putNumber u2 (S_envelopeCount u) (1 : Int32) p2 (fun u4 => wp_X2_putNumber u4 (S_envelopeCount u) (2 : Int32) p3 (fun u6 => wp_X2_putNumber u6 (S_envelopeCount u) (3 : Int32) p4 (fun u8 => post (S_envelopeCount u) (sS_envelopeCount u8 ((S_envelopeCount u8) + (1 : Int32)))))))
set_option maxHeartbeats 4000000 in
set_option maxRecDepth 100000 in
theorem c_X2_addEnvelope (l : Launch) (D : va_G) (cI cS cJ : ClassId) (a : Nat → Nat) (u : St) (sz : Nat) (p1 : Int32) (p2 : Int32) (p3 : Int32) (p4 : Int32) {post : Int32 → St → Prop} (h : wp_X2_addEnvelope u p1 p2 p3 p4 post) : Met l yX2_addEnvelope (wsA yX2_addEnvelope cX2_addEnvelope 6 (some .int)) rm_X2_addEnvelope (va_Pc [.ref (a 0), .int p1, .int p2, .int p3, .int p4] (rwP D (tysA cI cS cJ) (stW cI a u) sz)) (va_Qi post (fun u9 t => va_P D vwCl ((stW cI a) u9) t.heap ∧ va_D (va_A (stW cI a u) sz) ((stW cI a) u9)) (va_A (stW cI a u) sz)) 0 0 (va_A (stW cI a u) sz) := by
  refine mkRWi (wf := (stW cI a)) (by decide +kernel) (Nat.le_of_ble_eq_true rfl) (fun {p e s m args below meth c Q ls A H0 H locs} hx hb F hts hown hK hP hD hS hA hl hQ => ?_)
  have hown : s.vm.findClass RX2 = some m.cls := hown
  have F : CallFix p m c cX2_addEnvelope 6 s args wsT RX2 := F
  have hl : lv_has ls 6 [(0, .ref (a 0)), (1, .int p1), (2, .int p2), (3, .int p3), (4, .int p4)] := hl
  unfold wp_X2_addEnvelope at h
  refine lv_aload_n hx hb dX2_addEnvelope_0 rfl (lv_at hl 0 rfl) ?_
  refine va_get (D := D) (ci := 2) (v := .int (S_envelopeCount u)) (C := RX2) (T := TX2) (N := 12) hx hb hts inT2 hown hK.k hP 0 rfl rfl 6 (by decide) (hts _ q_63) (fun _ h9 => h9) rfl dX2_addEnvelope_1 ?_
  refine lv_istore (lv' := [(5, .int (S_envelopeCount u)), (0, .ref (a 0)), (1, .int p1), (2, .int p2), (3, .int p3), (4, .int p4)]) hx hb dX2_addEnvelope_4 hl (by decide) rfl (fun ls hl => ?_)
  refine lv_aload_n hx hb dX2_addEnvelope_6 rfl (lv_at hl 1 rfl) ?_
  refine lv_iload hx hb dX2_addEnvelope_7 (lv_at hl 0 rfl) ?_
  refine lv_iconst (v := (0 : Int32)) hx hb dX2_addEnvelope_9 (by decide) ?_
  refine lv_iload_n hx hb dX2_addEnvelope_10 rfl (lv_at hl 2 rfl) ?_
  refine rwVv0 (As := [.int (S_envelopeCount u), .int (0 : Int32), .int p1]) (rest := []) F (c_X2_putNumber l D cI cS cJ a u H.size (S_envelopeCount u) (0 : Int32) p1 h) (cw_X2_118 hts (Nat.le_of_ble_eq_true rfl) (Nat.le_of_ble_eq_true rfl)) hK hP hD hS hA (recv (ci := 2) (k0 := 0) hK hP rfl rfl) rfl hl.1 rfl (Nat.le_of_ble_eq_true rfl) dX2_addEnvelope_11 ⟨Nat.zero_le _, Nat.zero_le _⟩ (fun u2 H locs h hP hD hS => ?_)
  refine lv_aload_n hx hb dX2_addEnvelope_14 rfl (lv_at hl 1 rfl) ?_
  refine lv_iload hx hb dX2_addEnvelope_15 (lv_at hl 0 rfl) ?_
  refine lv_iconst (v := (1 : Int32)) hx hb dX2_addEnvelope_17 (by decide) ?_
  refine lv_iload_n hx hb dX2_addEnvelope_18 rfl (lv_at hl 3 rfl) ?_
  refine rwVv0 (As := [.int (S_envelopeCount u), .int (1 : Int32), .int p2]) (rest := []) F (c_X2_putNumber l D cI cS cJ a u2 H.size (S_envelopeCount u) (1 : Int32) p2 h) (cw_X2_118 hts (Nat.le_of_ble_eq_true rfl) (Nat.le_of_ble_eq_true rfl)) hK hP hD hS hA (recv (ci := 2) (k0 := 0) hK hP rfl rfl) rfl hl.1 rfl (Nat.le_of_ble_eq_true rfl) dX2_addEnvelope_19 ⟨Nat.zero_le _, Nat.zero_le _⟩ (fun u4 H locs h hP hD hS => ?_)
  refine lv_aload_n hx hb dX2_addEnvelope_22 rfl (lv_at hl 1 rfl) ?_
  refine lv_iload hx hb dX2_addEnvelope_23 (lv_at hl 0 rfl) ?_
  refine lv_iconst (v := (2 : Int32)) hx hb dX2_addEnvelope_25 (by decide) ?_
  refine lv_iload_n hx hb dX2_addEnvelope_26 rfl (lv_at hl 4 rfl) ?_
  refine rwVv0 (As := [.int (S_envelopeCount u), .int (2 : Int32), .int p3]) (rest := []) F (c_X2_putNumber l D cI cS cJ a u4 H.size (S_envelopeCount u) (2 : Int32) p3 h) (cw_X2_118 hts (Nat.le_of_ble_eq_true rfl) (Nat.le_of_ble_eq_true rfl)) hK hP hD hS hA (recv (ci := 2) (k0 := 0) hK hP rfl rfl) rfl hl.1 rfl (Nat.le_of_ble_eq_true rfl) dX2_addEnvelope_27 ⟨Nat.zero_le _, Nat.zero_le _⟩ (fun u6 H locs h hP hD hS => ?_)
  refine lv_aload_n hx hb dX2_addEnvelope_30 rfl (lv_at hl 1 rfl) ?_
  refine lv_iload hx hb dX2_addEnvelope_31 (lv_at hl 0 rfl) ?_
  refine lv_iconst (v := (3 : Int32)) hx hb dX2_addEnvelope_33 (by decide) ?_
  refine lv_iload hx hb dX2_addEnvelope_34 (lv_at hl 5 rfl) ?_
  refine rwVv0 (As := [.int (S_envelopeCount u), .int (3 : Int32), .int p4]) (rest := []) F (c_X2_putNumber l D cI cS cJ a u6 H.size (S_envelopeCount u) (3 : Int32) p4 h) (cw_X2_118 hts (Nat.le_of_ble_eq_true rfl) (Nat.le_of_ble_eq_true rfl)) hK hP hD hS hA (recv (ci := 2) (k0 := 0) hK hP rfl rfl) rfl hl.1 rfl (Nat.le_of_ble_eq_true rfl) dX2_addEnvelope_36 ⟨Nat.zero_le _, Nat.zero_le _⟩ (fun u8 H locs h hP hD hS => ?_)
  refine lv_aload_n hx hb dX2_addEnvelope_39 rfl (lv_at hl 1 rfl) ?_
  refine lv_dup hx hb dX2_addEnvelope_40 rfl ?_
  refine va_get (D := D) (ci := 2) (v := .int (S_envelopeCount u8)) (C := RX2) (T := TX2) (N := 12) hx hb hts inT2 hown hK.k hP 0 rfl rfl 6 (by decide) (hts _ q_63) (fun _ h9 => h9) rfl dX2_addEnvelope_41 ?_
  refine lv_iconst (v := (1 : Int32)) hx hb dX2_addEnvelope_44 (by decide) ?_
  refine lv_iadd hx hb dX2_addEnvelope_45 ?_
  refine va_put (D := D) (ci := 2) (v := .int ((S_envelopeCount u8) + (1 : Int32))) (ty := .int) (C := RX2) (T := TX2) (N := 12) hx hb hts inT2 tyX2 tyX2_ok nmX2 hown hK.k hP hD hS 0 rfl rfl 6 (by decide) (hts _ q_63) (fun _ h9 => h9) rfl (by decide +kernel) rfl rfl (Nat.le_of_ble_eq_true rfl) dX2_addEnvelope_46 (fun H locs hP hD hS => ?_)
  have hP : va_P D vwCl (stW cI a (sS_envelopeCount u8 ((S_envelopeCount u8) + (1 : Int32)))) H := hP
  have hD : va_D A (stW cI a (sS_envelopeCount u8 ((S_envelopeCount u8) + (1 : Int32)))) := hD
  refine lv_iload hx hb dX2_addEnvelope_49 (lv_at hl 0 rfl) ?_
  exact hQ h hP hD hS dX2_addEnvelope_51

def wp_X2_addLetter (u : St) (p1 : Int32) (p2 : Int32) (post : Int32 → St → Prop) : Prop :=
  LP2 (fun (K3 : Int32 → Int32 → Prop) (x1 : Int32) (x2 : Int32) => (x2 < (1 : Int32) → wp_X2_countUp u (0 : Int32) (fun u7 => wp_X2_addEnvelope u7 p1 (0 : Int32) x1 (0 : Int32) (fun r8 u9 => post r8 u9))) ∧ (¬ x2 < (1 : Int32) → wp_X2_keyAt u p1 x2 (fun r10 => wp_X3_covered x1 r10 (fun r11 => K3 r11 (x2 + (-1)))))) p2 (3 : Int32)
set_option maxHeartbeats 4000000 in
set_option maxRecDepth 100000 in
theorem c_X2_addLetter (l : Launch) (D : va_G) (cI cS cJ : ClassId) (a : Nat → Nat) (u : St) (sz : Nat) (p1 : Int32) (p2 : Int32) {post : Int32 → St → Prop} (h : wp_X2_addLetter u p1 p2 post) : Met l yX2_addLetter (wsA yX2_addLetter cX2_addLetter 5 (some .int)) rm_X2_addLetter (va_Pc [.ref (a 0), .int p1, .int p2] (rwP D (tysA cI cS cJ) (stW cI a u) sz)) (va_Qi post (fun u9 t => va_P D vwCl ((stW cI a) u9) t.heap ∧ va_D (va_A (stW cI a u) sz) ((stW cI a) u9)) (va_A (stW cI a u) sz)) 0 0 (va_A (stW cI a u) sz) := by
  refine mkRWi (wf := (stW cI a)) (by decide +kernel) (Nat.le_of_ble_eq_true rfl) (fun {p e s m args below meth c Q ls A H0 H locs} hx hb F hts hown hK hP hD hS hA hl hQ => ?_)
  have hown : s.vm.findClass RX2 = some m.cls := hown
  have F : CallFix p m c cX2_addLetter 5 s args wsT RX2 := F
  have hl : lv_has ls 5 [(0, .ref (a 0)), (1, .int p1), (2, .int p2)] := hl
  unfold wp_X2_addLetter at h
  refine lv_iload_n hx hb dX2_addLetter_0 rfl (lv_at hl 2 rfl) ?_
  refine lv_istore_n (lv' := [(3, .int p2), (0, .ref (a 0)), (1, .int p1), (2, .int p2)]) hx hb dX2_addLetter_1 rfl hl (by decide) rfl (fun ls hl => ?_)
  refine lv_iconst (v := (3 : Int32)) hx hb dX2_addLetter_2 (by decide) ?_
  refine lv_istore (lv' := [(4, .int (3 : Int32)), (3, .int p2), (0, .ref (a 0)), (1, .int p1), (2, .int p2)]) hx hb dX2_addLetter_3 hl (by decide) rfl (fun ls hl => ?_)
  refine lpu2 h (fun K3 : Int32 → Int32 → Prop => ∀ (x1 : Int32) (x2 : Int32) (ls : Array Slot) (H : Heap) (locs : List Loc), lv_has ls 5 [(0, .ref (a 0)), (1, .int p1), (3, .int x1), (4, .int x2)] → va_P D vwCl (stW cI a u) H → va_D A (stW cI a u) → va_S A H0 H locs → K3 x1 x2 → W p l e rm_X2_addLetter s m args below meth c H locs 0 0 Q (F0 m 5 ls [])) ?_ ?_ ?_
  · intro x1 x2 ls H locs hl hP hD hS h
    exact h.elim
  · intro K3
    intro w4 x1 x2 ls H locs hl hP hD hS h
    refine lv_iload hx hb dX2_addLetter_5 (lv_at hl 3 rfl) ?_
    refine lv_iconst (v := (1 : Int32)) hx hb dX2_addLetter_7 (by decide) ?_
    refine lv_icmp_lt (tgt := 29) hx hb dX2_addLetter_8 (by decide) (fun c5 => ?_) (fun c5 => ?_)
    · replace h := h.1 c5
      refine lv_aload_n hx hb dX2_addLetter_29 rfl (lv_at hl 0 rfl) ?_
      refine lv_iconst (v := (0 : Int32)) hx hb dX2_addLetter_30 (by decide) ?_
      refine rwVv0 (As := [.int (0 : Int32)]) (rest := []) F (c_X2_countUp l D cI cS cJ a u H.size (0 : Int32) h) (cw_X2_110 hts (Nat.le_of_ble_eq_true rfl) (Nat.le_of_ble_eq_true rfl)) hK hP hD hS hA (recv (ci := 2) (k0 := 0) hK hP rfl rfl) rfl hl.1 rfl (Nat.le_of_ble_eq_true rfl) dX2_addLetter_31 ⟨Nat.zero_le _, Nat.zero_le _⟩ (fun u7 H locs h hP hD hS => ?_)
      refine lv_aload_n hx hb dX2_addLetter_34 rfl (lv_at hl 0 rfl) ?_
      refine lv_iload_n hx hb dX2_addLetter_35 rfl (lv_at hl 1 rfl) ?_
      refine lv_iconst (v := (0 : Int32)) hx hb dX2_addLetter_36 (by decide) ?_
      refine lv_iload_n hx hb dX2_addLetter_37 rfl (lv_at hl 2 rfl) ?_
      refine lv_iconst (v := (0 : Int32)) hx hb dX2_addLetter_38 (by decide) ?_
      refine rwVi0 (As := [.int p1, .int (0 : Int32), .int x1, .int (0 : Int32)]) (rest := []) F (c_X2_addEnvelope l D cI cS cJ a u7 H.size p1 (0 : Int32) x1 (0 : Int32) h) (cw_X2_114 hts (Nat.le_of_ble_eq_true rfl) (Nat.le_of_ble_eq_true rfl)) hK hP hD hS hA (recv (ci := 2) (k0 := 0) hK hP rfl rfl) rfl hl.1 rfl (Nat.le_of_ble_eq_true rfl) dX2_addLetter_39 ⟨Nat.zero_le _, Nat.zero_le _⟩ (fun r8 u9 H locs h hP hD hS => ?_)
      exact hQ h hP hD hS dX2_addLetter_42
    · replace h := h.2 c5
      refine lv_iload_n hx hb dX2_addLetter_11 rfl (lv_at hl 2 rfl) ?_
      refine lv_aload_n hx hb dX2_addLetter_12 rfl (lv_at hl 0 rfl) ?_
      refine lv_iload_n hx hb dX2_addLetter_13 rfl (lv_at hl 1 rfl) ?_
      refine lv_iload hx hb dX2_addLetter_14 (lv_at hl 3 rfl) ?_
      refine roVi (As := [.int p1, .int x2]) (rest := [.int x1]) F (c_X2_keyAt l D cI cS cJ a u H p1 x2 h) (cw_X2_104 hts (Nat.le_of_ble_eq_true rfl) (Nat.le_of_ble_eq_true rfl)) hK hP (recv (ci := 2) (k0 := 0) hK hP rfl rfl) rfl hl.1 rfl (Nat.le_of_ble_eq_true rfl) dX2_addLetter_16 ⟨Nat.zero_le _, Nat.zero_le _⟩ (fun r10 h => ?_)
      refine roNi (As := [.int x1, .int r10]) (rest := []) F (c_X3_covered l D cI cS cJ H x1 r10 h) (cw_X2_107 hts (nw5 hK) (Nat.le_of_ble_eq_true rfl) (Nat.le_of_ble_eq_true rfl)) hK vP_nil rfl hl.1 rfl (Nat.le_of_ble_eq_true rfl) dX2_addLetter_19 ⟨Nat.zero_le _, Nat.zero_le _⟩ (fun r11 h => ?_)
      refine lv_istore_n (lv' := [(3, .int r11), (0, .ref (a 0)), (1, .int p1), (4, .int x2)]) hx hb dX2_addLetter_22 rfl hl (by decide) rfl (fun ls hl => ?_)
      refine lv_iinc (v := (x2 + (-1))) (lv' := [(4, .int (x2 + (-1))), (3, .int r11), (0, .ref (a 0)), (1, .int p1)]) hx hb dX2_addLetter_23 hl (k := 3) rfl rfl (by decide) rfl (fun ls hl => ?_)
      refine lv_goto (tgt := 5) hx hb dX2_addLetter_26 (by decide) ?_
      exact w4 r11 (x2 + (-1)) _ _ _ (lv_sub hl [2, 3, 1, 0] rfl) hP hD hS h
  · intro K3 w4 h
    exact w4 p2 (3 : Int32) _ _ _ (lv_sub hl [2, 3, 1, 0] rfl) hP hD hS h

def wp_X2_addAnswer (u : St) (p1 : Int32) (p2 : Int32) (post : Int32 → St → Prop) : Prop :=
  wp_X2_countUp u (2 : Int32) (fun u2 => wp_X3_read 4 (S_answerRoads u2) p1 (fun r3 => wp_X2_addEnvelope u2 r3 (4 : Int32) p2 (1 : Int32) (fun r4 u5 => post r4 u5)))
set_option maxHeartbeats 4000000 in
set_option maxRecDepth 100000 in
theorem c_X2_addAnswer (l : Launch) (D : va_G) (cI cS cJ : ClassId) (a : Nat → Nat) (u : St) (sz : Nat) (p1 : Int32) (p2 : Int32) {post : Int32 → St → Prop} (h : wp_X2_addAnswer u p1 p2 post) : Met l yX2_addAnswer (wsA yX2_addAnswer cX2_addAnswer 3 (some .int)) rm_X2_addAnswer (va_Pc [.ref (a 0), .int p1, .int p2] (rwP D (tysA cI cS cJ) (stW cI a u) sz)) (va_Qi post (fun u9 t => va_P D vwCl ((stW cI a) u9) t.heap ∧ va_D (va_A (stW cI a u) sz) ((stW cI a) u9)) (va_A (stW cI a u) sz)) 0 0 (va_A (stW cI a u) sz) := by
  refine mkRWi (wf := (stW cI a)) (by decide +kernel) (Nat.le_of_ble_eq_true rfl) (fun {p e s m args below meth c Q ls A H0 H locs} hx hb F hts hown hK hP hD hS hA hl hQ => ?_)
  have hown : s.vm.findClass RX2 = some m.cls := hown
  have F : CallFix p m c cX2_addAnswer 3 s args wsT RX2 := F
  have hl : lv_has ls 3 [(0, .ref (a 0)), (1, .int p1), (2, .int p2)] := hl
  unfold wp_X2_addAnswer at h
  refine lv_aload_n hx hb dX2_addAnswer_0 rfl (lv_at hl 0 rfl) ?_
  refine lv_iconst (v := (2 : Int32)) hx hb dX2_addAnswer_1 (by decide) ?_
  refine rwVv0 (As := [.int (2 : Int32)]) (rest := []) F (c_X2_countUp l D cI cS cJ a u H.size (2 : Int32) h) (cw_X2_110 hts (Nat.le_of_ble_eq_true rfl) (Nat.le_of_ble_eq_true rfl)) hK hP hD hS hA (recv (ci := 2) (k0 := 0) hK hP rfl rfl) rfl hl.1 rfl (Nat.le_of_ble_eq_true rfl) dX2_addAnswer_2 ⟨Nat.zero_le _, Nat.zero_le _⟩ (fun u2 H locs h hP hD hS => ?_)
  refine lv_aload_n hx hb dX2_addAnswer_5 rfl (lv_at hl 0 rfl) ?_
  refine lv_aload_n hx hb dX2_addAnswer_6 rfl (lv_at hl 0 rfl) ?_
  refine va_get (D := D) (ci := 2) (v := .ref (a 7)) (C := RX2) (T := TX2) (N := 12) hx hb hts inT2 hown hK.k hP 0 rfl rfl 9 (by decide) (hts _ q_68) (fun _ h9 => h9) rfl dX2_addAnswer_7 ?_
  refine lv_iload_n hx hb dX2_addAnswer_10 rfl (lv_at hl 1 rfl) ?_
  refine roNi (As := [.ref (a 7), .int p1]) (rest := [.ref (a 0)]) F (c_X3_read l D cI cS cJ (a 7) 4 (S_answerRoads u2) H p1 h) (cw_X2_71 hts (nw1 hK) (Nat.le_of_ble_eq_true rfl) (Nat.le_of_ble_eq_true rfl)) hK (vP_one hP 7 rfl) rfl hl.1 rfl (Nat.le_of_ble_eq_true rfl) dX2_addAnswer_11 ⟨Nat.zero_le _, Nat.zero_le _⟩ (fun r3 h => ?_)
  refine lv_iconst (v := (4 : Int32)) hx hb dX2_addAnswer_14 (by decide) ?_
  refine lv_iload_n hx hb dX2_addAnswer_15 rfl (lv_at hl 2 rfl) ?_
  refine lv_iconst (v := (1 : Int32)) hx hb dX2_addAnswer_16 (by decide) ?_
  refine rwVi0 (As := [.int r3, .int (4 : Int32), .int p2, .int (1 : Int32)]) (rest := []) F (c_X2_addEnvelope l D cI cS cJ a u2 H.size r3 (4 : Int32) p2 (1 : Int32) h) (cw_X2_114 hts (Nat.le_of_ble_eq_true rfl) (Nat.le_of_ble_eq_true rfl)) hK hP hD hS hA (recv (ci := 2) (k0 := 0) hK hP rfl rfl) rfl hl.1 rfl (Nat.le_of_ble_eq_true rfl) dX2_addAnswer_17 ⟨Nat.zero_le _, Nat.zero_le _⟩ (fun r4 u5 H locs h hP hD hS => ?_)
  exact hQ h hP hD hS dX2_addAnswer_20

def wp_X2_reachHall (u : St) (p1 : Int32) (post : St → Prop) : Prop :=
  wp_X2_ofEnvelope u p1 (0 : Int32) (fun r1 => wp_X3_read 6 (S_roadHalls u) r1 (fun r2 => wp_X2_ofEnvelope u p1 (2 : Int32) (fun r3 => wp_X3_write 4 (S_letters u) r2 r3 (fun f5 => wp_X3_write 4 (S_answerRoads (aS_letters u f5)) r2 r1 (fun f7 => wp_X2_countUp (aS_answerRoads (aS_letters u f5) f7) (1 : Int32) (fun u9 => wp_X2_putNumber u9 p1 (1 : Int32) (-1 : Int32) (fun u11 => post u11)))))))
set_option maxHeartbeats 4000000 in
set_option maxRecDepth 100000 in
theorem c_X2_reachHall (l : Launch) (D : va_G) (cI cS cJ : ClassId) (a : Nat → Nat) (u : St) (sz : Nat) (p1 : Int32) {post : St → Prop} (h : wp_X2_reachHall u p1 post) : Met l yX2_reachHall (wsA yX2_reachHall cX2_reachHall 4 none) rm_X2_reachHall (va_Pc [.ref (a 0), .int p1] (rwP D (tysA cI cS cJ) (stW cI a u) sz)) (va_Qv post (fun u9 t => va_P D vwCl ((stW cI a) u9) t.heap ∧ va_D (va_A (stW cI a u) sz) ((stW cI a) u9)) (va_A (stW cI a u) sz)) 0 0 (va_A (stW cI a u) sz) := by
  refine mkRWv (wf := (stW cI a)) (by decide +kernel) (Nat.le_of_ble_eq_true rfl) (fun {p e s m args below meth c Q ls A H0 H locs} hx hb F hts hown hin hK hP hD hS hA hl hQ => ?_)
  have hown : s.vm.findClass RX2 = some m.cls := hown
  have F : CallFix p m c cX2_reachHall 4 s args wsT RX2 := F
  have hl : lv_has ls 4 [(0, .ref (a 0)), (1, .int p1)] := hl
  unfold wp_X2_reachHall at h
  refine lv_aload_n hx hb dX2_reachHall_0 rfl (lv_at hl 0 rfl) ?_
  refine lv_iload_n hx hb dX2_reachHall_1 rfl (lv_at hl 1 rfl) ?_
  refine lv_iconst (v := (0 : Int32)) hx hb dX2_reachHall_2 (by decide) ?_
  refine roVi (As := [.int p1, .int (0 : Int32)]) (rest := []) F (c_X2_ofEnvelope l D cI cS cJ a u H p1 (0 : Int32) h) (cw_X2_75 hts (Nat.le_of_ble_eq_true rfl) (Nat.le_of_ble_eq_true rfl)) hK hP (recv (ci := 2) (k0 := 0) hK hP rfl rfl) rfl hl.1 rfl (Nat.le_of_ble_eq_true rfl) dX2_reachHall_3 ⟨Nat.zero_le _, Nat.zero_le _⟩ (fun r1 h => ?_)
  refine lv_istore_n (lv' := [(2, .int r1), (0, .ref (a 0)), (1, .int p1)]) hx hb dX2_reachHall_6 rfl hl (by decide) rfl (fun ls hl => ?_)
  refine lv_aload_n hx hb dX2_reachHall_7 rfl (lv_at hl 1 rfl) ?_
  refine va_get (D := D) (ci := 2) (v := .ref (a 4)) (C := RX2) (T := TX2) (N := 12) hx hb hts inT2 hown hK.k hP 0 rfl rfl 5 (by decide) (hts _ q_61) (fun _ h9 => h9) rfl dX2_reachHall_8 ?_
  refine lv_iload_n hx hb dX2_reachHall_11 rfl (lv_at hl 0 rfl) ?_
  refine roNi (As := [.ref (a 4), .int r1]) (rest := []) F (c_X3_read l D cI cS cJ (a 4) 6 (S_roadHalls u) H r1 h) (cw_X2_71 hts (nw1 hK) (Nat.le_of_ble_eq_true rfl) (Nat.le_of_ble_eq_true rfl)) hK (vP_one hP 4 rfl) rfl hl.1 rfl (Nat.le_of_ble_eq_true rfl) dX2_reachHall_12 ⟨Nat.zero_le _, Nat.zero_le _⟩ (fun r2 h => ?_)
  refine lv_istore_n (lv' := [(3, .int r2), (2, .int r1), (0, .ref (a 0)), (1, .int p1)]) hx hb dX2_reachHall_15 rfl hl (by decide) rfl (fun ls hl => ?_)
  refine lv_aload_n hx hb dX2_reachHall_16 rfl (lv_at hl 2 rfl) ?_
  refine va_get (D := D) (ci := 2) (v := .ref (a 6)) (C := RX2) (T := TX2) (N := 12) hx hb hts inT2 hown hK.k hP 0 rfl rfl 8 (by decide) (hts _ q_66) (fun _ h9 => h9) rfl dX2_reachHall_17 ?_
  refine lv_iload_n hx hb dX2_reachHall_20 rfl (lv_at hl 0 rfl) ?_
  refine lv_aload_n hx hb dX2_reachHall_21 rfl (lv_at hl 2 rfl) ?_
  refine lv_iload_n hx hb dX2_reachHall_22 rfl (lv_at hl 3 rfl) ?_
  refine lv_iconst (v := (2 : Int32)) hx hb dX2_reachHall_23 (by decide) ?_
  refine roVi (As := [.int p1, .int (2 : Int32)]) (rest := [.int r2, .ref (a 6)]) F (c_X2_ofEnvelope l D cI cS cJ a u H p1 (2 : Int32) h) (cw_X2_75 hts (Nat.le_of_ble_eq_true rfl) (Nat.le_of_ble_eq_true rfl)) hK hP (recv (ci := 2) (k0 := 0) hK hP rfl rfl) rfl hl.1 rfl (Nat.le_of_ble_eq_true rfl) dX2_reachHall_24 ⟨Nat.zero_le _, Nat.zero_le _⟩ (fun r3 h => ?_)
  refine rwNv (wr := List.eraseIdx (stW cI a u) 6) (wf := fun f1 => [((a 6), .inl (cI, 4, .inl f1))]) (As := [.ref (a 6), .int r2, .int r3]) (rest := []) (perm_k _ 6 rfl) F (c_X3_write l D cI cS cJ (a 6) 4 (S_letters u) H.size r2 r3 h) (cw_X2_67 hts (nw3 hK) (Nat.le_of_ble_eq_true rfl) (Nat.le_of_ble_eq_true rfl)) hK hP hD hS hA rfl hl.1 rfl (Nat.le_of_ble_eq_true rfl) dX2_reachHall_27 ⟨Nat.zero_le _, Nat.zero_le _⟩ (fun f5 H locs h hP hD hS => ?_)
  have hP : va_P D vwCl (stW cI a (aS_letters u f5)) H := vP_set1 (k := 6) (ws := stW cI a u) rfl hP
  have hD : va_D A (stW cI a (aS_letters u f5)) := vD_set1 (k := 6) (ws := stW cI a u) rfl hD
  refine lv_aload_n hx hb dX2_reachHall_30 rfl (lv_at hl 2 rfl) ?_
  refine va_get (D := D) (ci := 2) (v := .ref (a 7)) (C := RX2) (T := TX2) (N := 12) hx hb hts inT2 hown hK.k hP 0 rfl rfl 9 (by decide) (hts _ q_68) (fun _ h9 => h9) rfl dX2_reachHall_31 ?_
  refine lv_iload_n hx hb dX2_reachHall_34 rfl (lv_at hl 0 rfl) ?_
  refine lv_iload_n hx hb dX2_reachHall_35 rfl (lv_at hl 1 rfl) ?_
  refine rwNv (wr := List.eraseIdx (stW cI a (aS_letters u f5)) 7) (wf := fun f1 => [((a 7), .inl (cI, 4, .inl f1))]) (As := [.ref (a 7), .int r2, .int r1]) (rest := []) (perm_k _ 7 rfl) F (c_X3_write l D cI cS cJ (a 7) 4 (S_answerRoads (aS_letters u f5)) H.size r2 r1 h) (cw_X2_67 hts (nw3 hK) (Nat.le_of_ble_eq_true rfl) (Nat.le_of_ble_eq_true rfl)) hK hP hD hS hA rfl hl.1 rfl (Nat.le_of_ble_eq_true rfl) dX2_reachHall_36 ⟨Nat.zero_le _, Nat.zero_le _⟩ (fun f7 H locs h hP hD hS => ?_)
  have hP : va_P D vwCl (stW cI a (aS_answerRoads (aS_letters u f5) f7)) H := vP_set1 (k := 7) (ws := stW cI a (aS_letters u f5)) rfl hP
  have hD : va_D A (stW cI a (aS_answerRoads (aS_letters u f5) f7)) := vD_set1 (k := 7) (ws := stW cI a (aS_letters u f5)) rfl hD
  refine lv_aload_n hx hb dX2_reachHall_39 rfl (lv_at hl 2 rfl) ?_
  refine lv_iconst (v := (1 : Int32)) hx hb dX2_reachHall_40 (by decide) ?_
  refine rwVv0 (As := [.int (1 : Int32)]) (rest := []) F (c_X2_countUp l D cI cS cJ a (aS_answerRoads (aS_letters u f5) f7) H.size (1 : Int32) h) (cw_X2_110 hts (Nat.le_of_ble_eq_true rfl) (Nat.le_of_ble_eq_true rfl)) hK hP hD hS hA (recv (ci := 2) (k0 := 0) hK hP rfl rfl) rfl hl.1 rfl (Nat.le_of_ble_eq_true rfl) dX2_reachHall_41 ⟨Nat.zero_le _, Nat.zero_le _⟩ (fun u9 H locs h hP hD hS => ?_)
  refine lv_aload_n hx hb dX2_reachHall_44 rfl (lv_at hl 2 rfl) ?_
  refine lv_iload_n hx hb dX2_reachHall_45 rfl (lv_at hl 3 rfl) ?_
  refine lv_iconst (v := (1 : Int32)) hx hb dX2_reachHall_46 (by decide) ?_
  refine lv_iconst (v := (-1 : Int32)) hx hb dX2_reachHall_47 (by decide) ?_
  refine rwVv0 (As := [.int p1, .int (1 : Int32), .int (-1 : Int32)]) (rest := []) F (c_X2_putNumber l D cI cS cJ a u9 H.size p1 (1 : Int32) (-1 : Int32) h) (cw_X2_118 hts (Nat.le_of_ble_eq_true rfl) (Nat.le_of_ble_eq_true rfl)) hK hP hD hS hA (recv (ci := 2) (k0 := 0) hK hP rfl rfl) rfl hl.1 rfl (Nat.le_of_ble_eq_true rfl) dX2_reachHall_48 ⟨Nat.zero_le _, Nat.zero_le _⟩ (fun u11 H locs h hP hD hS => ?_)
  exact hQ h hP hD hS dX2_reachHall_51

def wp_X2_reachTraveller (u : St) (p1 : Int32) (post : St → Prop) : Prop :=
  wp_X2_ofEnvelope u p1 (0 : Int32) (fun r1 => wp_X2_ofEnvelope u p1 (2 : Int32) (fun r2 => LP2 (fun (K5 : Int32 → Int32 → Prop) (x3 : Int32) (x4 : Int32) => ((3 : Int32) < x4 → wp_X2_countUp (sS_answerGot u x3) (3 : Int32) (fun u9 => wp_X2_putNumber u9 p1 (1 : Int32) (-1 : Int32) (fun u11 => post u11))) ∧ (¬ (3 : Int32) < x4 → wp_X2_keyAt u r1 x4 (fun r12 => wp_X3_uncovered x3 r12 (fun r13 => K5 r13 (x4 + 1))))) r2 (1 : Int32)))
set_option maxHeartbeats 4000000 in
set_option maxRecDepth 100000 in
theorem c_X2_reachTraveller (l : Launch) (D : va_G) (cI cS cJ : ClassId) (a : Nat → Nat) (u : St) (sz : Nat) (p1 : Int32) {post : St → Prop} (h : wp_X2_reachTraveller u p1 post) : Met l yX2_reachTraveller (wsA yX2_reachTraveller cX2_reachTraveller 5 none) rm_X2_reachTraveller (va_Pc [.ref (a 0), .int p1] (rwP D (tysA cI cS cJ) (stW cI a u) sz)) (va_Qv post (fun u9 t => va_P D vwCl ((stW cI a) u9) t.heap ∧ va_D (va_A (stW cI a u) sz) ((stW cI a) u9)) (va_A (stW cI a u) sz)) 0 0 (va_A (stW cI a u) sz) := by
  refine mkRWv (wf := (stW cI a)) (by decide +kernel) (Nat.le_of_ble_eq_true rfl) (fun {p e s m args below meth c Q ls A H0 H locs} hx hb F hts hown hin hK hP hD hS hA hl hQ => ?_)
  have hown : s.vm.findClass RX2 = some m.cls := hown
  have F : CallFix p m c cX2_reachTraveller 5 s args wsT RX2 := F
  have hl : lv_has ls 5 [(0, .ref (a 0)), (1, .int p1)] := hl
  unfold wp_X2_reachTraveller at h
  refine lv_aload_n hx hb dX2_reachTraveller_0 rfl (lv_at hl 0 rfl) ?_
  refine lv_iload_n hx hb dX2_reachTraveller_1 rfl (lv_at hl 1 rfl) ?_
  refine lv_iconst (v := (0 : Int32)) hx hb dX2_reachTraveller_2 (by decide) ?_
  refine roVi (As := [.int p1, .int (0 : Int32)]) (rest := []) F (c_X2_ofEnvelope l D cI cS cJ a u H p1 (0 : Int32) h) (cw_X2_75 hts (Nat.le_of_ble_eq_true rfl) (Nat.le_of_ble_eq_true rfl)) hK hP (recv (ci := 2) (k0 := 0) hK hP rfl rfl) rfl hl.1 rfl (Nat.le_of_ble_eq_true rfl) dX2_reachTraveller_3 ⟨Nat.zero_le _, Nat.zero_le _⟩ (fun r1 h => ?_)
  refine lv_istore_n (lv' := [(2, .int r1), (0, .ref (a 0)), (1, .int p1)]) hx hb dX2_reachTraveller_6 rfl hl (by decide) rfl (fun ls hl => ?_)
  refine lv_aload_n hx hb dX2_reachTraveller_7 rfl (lv_at hl 1 rfl) ?_
  refine lv_iload_n hx hb dX2_reachTraveller_8 rfl (lv_at hl 2 rfl) ?_
  refine lv_iconst (v := (2 : Int32)) hx hb dX2_reachTraveller_9 (by decide) ?_
  refine roVi (As := [.int p1, .int (2 : Int32)]) (rest := []) F (c_X2_ofEnvelope l D cI cS cJ a u H p1 (2 : Int32) h) (cw_X2_75 hts (Nat.le_of_ble_eq_true rfl) (Nat.le_of_ble_eq_true rfl)) hK hP (recv (ci := 2) (k0 := 0) hK hP rfl rfl) rfl hl.1 rfl (Nat.le_of_ble_eq_true rfl) dX2_reachTraveller_10 ⟨Nat.zero_le _, Nat.zero_le _⟩ (fun r2 h => ?_)
  refine lv_istore_n (lv' := [(3, .int r2), (2, .int r1), (0, .ref (a 0)), (1, .int p1)]) hx hb dX2_reachTraveller_13 rfl hl (by decide) rfl (fun ls hl => ?_)
  refine lv_iconst (v := (1 : Int32)) hx hb dX2_reachTraveller_14 (by decide) ?_
  refine lv_istore (lv' := [(4, .int (1 : Int32)), (3, .int r2), (2, .int r1), (0, .ref (a 0)), (1, .int p1)]) hx hb dX2_reachTraveller_15 hl (by decide) rfl (fun ls hl => ?_)
  refine lpu2 h (fun K5 : Int32 → Int32 → Prop => ∀ (x3 : Int32) (x4 : Int32) (ls : Array Slot) (H : Heap) (locs : List Loc), lv_has ls 5 [(0, .ref (a 0)), (1, .int p1), (2, .int r1), (3, .int x3), (4, .int x4)] → va_P D vwCl (stW cI a u) H → va_D A (stW cI a u) → va_S A H0 H locs → K5 x3 x4 → W p l e rm_X2_reachTraveller s m args below meth c H locs 0 0 Q (F0 m 17 ls [])) ?_ ?_ ?_
  · intro x3 x4 ls H locs hl hP hD hS h
    exact h.elim
  · intro K5
    intro w6 x3 x4 ls H locs hl hP hD hS h
    refine lv_iload hx hb dX2_reachTraveller_17 (lv_at hl 4 rfl) ?_
    refine lv_iconst (v := (3 : Int32)) hx hb dX2_reachTraveller_19 (by decide) ?_
    refine lv_icmp_gt (tgt := 41) hx hb dX2_reachTraveller_20 (by decide) (fun c7 => ?_) (fun c7 => ?_)
    · replace h := h.1 c7
      refine lv_aload_n hx hb dX2_reachTraveller_41 rfl (lv_at hl 0 rfl) ?_
      refine lv_iload_n hx hb dX2_reachTraveller_42 rfl (lv_at hl 3 rfl) ?_
      refine va_put (D := D) (ci := 2) (v := .int x3) (ty := .int) (C := RX2) (T := TX2) (N := 12) hx hb hts inT2 tyX2 tyX2_ok nmX2 hown hK.k hP hD hS 0 rfl rfl 10 (by decide) (hts _ q_70) (fun _ h9 => h9) rfl (by decide +kernel) rfl rfl (Nat.le_of_ble_eq_true rfl) dX2_reachTraveller_43 (fun H locs hP hD hS => ?_)
      have hP : va_P D vwCl (stW cI a (sS_answerGot u x3)) H := hP
      have hD : va_D A (stW cI a (sS_answerGot u x3)) := hD
      refine lv_aload_n hx hb dX2_reachTraveller_46 rfl (lv_at hl 0 rfl) ?_
      refine lv_iconst (v := (3 : Int32)) hx hb dX2_reachTraveller_47 (by decide) ?_
      refine rwVv0 (As := [.int (3 : Int32)]) (rest := []) F (c_X2_countUp l D cI cS cJ a (sS_answerGot u x3) H.size (3 : Int32) h) (cw_X2_110 hts (Nat.le_of_ble_eq_true rfl) (Nat.le_of_ble_eq_true rfl)) hK hP hD hS hA (recv (ci := 2) (k0 := 0) hK hP rfl rfl) rfl hl.1 rfl (Nat.le_of_ble_eq_true rfl) dX2_reachTraveller_48 ⟨Nat.zero_le _, Nat.zero_le _⟩ (fun u9 H locs h hP hD hS => ?_)
      refine lv_aload_n hx hb dX2_reachTraveller_51 rfl (lv_at hl 0 rfl) ?_
      refine lv_iload_n hx hb dX2_reachTraveller_52 rfl (lv_at hl 1 rfl) ?_
      refine lv_iconst (v := (1 : Int32)) hx hb dX2_reachTraveller_53 (by decide) ?_
      refine lv_iconst (v := (-1 : Int32)) hx hb dX2_reachTraveller_54 (by decide) ?_
      refine rwVv0 (As := [.int p1, .int (1 : Int32), .int (-1 : Int32)]) (rest := []) F (c_X2_putNumber l D cI cS cJ a u9 H.size p1 (1 : Int32) (-1 : Int32) h) (cw_X2_118 hts (Nat.le_of_ble_eq_true rfl) (Nat.le_of_ble_eq_true rfl)) hK hP hD hS hA (recv (ci := 2) (k0 := 0) hK hP rfl rfl) rfl hl.1 rfl (Nat.le_of_ble_eq_true rfl) dX2_reachTraveller_55 ⟨Nat.zero_le _, Nat.zero_le _⟩ (fun u11 H locs h hP hD hS => ?_)
      exact hQ h hP hD hS dX2_reachTraveller_58
    · replace h := h.2 c7
      refine lv_iload_n hx hb dX2_reachTraveller_23 rfl (lv_at hl 3 rfl) ?_
      refine lv_aload_n hx hb dX2_reachTraveller_24 rfl (lv_at hl 0 rfl) ?_
      refine lv_iload_n hx hb dX2_reachTraveller_25 rfl (lv_at hl 2 rfl) ?_
      refine lv_iload hx hb dX2_reachTraveller_26 (lv_at hl 4 rfl) ?_
      refine roVi (As := [.int r1, .int x4]) (rest := [.int x3]) F (c_X2_keyAt l D cI cS cJ a u H r1 x4 h) (cw_X2_104 hts (Nat.le_of_ble_eq_true rfl) (Nat.le_of_ble_eq_true rfl)) hK hP (recv (ci := 2) (k0 := 0) hK hP rfl rfl) rfl hl.1 rfl (Nat.le_of_ble_eq_true rfl) dX2_reachTraveller_28 ⟨Nat.zero_le _, Nat.zero_le _⟩ (fun r12 h => ?_)
      refine roNi (As := [.int x3, .int r12]) (rest := []) F (c_X3_uncovered l D cI cS cJ H x3 r12 h) (cw_X2_137 hts (nw4 hK) (Nat.le_of_ble_eq_true rfl) (Nat.le_of_ble_eq_true rfl)) hK vP_nil rfl hl.1 rfl (Nat.le_of_ble_eq_true rfl) dX2_reachTraveller_31 ⟨Nat.zero_le _, Nat.zero_le _⟩ (fun r13 h => ?_)
      refine lv_istore_n (lv' := [(3, .int r13), (0, .ref (a 0)), (1, .int p1), (2, .int r1), (4, .int x4)]) hx hb dX2_reachTraveller_34 rfl hl (by decide) rfl (fun ls hl => ?_)
      refine lv_iinc (v := (x4 + 1)) (lv' := [(4, .int (x4 + 1)), (3, .int r13), (0, .ref (a 0)), (1, .int p1), (2, .int r1)]) hx hb dX2_reachTraveller_35 hl (k := 4) rfl rfl (by decide) rfl (fun ls hl => ?_)
      refine lv_goto (tgt := 17) hx hb dX2_reachTraveller_38 (by decide) ?_
      exact w6 r13 (x4 + 1) _ _ _ (lv_sub hl [2, 3, 4, 1, 0] rfl) hP hD hS h
  · intro K5 w6 h
    exact w6 r2 (1 : Int32) _ _ _ (lv_sub hl [3, 4, 2, 1, 0] rfl) hP hD hS h

def wp_X2_reachInn (u : St) (p1 : Int32) (p2 : Int32) (post : St → Prop) : Prop :=
  wp_X2_ofEnvelope u p1 (0 : Int32) (fun r1 => wp_X2_innAt u r1 p2 (fun r2 => wp_X2_hasOpen u r2 (fun r3 => (¬ r3 = 0 → wp_X2_ofEnvelope u p1 (2 : Int32) (fun r6 => wp_X2_keyAt u r1 p2 (fun r7 => wp_X2_ofEnvelope u p1 (3 : Int32) (fun r8 => jn (fun (x9 : Int32) => jn (fun (x14 : Int32) => wp_X2_putNumber u p1 (2 : Int32) x14 (fun u19 => post u19)) (fun (J15 : Int32 → Prop) => (x9 = 0 → wp_X3_covered r6 r7 (fun r21 => J15 r21)) ∧ (¬ x9 = 0 → wp_X3_uncovered r6 r7 (fun r22 => J15 r22)))) (fun (J11 : Int32 → Prop) => (¬ r8 = 0 → J11 (0 : Int32)) ∧ (r8 = 0 → J11 (1 : Int32))))))) ∧ (r3 = 0 → wp_X2_countUp u (4 : Int32) (fun u25 => wp_X2_putNumber u25 p1 (1 : Int32) (-1 : Int32) (fun u27 => post u27))))))
set_option maxHeartbeats 4000000 in
set_option maxRecDepth 100000 in
theorem c_X2_reachInn (l : Launch) (D : va_G) (cI cS cJ : ClassId) (a : Nat → Nat) (u : St) (sz : Nat) (p1 : Int32) (p2 : Int32) {post : St → Prop} (h : wp_X2_reachInn u p1 p2 post) : Met l yX2_reachInn (wsA yX2_reachInn cX2_reachInn 7 none) rm_X2_reachInn (va_Pc [.ref (a 0), .int p1, .int p2] (rwP D (tysA cI cS cJ) (stW cI a u) sz)) (va_Qv post (fun u9 t => va_P D vwCl ((stW cI a) u9) t.heap ∧ va_D (va_A (stW cI a u) sz) ((stW cI a) u9)) (va_A (stW cI a u) sz)) 0 0 (va_A (stW cI a u) sz) := by
  refine mkRWv (wf := (stW cI a)) (by decide +kernel) (Nat.le_of_ble_eq_true rfl) (fun {p e s m args below meth c Q ls A H0 H locs} hx hb F hts hown hin hK hP hD hS hA hl hQ => ?_)
  have hown : s.vm.findClass RX2 = some m.cls := hown
  have F : CallFix p m c cX2_reachInn 7 s args wsT RX2 := F
  have hl : lv_has ls 7 [(0, .ref (a 0)), (1, .int p1), (2, .int p2)] := hl
  unfold wp_X2_reachInn at h
  refine lv_aload_n hx hb dX2_reachInn_0 rfl (lv_at hl 0 rfl) ?_
  refine lv_iload_n hx hb dX2_reachInn_1 rfl (lv_at hl 1 rfl) ?_
  refine lv_iconst (v := (0 : Int32)) hx hb dX2_reachInn_2 (by decide) ?_
  refine roVi (As := [.int p1, .int (0 : Int32)]) (rest := []) F (c_X2_ofEnvelope l D cI cS cJ a u H p1 (0 : Int32) h) (cw_X2_75 hts (Nat.le_of_ble_eq_true rfl) (Nat.le_of_ble_eq_true rfl)) hK hP (recv (ci := 2) (k0 := 0) hK hP rfl rfl) rfl hl.1 rfl (Nat.le_of_ble_eq_true rfl) dX2_reachInn_3 ⟨Nat.zero_le _, Nat.zero_le _⟩ (fun r1 h => ?_)
  refine lv_istore_n (lv' := [(3, .int r1), (0, .ref (a 0)), (1, .int p1), (2, .int p2)]) hx hb dX2_reachInn_6 rfl hl (by decide) rfl (fun ls hl => ?_)
  refine lv_aload_n hx hb dX2_reachInn_7 rfl (lv_at hl 1 rfl) ?_
  refine lv_aload_n hx hb dX2_reachInn_8 rfl (lv_at hl 1 rfl) ?_
  refine lv_iload_n hx hb dX2_reachInn_9 rfl (lv_at hl 0 rfl) ?_
  refine lv_iload_n hx hb dX2_reachInn_10 rfl (lv_at hl 3 rfl) ?_
  refine roVi (As := [.int r1, .int p2]) (rest := [.ref (a 0)]) F (c_X2_innAt l D cI cS cJ a u H r1 p2 h) (cw_X2_79 hts (Nat.le_of_ble_eq_true rfl) (Nat.le_of_ble_eq_true rfl)) hK hP (recv (ci := 2) (k0 := 0) hK hP rfl rfl) rfl hl.1 rfl (Nat.le_of_ble_eq_true rfl) dX2_reachInn_11 ⟨Nat.zero_le _, Nat.zero_le _⟩ (fun r2 h => ?_)
  refine roVi (As := [.int r2]) (rest := []) F (c_X2_hasOpen l D cI cS cJ a u H r2 h) (cw_X2_82 hts (Nat.le_of_ble_eq_true rfl) (Nat.le_of_ble_eq_true rfl)) hK hP (recv (ci := 2) (k0 := 0) hK hP rfl rfl) rfl hl.1 rfl (Nat.le_of_ble_eq_true rfl) dX2_reachInn_14 ⟨Nat.zero_le _, Nat.zero_le _⟩ (fun r3 h => ?_)
  obtain ⟨b4, h⟩ := h
  refine lv_if_ne (tgt := 33) hx hb dX2_reachInn_17 (by decide) (fun c5 => ?_) (fun c5 => ?_)
  · replace h := h.1 c5
    refine lv_aload_n hx hb dX2_reachInn_33 rfl (lv_at hl 1 rfl) ?_
    refine lv_iload_n hx hb dX2_reachInn_34 rfl (lv_at hl 2 rfl) ?_
    refine lv_iconst (v := (2 : Int32)) hx hb dX2_reachInn_35 (by decide) ?_
    refine roVi (As := [.int p1, .int (2 : Int32)]) (rest := []) F (c_X2_ofEnvelope l D cI cS cJ a u H p1 (2 : Int32) h) (cw_X2_75 hts (Nat.le_of_ble_eq_true rfl) (Nat.le_of_ble_eq_true rfl)) hK hP (recv (ci := 2) (k0 := 0) hK hP rfl rfl) rfl hl.1 rfl (Nat.le_of_ble_eq_true rfl) dX2_reachInn_36 ⟨Nat.zero_le _, Nat.zero_le _⟩ (fun r6 h => ?_)
    refine lv_istore (lv' := [(4, .int r6), (3, .int r1), (0, .ref (a 0)), (1, .int p1), (2, .int p2)]) hx hb dX2_reachInn_39 hl (by decide) rfl (fun ls hl => ?_)
    refine lv_aload_n hx hb dX2_reachInn_41 rfl (lv_at hl 2 rfl) ?_
    refine lv_iload_n hx hb dX2_reachInn_42 rfl (lv_at hl 1 rfl) ?_
    refine lv_iload_n hx hb dX2_reachInn_43 rfl (lv_at hl 4 rfl) ?_
    refine roVi (As := [.int r1, .int p2]) (rest := []) F (c_X2_keyAt l D cI cS cJ a u H r1 p2 h) (cw_X2_104 hts (Nat.le_of_ble_eq_true rfl) (Nat.le_of_ble_eq_true rfl)) hK hP (recv (ci := 2) (k0 := 0) hK hP rfl rfl) rfl hl.1 rfl (Nat.le_of_ble_eq_true rfl) dX2_reachInn_44 ⟨Nat.zero_le _, Nat.zero_le _⟩ (fun r7 h => ?_)
    refine lv_istore (lv' := [(5, .int r7), (4, .int r6), (3, .int r1), (0, .ref (a 0)), (1, .int p1), (2, .int p2)]) hx hb dX2_reachInn_47 hl (by decide) rfl (fun ls hl => ?_)
    refine lv_aload_n hx hb dX2_reachInn_49 rfl (lv_at hl 3 rfl) ?_
    refine lv_iload_n hx hb dX2_reachInn_50 rfl (lv_at hl 4 rfl) ?_
    refine lv_iconst (v := (3 : Int32)) hx hb dX2_reachInn_51 (by decide) ?_
    refine roVi (As := [.int p1, .int (3 : Int32)]) (rest := []) F (c_X2_ofEnvelope l D cI cS cJ a u H p1 (3 : Int32) h) (cw_X2_75 hts (Nat.le_of_ble_eq_true rfl) (Nat.le_of_ble_eq_true rfl)) hK hP (recv (ci := 2) (k0 := 0) hK hP rfl rfl) rfl hl.1 rfl (Nat.le_of_ble_eq_true rfl) dX2_reachInn_52 ⟨Nat.zero_le _, Nat.zero_le _⟩ (fun r8 h => ?_)
    refine jn_e h (fun J11 e13 h => ?_)
    have w12 : ∀ (x9 : Int32) (ls : Array Slot) (H : Heap) (locs : List Loc), bz x9 → lv_has ls 7 [(0, .ref (a 0)), (1, .int p1), (4, .int r6), (5, .int r7)] → va_P D vwCl (stW cI a u) H → va_D A (stW cI a u) → va_S A H0 H locs → J11 x9 → W p l e rm_X2_reachInn s m args below meth c H locs 0 0 Q (F0 m 63 ls [.int x9]) := by
      intro x9 ls H locs b10 hl hP hD hS h
      subst e13
      refine lv_istore (lv' := [(6, .int x9), (0, .ref (a 0)), (1, .int p1), (4, .int r6), (5, .int r7)]) hx hb dX2_reachInn_63 hl (by decide) rfl (fun ls hl => ?_)
      refine lv_aload_n hx hb dX2_reachInn_65 rfl (lv_at hl 1 rfl) ?_
      refine lv_iload_n hx hb dX2_reachInn_66 rfl (lv_at hl 2 rfl) ?_
      refine lv_iconst (v := (2 : Int32)) hx hb dX2_reachInn_67 (by decide) ?_
      refine lv_iload hx hb dX2_reachInn_68 (lv_at hl 0 rfl) ?_
      refine jn_e h (fun J15 e17 h => ?_)
      have w16 : ∀ (x14 : Int32) (ls : Array Slot) (H : Heap) (locs : List Loc), lv_has ls 7 [] → va_P D vwCl (stW cI a u) H → va_D A (stW cI a u) → va_S A H0 H locs → J15 x14 → W p l e rm_X2_reachInn s m args below meth c H locs 0 0 Q (F0 m 90 ls [.int x14, .int (2 : Int32), .int p1, .ref (a 0)]) := by
        intro x14 ls H locs hl hP hD hS h
        subst e17
        refine rwVv0 (As := [.int p1, .int (2 : Int32), .int x14]) (rest := []) F (c_X2_putNumber l D cI cS cJ a u H.size p1 (2 : Int32) x14 h) (cw_X2_118 hts (Nat.le_of_ble_eq_true rfl) (Nat.le_of_ble_eq_true rfl)) hK hP hD hS hA (recv (ci := 2) (k0 := 0) hK hP rfl rfl) rfl hl.1 rfl (Nat.le_of_ble_eq_true rfl) dX2_reachInn_90 ⟨Nat.zero_le _, Nat.zero_le _⟩ (fun u19 H locs h hP hD hS => ?_)
        exact hQ h hP hD hS dX2_reachInn_93
      clear e17
      refine lv_if_eq (tgt := 83) hx hb dX2_reachInn_70 (by decide) (fun c20 => ?_) (fun c20 => ?_)
      · replace h := h.1 c20
        refine lv_iload hx hb dX2_reachInn_83 (lv_at hl 3 rfl) ?_
        refine lv_iload hx hb dX2_reachInn_85 (lv_at hl 4 rfl) ?_
        refine roNi (As := [.int r6, .int r7]) (rest := [.int (2 : Int32), .int p1, .ref (a 0)]) F (c_X3_covered l D cI cS cJ H r6 r7 h) (cw_X2_107 hts (nw5 hK) (Nat.le_of_ble_eq_true rfl) (Nat.le_of_ble_eq_true rfl)) hK vP_nil rfl hl.1 rfl (Nat.le_of_ble_eq_true rfl) dX2_reachInn_87 ⟨Nat.zero_le _, Nat.zero_le _⟩ (fun r21 h => ?_)
        exact w16 r21 _ _ _ (lv_sub hl [] rfl) hP hD hS h
      · replace h := h.2 c20
        refine lv_iload hx hb dX2_reachInn_73 (lv_at hl 3 rfl) ?_
        refine lv_iload hx hb dX2_reachInn_75 (lv_at hl 4 rfl) ?_
        refine roNi (As := [.int r6, .int r7]) (rest := [.int (2 : Int32), .int p1, .ref (a 0)]) F (c_X3_uncovered l D cI cS cJ H r6 r7 h) (cw_X2_137 hts (nw4 hK) (Nat.le_of_ble_eq_true rfl) (Nat.le_of_ble_eq_true rfl)) hK vP_nil rfl hl.1 rfl (Nat.le_of_ble_eq_true rfl) dX2_reachInn_77 ⟨Nat.zero_le _, Nat.zero_le _⟩ (fun r22 h => ?_)
        refine lv_goto (tgt := 90) hx hb dX2_reachInn_80 (by decide) ?_
        exact w16 r22 _ _ _ (lv_sub hl [] rfl) hP hD hS h
    clear e13
    refine lv_if_ne (tgt := 62) hx hb dX2_reachInn_55 (by decide) (fun c23 => ?_) (fun c23 => ?_)
    · replace h := h.1 c23
      refine lv_iconst (v := (0 : Int32)) hx hb dX2_reachInn_62 (by decide) ?_
      exact w12 (0 : Int32) _ _ _ bz0 (lv_sub hl [3, 4, 1, 0] rfl) hP hD hS h
    · replace h := h.2 c23
      refine lv_iconst (v := (1 : Int32)) hx hb dX2_reachInn_58 (by decide) ?_
      refine lv_goto (tgt := 63) hx hb dX2_reachInn_59 (by decide) ?_
      exact w12 (1 : Int32) _ _ _ bz1 (lv_sub hl [3, 4, 1, 0] rfl) hP hD hS h
  · replace h := h.2 c5
    refine lv_aload_n hx hb dX2_reachInn_20 rfl (lv_at hl 1 rfl) ?_
    refine lv_iconst (v := (4 : Int32)) hx hb dX2_reachInn_21 (by decide) ?_
    refine rwVv0 (As := [.int (4 : Int32)]) (rest := []) F (c_X2_countUp l D cI cS cJ a u H.size (4 : Int32) h) (cw_X2_110 hts (Nat.le_of_ble_eq_true rfl) (Nat.le_of_ble_eq_true rfl)) hK hP hD hS hA (recv (ci := 2) (k0 := 0) hK hP rfl rfl) rfl hl.1 rfl (Nat.le_of_ble_eq_true rfl) dX2_reachInn_22 ⟨Nat.zero_le _, Nat.zero_le _⟩ (fun u25 H locs h hP hD hS => ?_)
    refine lv_aload_n hx hb dX2_reachInn_25 rfl (lv_at hl 1 rfl) ?_
    refine lv_iload_n hx hb dX2_reachInn_26 rfl (lv_at hl 2 rfl) ?_
    refine lv_iconst (v := (1 : Int32)) hx hb dX2_reachInn_27 (by decide) ?_
    refine lv_iconst (v := (-1 : Int32)) hx hb dX2_reachInn_28 (by decide) ?_
    refine rwVv0 (As := [.int p1, .int (1 : Int32), .int (-1 : Int32)]) (rest := []) F (c_X2_putNumber l D cI cS cJ a u25 H.size p1 (1 : Int32) (-1 : Int32) h) (cw_X2_118 hts (Nat.le_of_ble_eq_true rfl) (Nat.le_of_ble_eq_true rfl)) hK hP hD hS hA (recv (ci := 2) (k0 := 0) hK hP rfl rfl) rfl hl.1 rfl (Nat.le_of_ble_eq_true rfl) dX2_reachInn_29 ⟨Nat.zero_le _, Nat.zero_le _⟩ (fun u27 H locs h hP hD hS => ?_)
    exact hQ h hP hD hS dX2_reachInn_32

def wp_X2_moveOn (u : St) (p1 : Int32) (post : Int32 → St → Prop) : Prop :=
  wp_X2_ofEnvelope u p1 (3 : Int32) (fun r1 => jn (fun (x2 : Int32) => wp_X2_ofEnvelope u p1 (1 : Int32) (fun r6 => wp_X2_putNumber u p1 (1 : Int32) (r6 + x2) (fun u8 => (¬ (r6 + x2) = (4 : Int32) → (¬ (r6 + x2) = 0 → wp_X2_reachInn u8 p1 (r6 + x2) (fun u12 => post (0 : Int32) u12)) ∧ ((r6 + x2) = 0 → wp_X2_reachTraveller u8 p1 (fun u14 => post (1 : Int32) u14))) ∧ ((r6 + x2) = (4 : Int32) → wp_X2_reachHall u8 p1 (fun u16 => post (1 : Int32) u16))))) (fun (J3 : Int32 → Prop) => (¬ r1 = 0 → J3 (-1 : Int32)) ∧ (r1 = 0 → J3 (1 : Int32))))
set_option maxHeartbeats 4000000 in
set_option maxRecDepth 100000 in
theorem c_X2_moveOn (l : Launch) (D : va_G) (cI cS cJ : ClassId) (a : Nat → Nat) (u : St) (sz : Nat) (p1 : Int32) {post : Int32 → St → Prop} (h : wp_X2_moveOn u p1 post) : Met l yX2_moveOn (wsA yX2_moveOn cX2_moveOn 4 (some .boolean)) rm_X2_moveOn (va_Pc [.ref (a 0), .int p1] (rwP D (tysA cI cS cJ) (stW cI a u) sz)) (va_Qi (fun r u9 => bz r ∧ post r u9) (fun u9 t => va_P D vwCl ((stW cI a) u9) t.heap ∧ va_D (va_A (stW cI a u) sz) ((stW cI a) u9)) (va_A (stW cI a u) sz)) 0 0 (va_A (stW cI a u) sz) := by
  refine mkRWz (wf := (stW cI a)) (by decide +kernel) (Nat.le_of_ble_eq_true rfl) (fun {p e s m args below meth c Q ls A H0 H locs} hx hb F hts hown hK hP hD hS hA hl hQ => ?_)
  have hown : s.vm.findClass RX2 = some m.cls := hown
  have F : CallFix p m c cX2_moveOn 4 s args wsT RX2 := F
  have hl : lv_has ls 4 [(0, .ref (a 0)), (1, .int p1)] := hl
  unfold wp_X2_moveOn at h
  refine lv_aload_n hx hb dX2_moveOn_0 rfl (lv_at hl 0 rfl) ?_
  refine lv_iload_n hx hb dX2_moveOn_1 rfl (lv_at hl 1 rfl) ?_
  refine lv_iconst (v := (3 : Int32)) hx hb dX2_moveOn_2 (by decide) ?_
  refine roVi (As := [.int p1, .int (3 : Int32)]) (rest := []) F (c_X2_ofEnvelope l D cI cS cJ a u H p1 (3 : Int32) h) (cw_X2_75 hts (Nat.le_of_ble_eq_true rfl) (Nat.le_of_ble_eq_true rfl)) hK hP (recv (ci := 2) (k0 := 0) hK hP rfl rfl) rfl hl.1 rfl (Nat.le_of_ble_eq_true rfl) dX2_moveOn_3 ⟨Nat.zero_le _, Nat.zero_le _⟩ (fun r1 h => ?_)
  refine jn_e h (fun J3 e5 h => ?_)
  have w4 : ∀ (x2 : Int32) (ls : Array Slot) (H : Heap) (locs : List Loc), lv_has ls 4 [(0, .ref (a 0)), (1, .int p1)] → va_P D vwCl (stW cI a u) H → va_D A (stW cI a u) → va_S A H0 H locs → J3 x2 → W p l e rm_X2_moveOn s m args below meth c H locs 0 0 Q (F0 m 14 ls [.int x2]) := by
    intro x2 ls H locs hl hP hD hS h
    subst e5
    refine lv_istore_n (lv' := [(2, .int x2), (0, .ref (a 0)), (1, .int p1)]) hx hb dX2_moveOn_14 rfl hl (by decide) rfl (fun ls hl => ?_)
    refine lv_aload_n hx hb dX2_moveOn_15 rfl (lv_at hl 1 rfl) ?_
    refine lv_iload_n hx hb dX2_moveOn_16 rfl (lv_at hl 2 rfl) ?_
    refine lv_iconst (v := (1 : Int32)) hx hb dX2_moveOn_17 (by decide) ?_
    refine roVi (As := [.int p1, .int (1 : Int32)]) (rest := []) F (c_X2_ofEnvelope l D cI cS cJ a u H p1 (1 : Int32) h) (cw_X2_75 hts (Nat.le_of_ble_eq_true rfl) (Nat.le_of_ble_eq_true rfl)) hK hP (recv (ci := 2) (k0 := 0) hK hP rfl rfl) rfl hl.1 rfl (Nat.le_of_ble_eq_true rfl) dX2_moveOn_18 ⟨Nat.zero_le _, Nat.zero_le _⟩ (fun r6 h => ?_)
    refine lv_iload_n hx hb dX2_moveOn_21 rfl (lv_at hl 0 rfl) ?_
    refine lv_iadd hx hb dX2_moveOn_22 ?_
    refine lv_istore_n (lv' := [(3, .int (r6 + x2)), (2, .int x2), (0, .ref (a 0)), (1, .int p1)]) hx hb dX2_moveOn_23 rfl hl (by decide) rfl (fun ls hl => ?_)
    refine lv_aload_n hx hb dX2_moveOn_24 rfl (lv_at hl 2 rfl) ?_
    refine lv_iload_n hx hb dX2_moveOn_25 rfl (lv_at hl 3 rfl) ?_
    refine lv_iconst (v := (1 : Int32)) hx hb dX2_moveOn_26 (by decide) ?_
    refine lv_iload_n hx hb dX2_moveOn_27 rfl (lv_at hl 0 rfl) ?_
    refine rwVv0 (As := [.int p1, .int (1 : Int32), .int (r6 + x2)]) (rest := []) F (c_X2_putNumber l D cI cS cJ a u H.size p1 (1 : Int32) (r6 + x2) h) (cw_X2_118 hts (Nat.le_of_ble_eq_true rfl) (Nat.le_of_ble_eq_true rfl)) hK hP hD hS hA (recv (ci := 2) (k0 := 0) hK hP rfl rfl) rfl hl.1 rfl (Nat.le_of_ble_eq_true rfl) dX2_moveOn_28 ⟨Nat.zero_le _, Nat.zero_le _⟩ (fun u8 H locs h hP hD hS => ?_)
    refine lv_iload_n hx hb dX2_moveOn_31 rfl (lv_at hl 0 rfl) ?_
    refine lv_iconst (v := (4 : Int32)) hx hb dX2_moveOn_32 (by decide) ?_
    refine lv_icmp_ne (tgt := 43) hx hb dX2_moveOn_33 (by decide) (fun c9 => ?_) (fun c9 => ?_)
    · replace h := h.1 c9
      refine lv_iload_n hx hb dX2_moveOn_43 rfl (lv_at hl 0 rfl) ?_
      refine lv_if_ne (tgt := 54) hx hb dX2_moveOn_44 (by decide) (fun c10 => ?_) (fun c10 => ?_)
      · replace h := h.1 c10
        refine lv_aload_n hx hb dX2_moveOn_54 rfl (lv_at hl 2 rfl) ?_
        refine lv_iload_n hx hb dX2_moveOn_55 rfl (lv_at hl 3 rfl) ?_
        refine lv_iload_n hx hb dX2_moveOn_56 rfl (lv_at hl 0 rfl) ?_
        refine rwVv0 (As := [.int p1, .int (r6 + x2)]) (rest := []) F (c_X2_reachInn l D cI cS cJ a u8 H.size p1 (r6 + x2) h) (cw_X2_133 hts (Nat.le_of_ble_eq_true rfl) (Nat.le_of_ble_eq_true rfl)) hK hP hD hS hA (recv (ci := 2) (k0 := 0) hK hP rfl rfl) rfl hl.1 rfl (Nat.le_of_ble_eq_true rfl) dX2_moveOn_57 ⟨Nat.zero_le _, Nat.zero_le _⟩ (fun u12 H locs h hP hD hS => ?_)
        refine lv_iconst (v := (0 : Int32)) hx hb dX2_moveOn_60 (by decide) ?_
        exact hQ bz0 h hP hD hS dX2_moveOn_61
      · replace h := h.2 c10
        refine lv_aload_n hx hb dX2_moveOn_47 rfl (lv_at hl 2 rfl) ?_
        refine lv_iload_n hx hb dX2_moveOn_48 rfl (lv_at hl 3 rfl) ?_
        refine rwVv0 (As := [.int p1]) (rest := []) F (c_X2_reachTraveller l D cI cS cJ a u8 H.size p1 h) (cw_X2_130 hts (Nat.le_of_ble_eq_true rfl) (Nat.le_of_ble_eq_true rfl)) hK hP hD hS hA (recv (ci := 2) (k0 := 0) hK hP rfl rfl) rfl hl.1 rfl (Nat.le_of_ble_eq_true rfl) dX2_moveOn_49 ⟨Nat.zero_le _, Nat.zero_le _⟩ (fun u14 H locs h hP hD hS => ?_)
        refine lv_iconst (v := (1 : Int32)) hx hb dX2_moveOn_52 (by decide) ?_
        exact hQ bz1 h hP hD hS dX2_moveOn_53
    · replace h := h.2 c9
      refine lv_aload_n hx hb dX2_moveOn_36 rfl (lv_at hl 2 rfl) ?_
      refine lv_iload_n hx hb dX2_moveOn_37 rfl (lv_at hl 3 rfl) ?_
      refine rwVv0 (As := [.int p1]) (rest := []) F (c_X2_reachHall l D cI cS cJ a u8 H.size p1 h) (cw_X2_127 hts (Nat.le_of_ble_eq_true rfl) (Nat.le_of_ble_eq_true rfl)) hK hP hD hS hA (recv (ci := 2) (k0 := 0) hK hP rfl rfl) rfl hl.1 rfl (Nat.le_of_ble_eq_true rfl) dX2_moveOn_38 ⟨Nat.zero_le _, Nat.zero_le _⟩ (fun u16 H locs h hP hD hS => ?_)
      refine lv_iconst (v := (1 : Int32)) hx hb dX2_moveOn_41 (by decide) ?_
      exact hQ bz1 h hP hD hS dX2_moveOn_42
  clear e5
  refine lv_if_ne (tgt := 13) hx hb dX2_moveOn_6 (by decide) (fun c17 => ?_) (fun c17 => ?_)
  · replace h := h.1 c17
    refine lv_iconst (v := (-1 : Int32)) hx hb dX2_moveOn_13 (by decide) ?_
    exact w4 (-1 : Int32) _ _ _ hl hP hD hS h
  · replace h := h.2 c17
    refine lv_iconst (v := (1 : Int32)) hx hb dX2_moveOn_9 (by decide) ?_
    refine lv_goto (tgt := 14) hx hb dX2_moveOn_10 (by decide) ?_
    exact w4 (1 : Int32) _ _ _ hl hP hD hS h

def wp_X2_takeOutGone (u : St)  (post : St → Prop) : Prop :=
  LP3 (fun (K4 : Int32 → Int32 → St → Prop) (x1 : Int32) (x2 : Int32) (u3 : St) => ((S_envelopeCount u3) ≤ x2 → post (sS_envelopeCount u3 x1)) ∧ (¬ (S_envelopeCount u3) ≤ x2 → wp_X2_ofEnvelope u3 x2 (1 : Int32) (fun r7 => (r7 = (-1 : Int32) → K4 x1 (x2 + 1) u3) ∧ (¬ r7 = (-1 : Int32) → LP2 (fun (K11 : Int32 → St → Prop) (x9 : Int32) (u10 : St) => ((4 : Int32) ≤ x9 → K4 (x1 + 1) (x2 + 1) u10) ∧ (¬ (4 : Int32) ≤ x9 → wp_X2_ofEnvelope u10 x2 x9 (fun r14 => wp_X2_putNumber u10 x1 x9 r14 (fun u16 => K11 (x9 + 1) u16)))) (0 : Int32) u3)))) (0 : Int32) (0 : Int32) u
set_option maxHeartbeats 4000000 in
set_option maxRecDepth 100000 in
theorem c_X2_takeOutGone (l : Launch) (D : va_G) (cI cS cJ : ClassId) (a : Nat → Nat) (u : St) (sz : Nat)  {post : St → Prop} (h : wp_X2_takeOutGone u post) : Met l yX2_takeOutGone (wsA yX2_takeOutGone cX2_takeOutGone 4 none) rm_X2_takeOutGone (va_Pc [.ref (a 0)] (rwP D (tysA cI cS cJ) (stW cI a u) sz)) (va_Qv post (fun u9 t => va_P D vwCl ((stW cI a) u9) t.heap ∧ va_D (va_A (stW cI a u) sz) ((stW cI a) u9)) (va_A (stW cI a u) sz)) 0 0 (va_A (stW cI a u) sz) := by
  refine mkRWv (wf := (stW cI a)) (by decide +kernel) (Nat.le_of_ble_eq_true rfl) (fun {p e s m args below meth c Q ls A H0 H locs} hx hb F hts hown hin hK hP hD hS hA hl hQ => ?_)
  have hown : s.vm.findClass RX2 = some m.cls := hown
  have F : CallFix p m c cX2_takeOutGone 4 s args wsT RX2 := F
  have hl : lv_has ls 4 [(0, .ref (a 0))] := hl
  unfold wp_X2_takeOutGone at h
  refine lv_iconst (v := (0 : Int32)) hx hb dX2_takeOutGone_0 (by decide) ?_
  refine lv_istore_n (lv' := [(1, .int (0 : Int32)), (0, .ref (a 0))]) hx hb dX2_takeOutGone_1 rfl hl (by decide) rfl (fun ls hl => ?_)
  refine lv_iconst (v := (0 : Int32)) hx hb dX2_takeOutGone_2 (by decide) ?_
  refine lv_istore_n (lv' := [(2, .int (0 : Int32)), (1, .int (0 : Int32)), (0, .ref (a 0))]) hx hb dX2_takeOutGone_3 rfl hl (by decide) rfl (fun ls hl => ?_)
  refine lpu3 h (fun K4 : Int32 → Int32 → St → Prop => ∀ (x1 : Int32) (x2 : Int32) (u3 : St) (ls : Array Slot) (H : Heap) (locs : List Loc), lv_has ls 4 [(0, .ref (a 0)), (1, .int x1), (2, .int x2)] → va_P D vwCl (stW cI a u3) H → va_D A (stW cI a u3) → va_S A H0 H locs → K4 x1 x2 u3 → W p l e rm_X2_takeOutGone s m args below meth c H locs 0 0 Q (F0 m 4 ls [])) ?_ ?_ ?_
  · intro x1 x2 u3 ls H locs hl hP hD hS h
    exact h.elim
  · intro K4
    intro w5 x1 x2 u3 ls H locs hl hP hD hS h
    refine lv_iload_n hx hb dX2_takeOutGone_4 rfl (lv_at hl 2 rfl) ?_
    refine lv_aload_n hx hb dX2_takeOutGone_5 rfl (lv_at hl 0 rfl) ?_
    refine va_get (D := D) (ci := 2) (v := .int (S_envelopeCount u3)) (C := RX2) (T := TX2) (N := 12) hx hb hts inT2 hown hK.k hP 0 rfl rfl 6 (by decide) (hts _ q_63) (fun _ h9 => h9) rfl dX2_takeOutGone_6 ?_
    refine lv_icmp_ge (tgt := 56) hx hb dX2_takeOutGone_9 (by decide) (fun c6 => ?_) (fun c6 => ?_)
    · replace h := h.1 c6
      refine lv_aload_n hx hb dX2_takeOutGone_56 rfl (lv_at hl 0 rfl) ?_
      refine lv_iload_n hx hb dX2_takeOutGone_57 rfl (lv_at hl 1 rfl) ?_
      refine va_put (D := D) (ci := 2) (v := .int x1) (ty := .int) (C := RX2) (T := TX2) (N := 12) hx hb hts inT2 tyX2 tyX2_ok nmX2 hown hK.k hP hD hS 0 rfl rfl 6 (by decide) (hts _ q_63) (fun _ h9 => h9) rfl (by decide +kernel) rfl rfl (Nat.le_of_ble_eq_true rfl) dX2_takeOutGone_58 (fun H locs hP hD hS => ?_)
      have hP : va_P D vwCl (stW cI a (sS_envelopeCount u3 x1)) H := hP
      have hD : va_D A (stW cI a (sS_envelopeCount u3 x1)) := hD
      exact hQ h hP hD hS dX2_takeOutGone_61
    · replace h := h.2 c6
      refine lv_aload_n hx hb dX2_takeOutGone_12 rfl (lv_at hl 0 rfl) ?_
      refine lv_iload_n hx hb dX2_takeOutGone_13 rfl (lv_at hl 2 rfl) ?_
      refine lv_iconst (v := (1 : Int32)) hx hb dX2_takeOutGone_14 (by decide) ?_
      refine roVi (As := [.int x2, .int (1 : Int32)]) (rest := []) F (c_X2_ofEnvelope l D cI cS cJ a u3 H x2 (1 : Int32) h) (cw_X2_75 hts (Nat.le_of_ble_eq_true rfl) (Nat.le_of_ble_eq_true rfl)) hK hP (recv (ci := 2) (k0 := 0) hK hP rfl rfl) rfl hl.1 rfl (Nat.le_of_ble_eq_true rfl) dX2_takeOutGone_15 ⟨Nat.zero_le _, Nat.zero_le _⟩ (fun r7 h => ?_)
      refine lv_iconst (v := (-1 : Int32)) hx hb dX2_takeOutGone_18 (by decide) ?_
      refine lv_icmp_eq (tgt := 50) hx hb dX2_takeOutGone_19 (by decide) (fun c8 => ?_) (fun c8 => ?_)
      · replace h := h.1 c8
        refine lv_iinc (v := (x2 + 1)) (lv' := [(2, .int (x2 + 1)), (0, .ref (a 0)), (1, .int x1)]) hx hb dX2_takeOutGone_50 hl (k := 2) rfl rfl (by decide) rfl (fun ls hl => ?_)
        refine lv_goto (tgt := 4) hx hb dX2_takeOutGone_53 (by decide) ?_
        exact w5 x1 (x2 + 1) u3 _ _ _ (lv_sub hl [1, 2, 0] rfl) hP hD hS h
      · replace h := h.2 c8
        refine lv_iconst (v := (0 : Int32)) hx hb dX2_takeOutGone_22 (by decide) ?_
        refine lv_istore_n (lv' := [(3, .int (0 : Int32)), (0, .ref (a 0)), (1, .int x1), (2, .int x2)]) hx hb dX2_takeOutGone_23 rfl hl (by decide) rfl (fun ls hl => ?_)
        refine lpu2 h (fun K11 : Int32 → St → Prop => ∀ (x9 : Int32) (u10 : St) (ls : Array Slot) (H : Heap) (locs : List Loc), lv_has ls 4 [(0, .ref (a 0)), (1, .int x1), (2, .int x2), (3, .int x9)] → va_P D vwCl (stW cI a u10) H → va_D A (stW cI a u10) → va_S A H0 H locs → K11 x9 u10 → W p l e rm_X2_takeOutGone s m args below meth c H locs 0 0 Q (F0 m 24 ls [])) ?_ ?_ ?_
        · intro x9 u10 ls H locs hl hP hD hS h
          exact h.elim
        · intro K11
          intro w12 x9 u10 ls H locs hl hP hD hS h
          refine lv_iload_n hx hb dX2_takeOutGone_24 rfl (lv_at hl 3 rfl) ?_
          refine lv_iconst (v := (4 : Int32)) hx hb dX2_takeOutGone_25 (by decide) ?_
          refine lv_icmp_ge (tgt := 47) hx hb dX2_takeOutGone_26 (by decide) (fun c13 => ?_) (fun c13 => ?_)
          · replace h := h.1 c13
            refine lv_iinc (v := (x1 + 1)) (lv' := [(1, .int (x1 + 1)), (0, .ref (a 0)), (2, .int x2), (3, .int x9)]) hx hb dX2_takeOutGone_47 hl (k := 1) rfl rfl (by decide) rfl (fun ls hl => ?_)
            refine lv_iinc (v := (x2 + 1)) (lv' := [(2, .int (x2 + 1)), (1, .int (x1 + 1)), (0, .ref (a 0)), (3, .int x9)]) hx hb dX2_takeOutGone_50 hl (k := 2) rfl rfl (by decide) rfl (fun ls hl => ?_)
            refine lv_goto (tgt := 4) hx hb dX2_takeOutGone_53 (by decide) ?_
            exact w5 (x1 + 1) (x2 + 1) u10 _ _ _ (lv_sub hl [2, 1, 0] rfl) hP hD hS h
          · replace h := h.2 c13
            refine lv_aload_n hx hb dX2_takeOutGone_29 rfl (lv_at hl 0 rfl) ?_
            refine lv_iload_n hx hb dX2_takeOutGone_30 rfl (lv_at hl 1 rfl) ?_
            refine lv_iload_n hx hb dX2_takeOutGone_31 rfl (lv_at hl 3 rfl) ?_
            refine lv_aload_n hx hb dX2_takeOutGone_32 rfl (lv_at hl 0 rfl) ?_
            refine lv_iload_n hx hb dX2_takeOutGone_33 rfl (lv_at hl 2 rfl) ?_
            refine lv_iload_n hx hb dX2_takeOutGone_34 rfl (lv_at hl 3 rfl) ?_
            refine roVi (As := [.int x2, .int x9]) (rest := [.int x9, .int x1, .ref (a 0)]) F (c_X2_ofEnvelope l D cI cS cJ a u10 H x2 x9 h) (cw_X2_75 hts (Nat.le_of_ble_eq_true rfl) (Nat.le_of_ble_eq_true rfl)) hK hP (recv (ci := 2) (k0 := 0) hK hP rfl rfl) rfl hl.1 rfl (Nat.le_of_ble_eq_true rfl) dX2_takeOutGone_35 ⟨Nat.zero_le _, Nat.zero_le _⟩ (fun r14 h => ?_)
            refine rwVv0 (As := [.int x1, .int x9, .int r14]) (rest := []) F (c_X2_putNumber l D cI cS cJ a u10 H.size x1 x9 r14 h) (cw_X2_118 hts (Nat.le_of_ble_eq_true rfl) (Nat.le_of_ble_eq_true rfl)) hK hP hD hS hA (recv (ci := 2) (k0 := 0) hK hP rfl rfl) rfl hl.1 rfl (Nat.le_of_ble_eq_true rfl) dX2_takeOutGone_38 ⟨Nat.zero_le _, Nat.zero_le _⟩ (fun u16 H locs h hP hD hS => ?_)
            refine lv_iinc (v := (x9 + 1)) (lv' := [(3, .int (x9 + 1)), (0, .ref (a 0)), (1, .int x1), (2, .int x2)]) hx hb dX2_takeOutGone_41 hl (k := 3) rfl rfl (by decide) rfl (fun ls hl => ?_)
            refine lv_goto (tgt := 24) hx hb dX2_takeOutGone_44 (by decide) ?_
            exact w12 (x9 + 1) u16 _ _ _ (lv_sub hl [1, 2, 3, 0] rfl) hP hD hS h
        · intro K11 w12 h
          exact w12 (0 : Int32) u3 _ _ _ (lv_sub hl [1, 2, 3, 0] rfl) hP hD hS h
  · intro K4 w5 h
    exact w5 (0 : Int32) (0 : Int32) u _ _ _ (lv_sub hl [2, 1, 0] rfl) hP hD hS h

def wp_X2_letTicksPass (u : St) (p1 : Int32) (post : Int32 → St → Prop) : Prop :=
  LP3 (fun (K4 : Int32 → Int32 → St → Prop) (x1 : Int32) (x2 : Int32) (u3 : St) => (p1 ≤ x2 → post x1 u3) ∧ (¬ p1 ≤ x2 → LP3 (fun (K10 : Int32 → Int32 → St → Prop) (x7 : Int32) (x8 : Int32) (u9 : St) => ((S_envelopeCount u9) ≤ x8 → wp_X2_takeOutGone u9 (fun u14 => K4 x7 (x2 + 1) u14)) ∧ (¬ (S_envelopeCount u9) ≤ x8 → wp_X2_moveOn u9 x8 (fun r15 u17 => (r15 = 0 → K10 x7 (x8 + 1) u17) ∧ (¬ r15 = 0 → K10 (x7 + 1) (x8 + 1) u17)))) x1 (0 : Int32) u3)) (0 : Int32) (0 : Int32) u
set_option maxHeartbeats 4000000 in
set_option maxRecDepth 100000 in
theorem c_X2_letTicksPass (l : Launch) (D : va_G) (cI cS cJ : ClassId) (a : Nat → Nat) (u : St) (sz : Nat) (p1 : Int32) {post : Int32 → St → Prop} (h : wp_X2_letTicksPass u p1 post) : Met l yX2_letTicksPass (wsA yX2_letTicksPass cX2_letTicksPass 5 (some .int)) rm_X2_letTicksPass (va_Pc [.ref (a 0), .int p1] (rwP D (tysA cI cS cJ) (stW cI a u) sz)) (va_Qi post (fun u9 t => va_P D vwCl ((stW cI a) u9) t.heap ∧ va_D (va_A (stW cI a u) sz) ((stW cI a) u9)) (va_A (stW cI a u) sz)) 0 0 (va_A (stW cI a u) sz) := by
  refine mkRWi (wf := (stW cI a)) (by decide +kernel) (Nat.le_of_ble_eq_true rfl) (fun {p e s m args below meth c Q ls A H0 H locs} hx hb F hts hown hK hP hD hS hA hl hQ => ?_)
  have hown : s.vm.findClass RX2 = some m.cls := hown
  have F : CallFix p m c cX2_letTicksPass 5 s args wsT RX2 := F
  have hl : lv_has ls 5 [(0, .ref (a 0)), (1, .int p1)] := hl
  unfold wp_X2_letTicksPass at h
  refine lv_iconst (v := (0 : Int32)) hx hb dX2_letTicksPass_0 (by decide) ?_
  refine lv_istore_n (lv' := [(2, .int (0 : Int32)), (0, .ref (a 0)), (1, .int p1)]) hx hb dX2_letTicksPass_1 rfl hl (by decide) rfl (fun ls hl => ?_)
  refine lv_iconst (v := (0 : Int32)) hx hb dX2_letTicksPass_2 (by decide) ?_
  refine lv_istore_n (lv' := [(3, .int (0 : Int32)), (2, .int (0 : Int32)), (0, .ref (a 0)), (1, .int p1)]) hx hb dX2_letTicksPass_3 rfl hl (by decide) rfl (fun ls hl => ?_)
  refine lpu3 h (fun K4 : Int32 → Int32 → St → Prop => ∀ (x1 : Int32) (x2 : Int32) (u3 : St) (ls : Array Slot) (H : Heap) (locs : List Loc), lv_has ls 5 [(0, .ref (a 0)), (1, .int p1), (2, .int x1), (3, .int x2)] → va_P D vwCl (stW cI a u3) H → va_D A (stW cI a u3) → va_S A H0 H locs → K4 x1 x2 u3 → W p l e rm_X2_letTicksPass s m args below meth c H locs 0 0 Q (F0 m 4 ls [])) ?_ ?_ ?_
  · intro x1 x2 u3 ls H locs hl hP hD hS h
    exact h.elim
  · intro K4
    intro w5 x1 x2 u3 ls H locs hl hP hD hS h
    refine lv_iload_n hx hb dX2_letTicksPass_4 rfl (lv_at hl 3 rfl) ?_
    refine lv_iload_n hx hb dX2_letTicksPass_5 rfl (lv_at hl 1 rfl) ?_
    refine lv_icmp_ge (tgt := 49) hx hb dX2_letTicksPass_6 (by decide) (fun c6 => ?_) (fun c6 => ?_)
    · replace h := h.1 c6
      refine lv_iload_n hx hb dX2_letTicksPass_49 rfl (lv_at hl 2 rfl) ?_
      exact hQ h hP hD hS dX2_letTicksPass_50
    · replace h := h.2 c6
      refine lv_iconst (v := (0 : Int32)) hx hb dX2_letTicksPass_9 (by decide) ?_
      refine lv_istore (lv' := [(4, .int (0 : Int32)), (0, .ref (a 0)), (1, .int p1), (2, .int x1), (3, .int x2)]) hx hb dX2_letTicksPass_10 hl (by decide) rfl (fun ls hl => ?_)
      refine lpu3 h (fun K10 : Int32 → Int32 → St → Prop => ∀ (x7 : Int32) (x8 : Int32) (u9 : St) (ls : Array Slot) (H : Heap) (locs : List Loc), lv_has ls 5 [(0, .ref (a 0)), (1, .int p1), (2, .int x7), (3, .int x2), (4, .int x8)] → va_P D vwCl (stW cI a u9) H → va_D A (stW cI a u9) → va_S A H0 H locs → K10 x7 x8 u9 → W p l e rm_X2_letTicksPass s m args below meth c H locs 0 0 Q (F0 m 12 ls [])) ?_ ?_ ?_
      · intro x7 x8 u9 ls H locs hl hP hD hS h
        exact h.elim
      · intro K10
        intro w11 x7 x8 u9 ls H locs hl hP hD hS h
        refine lv_iload hx hb dX2_letTicksPass_12 (lv_at hl 4 rfl) ?_
        refine lv_aload_n hx hb dX2_letTicksPass_14 rfl (lv_at hl 0 rfl) ?_
        refine va_get (D := D) (ci := 2) (v := .int (S_envelopeCount u9)) (C := RX2) (T := TX2) (N := 12) hx hb hts inT2 hown hK.k hP 0 rfl rfl 6 (by decide) (hts _ q_63) (fun _ h9 => h9) rfl dX2_letTicksPass_15 ?_
        refine lv_icmp_ge (tgt := 39) hx hb dX2_letTicksPass_18 (by decide) (fun c12 => ?_) (fun c12 => ?_)
        · replace h := h.1 c12
          refine lv_aload_n hx hb dX2_letTicksPass_39 rfl (lv_at hl 0 rfl) ?_
          refine rwVv0 (As := []) (rest := []) F (c_X2_takeOutGone l D cI cS cJ a u9 H.size  h) (cw_X2_124 hts (Nat.le_of_ble_eq_true rfl) (Nat.le_of_ble_eq_true rfl)) hK hP hD hS hA (recv (ci := 2) (k0 := 0) hK hP rfl rfl) rfl hl.1 rfl (Nat.le_of_ble_eq_true rfl) dX2_letTicksPass_40 ⟨Nat.zero_le _, Nat.zero_le _⟩ (fun u14 H locs h hP hD hS => ?_)
          refine lv_iinc (v := (x2 + 1)) (lv' := [(3, .int (x2 + 1)), (0, .ref (a 0)), (1, .int p1), (2, .int x7), (4, .int x8)]) hx hb dX2_letTicksPass_43 hl (k := 3) rfl rfl (by decide) rfl (fun ls hl => ?_)
          refine lv_goto (tgt := 4) hx hb dX2_letTicksPass_46 (by decide) ?_
          exact w5 x7 (x2 + 1) u14 _ _ _ (lv_sub hl [1, 2, 3, 0] rfl) hP hD hS h
        · replace h := h.2 c12
          refine lv_aload_n hx hb dX2_letTicksPass_21 rfl (lv_at hl 0 rfl) ?_
          refine lv_iload hx hb dX2_letTicksPass_22 (lv_at hl 4 rfl) ?_
          refine rwVi0 (As := [.int x8]) (rest := []) F (c_X2_moveOn l D cI cS cJ a u9 H.size x8 h) (cw_X2_121 hts (Nat.le_of_ble_eq_true rfl) (Nat.le_of_ble_eq_true rfl)) hK hP hD hS hA (recv (ci := 2) (k0 := 0) hK hP rfl rfl) rfl hl.1 rfl (Nat.le_of_ble_eq_true rfl) dX2_letTicksPass_24 ⟨Nat.zero_le _, Nat.zero_le _⟩ (fun r15 u17 H locs h hP hD hS => ?_)
          obtain ⟨b16, h⟩ := h
          refine lv_if_eq (tgt := 33) hx hb dX2_letTicksPass_27 (by decide) (fun c18 => ?_) (fun c18 => ?_)
          · replace h := h.1 c18
            refine lv_iinc (v := (x8 + 1)) (lv' := [(4, .int (x8 + 1)), (0, .ref (a 0)), (1, .int p1), (2, .int x7), (3, .int x2)]) hx hb dX2_letTicksPass_33 hl (k := 4) rfl rfl (by decide) rfl (fun ls hl => ?_)
            refine lv_goto (tgt := 12) hx hb dX2_letTicksPass_36 (by decide) ?_
            exact w11 x7 (x8 + 1) u17 _ _ _ (lv_sub hl [1, 2, 3, 4, 0] rfl) hP hD hS h
          · replace h := h.2 c18
            refine lv_iinc (v := (x7 + 1)) (lv' := [(2, .int (x7 + 1)), (0, .ref (a 0)), (1, .int p1), (3, .int x2), (4, .int x8)]) hx hb dX2_letTicksPass_30 hl (k := 2) rfl rfl (by decide) rfl (fun ls hl => ?_)
            refine lv_iinc (v := (x8 + 1)) (lv' := [(4, .int (x8 + 1)), (2, .int (x7 + 1)), (0, .ref (a 0)), (1, .int p1), (3, .int x2)]) hx hb dX2_letTicksPass_33 hl (k := 4) rfl rfl (by decide) rfl (fun ls hl => ?_)
            refine lv_goto (tgt := 12) hx hb dX2_letTicksPass_36 (by decide) ?_
            exact w11 (x7 + 1) (x8 + 1) u17 _ _ _ (lv_sub hl [2, 3, 1, 4, 0] rfl) hP hD hS h
      · intro K10 w11 h
        exact w11 x1 (0 : Int32) u3 _ _ _ (lv_sub hl [1, 2, 3, 4, 0] rfl) hP hD hS h
  · intro K4 w5 h
    exact w5 (0 : Int32) (0 : Int32) u _ _ _ (lv_sub hl [2, 3, 1, 0] rfl) hP hD hS h

def wp_X2_ticksLeft (u : St) (p1 : Int32) (p2 : Int32) (post : Int32 → Prop) : Prop :=
  wp_X2_ofEnvelope u p1 (0 : Int32) (fun r1 => wp_X2_ofEnvelope u p1 (1 : Int32) (fun r2 => wp_X2_ofEnvelope u p1 (3 : Int32) (fun r3 => jn (fun (x4 : Int32) => LP1 (fun (K10 : Int32 → Prop) (x9 : Int32) => ((3 : Int32) < x9 → (x4 = 0 → post r2) ∧ (¬ x4 = 0 → post ((4 : Int32) - r2))) ∧ (¬ (3 : Int32) < x9 → jn (fun (x14 : Int32) => (x14 = 0 → K10 (x9 + 1)) ∧ (¬ x14 = 0 → wp_X2_innAt u r1 x9 (fun r20 => wp_X2_isInMask p2 r20 (fun r21 => (¬ r21 = 0 → K10 (x9 + 1)) ∧ (r21 = 0 → post (-1 : Int32)))))) (fun (J16 : Int32 → Prop) => (x4 = 0 → (r2 ≤ x9 → J16 (0 : Int32)) ∧ (¬ r2 ≤ x9 → J16 (1 : Int32))) ∧ (¬ x4 = 0 → (x9 ≤ r2 → J16 (0 : Int32)) ∧ (¬ x9 ≤ r2 → J16 (1 : Int32)))))) (1 : Int32)) (fun (J6 : Int32 → Prop) => (¬ r3 = 0 → J6 (0 : Int32)) ∧ (r3 = 0 → J6 (1 : Int32))))))
set_option maxHeartbeats 4000000 in
set_option maxRecDepth 100000 in
theorem c_X2_ticksLeft (l : Launch) (D : va_G) (cI cS cJ : ClassId) (a : Nat → Nat) (u : St) (H0 : Heap) (p1 : Int32) (p2 : Int32) {post : Int32 → Prop} (h : wp_X2_ticksLeft u p1 p2 post) : Met l yX2_ticksLeft (wsA yX2_ticksLeft cX2_ticksLeft 8 (some .int)) rm_X2_ticksLeft (va_Pc [.ref (a 0), .int p1, .int p2] (roP D (tysA cI cS cJ) (stW cI a u) H0)) (va_Qi (fun r (_ : Unit) => post r) (fun _ t => t.heap = H0) nF) 0 0 nF := by
  refine mkROi (by decide +kernel) (Nat.le_of_ble_eq_true rfl) (fun {p e s m args below meth c Q ls} hx hb F hts hown hK hP hl hQ => ?_)
  have hown : s.vm.findClass RX2 = some m.cls := hown
  have F : CallFix p m c cX2_ticksLeft 8 s args wsT RX2 := F
  have hl : lv_has ls 8 [(0, .ref (a 0)), (1, .int p1), (2, .int p2)] := hl
  unfold wp_X2_ticksLeft at h
  refine lv_aload_n hx hb dX2_ticksLeft_0 rfl (lv_at hl 0 rfl) ?_
  refine lv_iload_n hx hb dX2_ticksLeft_1 rfl (lv_at hl 1 rfl) ?_
  refine lv_iconst (v := (0 : Int32)) hx hb dX2_ticksLeft_2 (by decide) ?_
  refine roVi (As := [.int p1, .int (0 : Int32)]) (rest := []) F (c_X2_ofEnvelope l D cI cS cJ a u H0 p1 (0 : Int32) h) (cw_X2_75 hts (Nat.le_of_ble_eq_true rfl) (Nat.le_of_ble_eq_true rfl)) hK hP (recv (ci := 2) (k0 := 0) hK hP rfl rfl) rfl hl.1 rfl (Nat.le_of_ble_eq_true rfl) dX2_ticksLeft_3 ⟨Nat.zero_le _, Nat.zero_le _⟩ (fun r1 h => ?_)
  refine lv_istore_n (lv' := [(3, .int r1), (0, .ref (a 0)), (1, .int p1), (2, .int p2)]) hx hb dX2_ticksLeft_6 rfl hl (by decide) rfl (fun ls hl => ?_)
  refine lv_aload_n hx hb dX2_ticksLeft_7 rfl (lv_at hl 1 rfl) ?_
  refine lv_iload_n hx hb dX2_ticksLeft_8 rfl (lv_at hl 2 rfl) ?_
  refine lv_iconst (v := (1 : Int32)) hx hb dX2_ticksLeft_9 (by decide) ?_
  refine roVi (As := [.int p1, .int (1 : Int32)]) (rest := []) F (c_X2_ofEnvelope l D cI cS cJ a u H0 p1 (1 : Int32) h) (cw_X2_75 hts (Nat.le_of_ble_eq_true rfl) (Nat.le_of_ble_eq_true rfl)) hK hP (recv (ci := 2) (k0 := 0) hK hP rfl rfl) rfl hl.1 rfl (Nat.le_of_ble_eq_true rfl) dX2_ticksLeft_10 ⟨Nat.zero_le _, Nat.zero_le _⟩ (fun r2 h => ?_)
  refine lv_istore (lv' := [(4, .int r2), (3, .int r1), (0, .ref (a 0)), (1, .int p1), (2, .int p2)]) hx hb dX2_ticksLeft_13 hl (by decide) rfl (fun ls hl => ?_)
  refine lv_aload_n hx hb dX2_ticksLeft_15 rfl (lv_at hl 2 rfl) ?_
  refine lv_iload_n hx hb dX2_ticksLeft_16 rfl (lv_at hl 3 rfl) ?_
  refine lv_iconst (v := (3 : Int32)) hx hb dX2_ticksLeft_17 (by decide) ?_
  refine roVi (As := [.int p1, .int (3 : Int32)]) (rest := []) F (c_X2_ofEnvelope l D cI cS cJ a u H0 p1 (3 : Int32) h) (cw_X2_75 hts (Nat.le_of_ble_eq_true rfl) (Nat.le_of_ble_eq_true rfl)) hK hP (recv (ci := 2) (k0 := 0) hK hP rfl rfl) rfl hl.1 rfl (Nat.le_of_ble_eq_true rfl) dX2_ticksLeft_18 ⟨Nat.zero_le _, Nat.zero_le _⟩ (fun r3 h => ?_)
  refine jn_e h (fun J6 e8 h => ?_)
  have w7 : ∀ (x4 : Int32) (ls : Array Slot), bz x4 → lv_has ls 8 [(0, .ref (a 0)), (2, .int p2), (3, .int r1), (4, .int r2)] → J6 x4 → W p l e rm_X2_ticksLeft s m args below meth c H0 [] 0 0 Q (F0 m 29 ls [.int x4]) := by
    intro x4 ls b5 hl h
    subst e8
    refine lv_istore (lv' := [(5, .int x4), (0, .ref (a 0)), (2, .int p2), (3, .int r1), (4, .int r2)]) hx hb dX2_ticksLeft_29 hl (by decide) rfl (fun ls hl => ?_)
    refine lv_iconst (v := (1 : Int32)) hx hb dX2_ticksLeft_31 (by decide) ?_
    refine lv_istore (lv' := [(6, .int (1 : Int32)), (5, .int x4), (0, .ref (a 0)), (2, .int p2), (3, .int r1), (4, .int r2)]) hx hb dX2_ticksLeft_32 hl (by decide) rfl (fun ls hl => ?_)
    refine lpu1 h (fun K10 : Int32 → Prop => ∀ (x9 : Int32) (ls : Array Slot), lv_has ls 8 [(0, .ref (a 0)), (2, .int p2), (3, .int r1), (4, .int r2), (5, .int x4), (6, .int x9)] → K10 x9 → W p l e rm_X2_ticksLeft s m args below meth c H0 [] 0 0 Q (F0 m 34 ls [])) ?_ ?_ ?_
    · intro x9 ls hl h
      exact h.elim
    · intro K10
      intro w11 x9 ls hl h
      refine lv_iload hx hb dX2_ticksLeft_34 (lv_at hl 5 rfl) ?_
      refine lv_iconst (v := (3 : Int32)) hx hb dX2_ticksLeft_36 (by decide) ?_
      refine lv_icmp_gt (tgt := 101) hx hb dX2_ticksLeft_37 (by decide) (fun c12 => ?_) (fun c12 => ?_)
      · replace h := h.1 c12
        refine lv_iload hx hb dX2_ticksLeft_101 (lv_at hl 4 rfl) ?_
        refine lv_if_eq (tgt := 113) hx hb dX2_ticksLeft_103 (by decide) (fun c13 => ?_) (fun c13 => ?_)
        · replace h := h.1 c13
          refine lv_iload hx hb dX2_ticksLeft_113 (lv_at hl 3 rfl) ?_
          exact hQ h dX2_ticksLeft_115
        · replace h := h.2 c13
          refine lv_iconst (v := (4 : Int32)) hx hb dX2_ticksLeft_106 (by decide) ?_
          refine lv_iload hx hb dX2_ticksLeft_107 (lv_at hl 3 rfl) ?_
          refine lv_isub hx hb dX2_ticksLeft_109 ?_
          refine lv_goto (tgt := 115) hx hb dX2_ticksLeft_110 (by decide) ?_
          exact hQ h dX2_ticksLeft_115
      · replace h := h.2 c12
        refine lv_iload hx hb dX2_ticksLeft_40 (lv_at hl 4 rfl) ?_
        refine jn_e h (fun J16 e18 h => ?_)
        have w17 : ∀ (x14 : Int32) (ls : Array Slot), bz x14 → lv_has ls 8 [(0, .ref (a 0)), (2, .int p2), (3, .int r1), (4, .int r2), (5, .int x4), (6, .int x9)] → J16 x14 → W p l e rm_X2_ticksLeft s m args below meth c H0 [] 0 0 Q (F0 m 72 ls [.int x14]) := by
          intro x14 ls b15 hl h
          subst e18
          refine lv_istore (lv' := [(7, .int x14), (0, .ref (a 0)), (2, .int p2), (3, .int r1), (4, .int r2), (5, .int x4), (6, .int x9)]) hx hb dX2_ticksLeft_72 hl (by decide) rfl (fun ls hl => ?_)
          refine lv_iload hx hb dX2_ticksLeft_74 (lv_at hl 0 rfl) ?_
          refine lv_if_eq (tgt := 95) hx hb dX2_ticksLeft_76 (by decide) (fun c19 => ?_) (fun c19 => ?_)
          · replace h := h.1 c19
            refine lv_iinc (v := (x9 + 1)) (lv' := [(6, .int (x9 + 1)), (7, .int x14), (0, .ref (a 0)), (2, .int p2), (3, .int r1), (4, .int r2), (5, .int x4)]) hx hb dX2_ticksLeft_95 hl (k := 6) rfl rfl (by decide) rfl (fun ls hl => ?_)
            refine lv_goto (tgt := 34) hx hb dX2_ticksLeft_98 (by decide) ?_
            exact w11 (x9 + 1) _ (lv_sub hl [2, 3, 4, 5, 6, 0] rfl) h
          · replace h := h.2 c19
            refine lv_iload_n hx hb dX2_ticksLeft_79 rfl (lv_at hl 2 rfl) ?_
            refine lv_aload_n hx hb dX2_ticksLeft_80 rfl (lv_at hl 1 rfl) ?_
            refine lv_iload_n hx hb dX2_ticksLeft_81 rfl (lv_at hl 3 rfl) ?_
            refine lv_iload hx hb dX2_ticksLeft_82 (lv_at hl 6 rfl) ?_
            refine roVi (As := [.int r1, .int x9]) (rest := [.int p2]) F (c_X2_innAt l D cI cS cJ a u H0 r1 x9 h) (cw_X2_79 hts (Nat.le_of_ble_eq_true rfl) (Nat.le_of_ble_eq_true rfl)) hK hP (recv (ci := 2) (k0 := 0) hK hP rfl rfl) rfl hl.1 rfl (Nat.le_of_ble_eq_true rfl) dX2_ticksLeft_84 ⟨Nat.zero_le _, Nat.zero_le _⟩ (fun r20 h => ?_)
            refine roSi (As := [.int p2, .int r20]) (rest := []) F (c_X2_isInMask l D cI cS cJ H0 p2 r20 h) (cw_X2_59 hts (Nat.le_of_ble_eq_true rfl) (Nat.le_of_ble_eq_true rfl)) hK vP_nil rfl hl.1 rfl (Nat.le_of_ble_eq_true rfl) dX2_ticksLeft_87 ⟨Nat.zero_le _, Nat.zero_le _⟩ (fun r21 h => ?_)
            obtain ⟨b22, h⟩ := h
            refine lv_if_ne (tgt := 95) hx hb dX2_ticksLeft_90 (by decide) (fun c23 => ?_) (fun c23 => ?_)
            · replace h := h.1 c23
              refine lv_iinc (v := (x9 + 1)) (lv' := [(6, .int (x9 + 1)), (7, .int x14), (0, .ref (a 0)), (2, .int p2), (3, .int r1), (4, .int r2), (5, .int x4)]) hx hb dX2_ticksLeft_95 hl (k := 6) rfl rfl (by decide) rfl (fun ls hl => ?_)
              refine lv_goto (tgt := 34) hx hb dX2_ticksLeft_98 (by decide) ?_
              exact w11 (x9 + 1) _ (lv_sub hl [2, 3, 4, 5, 6, 0] rfl) h
            · replace h := h.2 c23
              refine lv_iconst (v := (-1 : Int32)) hx hb dX2_ticksLeft_93 (by decide) ?_
              exact hQ h dX2_ticksLeft_94
        clear e18
        refine lv_if_eq (tgt := 60) hx hb dX2_ticksLeft_42 (by decide) (fun c24 => ?_) (fun c24 => ?_)
        · replace h := h.1 c24
          refine lv_iload hx hb dX2_ticksLeft_60 (lv_at hl 5 rfl) ?_
          refine lv_iload hx hb dX2_ticksLeft_62 (lv_at hl 3 rfl) ?_
          refine lv_icmp_ge (tgt := 71) hx hb dX2_ticksLeft_64 (by decide) (fun c25 => ?_) (fun c25 => ?_)
          · replace h := h.1 c25
            refine lv_iconst (v := (0 : Int32)) hx hb dX2_ticksLeft_71 (by decide) ?_
            exact w17 (0 : Int32) _ bz0 hl h
          · replace h := h.2 c25
            refine lv_iconst (v := (1 : Int32)) hx hb dX2_ticksLeft_67 (by decide) ?_
            refine lv_goto (tgt := 72) hx hb dX2_ticksLeft_68 (by decide) ?_
            exact w17 (1 : Int32) _ bz1 hl h
        · replace h := h.2 c24
          refine lv_iload hx hb dX2_ticksLeft_45 (lv_at hl 5 rfl) ?_
          refine lv_iload hx hb dX2_ticksLeft_47 (lv_at hl 3 rfl) ?_
          refine lv_icmp_le (tgt := 56) hx hb dX2_ticksLeft_49 (by decide) (fun c26 => ?_) (fun c26 => ?_)
          · replace h := h.1 c26
            refine lv_iconst (v := (0 : Int32)) hx hb dX2_ticksLeft_56 (by decide) ?_
            refine lv_goto (tgt := 72) hx hb dX2_ticksLeft_57 (by decide) ?_
            exact w17 (0 : Int32) _ bz0 hl h
          · replace h := h.2 c26
            refine lv_iconst (v := (1 : Int32)) hx hb dX2_ticksLeft_52 (by decide) ?_
            refine lv_goto (tgt := 72) hx hb dX2_ticksLeft_53 (by decide) ?_
            exact w17 (1 : Int32) _ bz1 hl h
    · intro K10 w11 h
      exact w11 (1 : Int32) _ (lv_sub hl [2, 3, 4, 5, 1, 0] rfl) h
  clear e8
  refine lv_if_ne (tgt := 28) hx hb dX2_ticksLeft_21 (by decide) (fun c27 => ?_) (fun c27 => ?_)
  · replace h := h.1 c27
    refine lv_iconst (v := (0 : Int32)) hx hb dX2_ticksLeft_28 (by decide) ?_
    exact w7 (0 : Int32) _ bz0 (lv_sub hl [2, 4, 1, 0] rfl) h
  · replace h := h.2 c27
    refine lv_iconst (v := (1 : Int32)) hx hb dX2_ticksLeft_24 (by decide) ?_
    refine lv_goto (tgt := 29) hx hb dX2_ticksLeft_25 (by decide) ?_
    exact w7 (1 : Int32) _ bz1 (lv_sub hl [2, 4, 1, 0] rfl) h

def wp_X2_lostWithout (u : St) (p1 : Int32) (post : Int32 → Prop) : Prop :=
  LP2 (fun (K3 : Int32 → Int32 → Prop) (x1 : Int32) (x2 : Int32) => ((S_envelopeCount u) ≤ x2 → post x1) ∧ (¬ (S_envelopeCount u) ≤ x2 → wp_X2_ticksLeft u x2 ((S_openMask u) &&& (((1 : Int32) <<< (p1 &&& 31)) ^^^ (-1 : Int32))) (fun r6 => (¬ r6 = (-1 : Int32) → K3 x1 (x2 + 1)) ∧ (r6 = (-1 : Int32) → K3 (x1 + 1) (x2 + 1))))) (0 : Int32) (0 : Int32)
set_option maxHeartbeats 4000000 in
set_option maxRecDepth 100000 in
theorem c_X2_lostWithout (l : Launch) (D : va_G) (cI cS cJ : ClassId) (a : Nat → Nat) (u : St) (H0 : Heap) (p1 : Int32) {post : Int32 → Prop} (h : wp_X2_lostWithout u p1 post) : Met l yX2_lostWithout (wsA yX2_lostWithout cX2_lostWithout 4 (some .int)) rm_X2_lostWithout (va_Pc [.ref (a 0), .int p1] (roP D (tysA cI cS cJ) (stW cI a u) H0)) (va_Qi (fun r (_ : Unit) => post r) (fun _ t => t.heap = H0) nF) 0 0 nF := by
  refine mkROi (by decide +kernel) (Nat.le_of_ble_eq_true rfl) (fun {p e s m args below meth c Q ls} hx hb F hts hown hK hP hl hQ => ?_)
  have hown : s.vm.findClass RX2 = some m.cls := hown
  have F : CallFix p m c cX2_lostWithout 4 s args wsT RX2 := F
  have hl : lv_has ls 4 [(0, .ref (a 0)), (1, .int p1)] := hl
  unfold wp_X2_lostWithout at h
  refine lv_iconst (v := (0 : Int32)) hx hb dX2_lostWithout_0 (by decide) ?_
  refine lv_istore_n (lv' := [(2, .int (0 : Int32)), (0, .ref (a 0)), (1, .int p1)]) hx hb dX2_lostWithout_1 rfl hl (by decide) rfl (fun ls hl => ?_)
  refine lv_iconst (v := (0 : Int32)) hx hb dX2_lostWithout_2 (by decide) ?_
  refine lv_istore_n (lv' := [(3, .int (0 : Int32)), (2, .int (0 : Int32)), (0, .ref (a 0)), (1, .int p1)]) hx hb dX2_lostWithout_3 rfl hl (by decide) rfl (fun ls hl => ?_)
  refine lpu2 h (fun K3 : Int32 → Int32 → Prop => ∀ (x1 : Int32) (x2 : Int32) (ls : Array Slot), lv_has ls 4 [(0, .ref (a 0)), (1, .int p1), (2, .int x1), (3, .int x2)] → K3 x1 x2 → W p l e rm_X2_lostWithout s m args below meth c H0 [] 0 0 Q (F0 m 4 ls [])) ?_ ?_ ?_
  · intro x1 x2 ls hl h
    exact h.elim
  · intro K3
    intro w4 x1 x2 ls hl h
    refine lv_iload_n hx hb dX2_lostWithout_4 rfl (lv_at hl 3 rfl) ?_
    refine lv_aload_n hx hb dX2_lostWithout_5 rfl (lv_at hl 0 rfl) ?_
    refine va_get (D := D) (ci := 2) (v := .int (S_envelopeCount u)) (C := RX2) (T := TX2) (N := 12) hx hb hts inT2 hown hK.k hP 0 rfl rfl 6 (by decide) (hts _ q_63) (fun _ h9 => h9) rfl dX2_lostWithout_6 ?_
    refine lv_icmp_ge (tgt := 40) hx hb dX2_lostWithout_9 (by decide) (fun c5 => ?_) (fun c5 => ?_)
    · replace h := h.1 c5
      refine lv_iload_n hx hb dX2_lostWithout_40 rfl (lv_at hl 2 rfl) ?_
      exact hQ h dX2_lostWithout_41
    · replace h := h.2 c5
      refine lv_aload_n hx hb dX2_lostWithout_12 rfl (lv_at hl 0 rfl) ?_
      refine lv_iload_n hx hb dX2_lostWithout_13 rfl (lv_at hl 3 rfl) ?_
      refine lv_aload_n hx hb dX2_lostWithout_14 rfl (lv_at hl 0 rfl) ?_
      refine va_get (D := D) (ci := 2) (v := .int (S_openMask u)) (C := RX2) (T := TX2) (N := 12) hx hb hts inT2 hown hK.k hP 0 rfl rfl 0 (by decide) (hts _ q_53) (fun _ h9 => h9) rfl dX2_lostWithout_15 ?_
      refine lv_iconst (v := (1 : Int32)) hx hb dX2_lostWithout_18 (by decide) ?_
      refine lv_iload_n hx hb dX2_lostWithout_19 rfl (lv_at hl 1 rfl) ?_
      refine lv_ishl hx hb dX2_lostWithout_20 ?_
      refine lv_iconst (v := (-1 : Int32)) hx hb dX2_lostWithout_21 (by decide) ?_
      refine lv_ixor hx hb dX2_lostWithout_22 ?_
      refine lv_iand hx hb dX2_lostWithout_23 ?_
      refine roVi (As := [.int x2, .int ((S_openMask u) &&& (((1 : Int32) <<< (p1 &&& 31)) ^^^ (-1 : Int32)))]) (rest := []) F (c_X2_ticksLeft l D cI cS cJ a u H0 x2 ((S_openMask u) &&& (((1 : Int32) <<< (p1 &&& 31)) ^^^ (-1 : Int32))) h) (cw_X2_140 hts (Nat.le_of_ble_eq_true rfl) (Nat.le_of_ble_eq_true rfl)) hK hP (recv (ci := 2) (k0 := 0) hK hP rfl rfl) rfl hl.1 rfl (Nat.le_of_ble_eq_true rfl) dX2_lostWithout_24 ⟨Nat.zero_le _, Nat.zero_le _⟩ (fun r6 h => ?_)
      refine lv_iconst (v := (-1 : Int32)) hx hb dX2_lostWithout_27 (by decide) ?_
      refine lv_icmp_ne (tgt := 34) hx hb dX2_lostWithout_28 (by decide) (fun c7 => ?_) (fun c7 => ?_)
      · replace h := h.1 c7
        refine lv_iinc (v := (x2 + 1)) (lv' := [(3, .int (x2 + 1)), (0, .ref (a 0)), (1, .int p1), (2, .int x1)]) hx hb dX2_lostWithout_34 hl (k := 3) rfl rfl (by decide) rfl (fun ls hl => ?_)
        refine lv_goto (tgt := 4) hx hb dX2_lostWithout_37 (by decide) ?_
        exact w4 x1 (x2 + 1) _ (lv_sub hl [1, 2, 3, 0] rfl) h
      · replace h := h.2 c7
        refine lv_iinc (v := (x1 + 1)) (lv' := [(2, .int (x1 + 1)), (0, .ref (a 0)), (1, .int p1), (3, .int x2)]) hx hb dX2_lostWithout_31 hl (k := 2) rfl rfl (by decide) rfl (fun ls hl => ?_)
        refine lv_iinc (v := (x2 + 1)) (lv' := [(3, .int (x2 + 1)), (2, .int (x1 + 1)), (0, .ref (a 0)), (1, .int p1)]) hx hb dX2_lostWithout_34 hl (k := 3) rfl rfl (by decide) rfl (fun ls hl => ?_)
        refine lv_goto (tgt := 4) hx hb dX2_lostWithout_37 (by decide) ?_
        exact w4 (x1 + 1) (x2 + 1) _ (lv_sub hl [2, 3, 1, 0] rfl) h
  · intro K3 w4 h
    exact w4 (0 : Int32) (0 : Int32) _ (lv_sub hl [2, 3, 1, 0] rfl) h
