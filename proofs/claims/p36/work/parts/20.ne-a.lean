def wp_X3_setOpen (u : Ne) (p1 : Int32) (p2 : Int32) (post : Int32 → Ne → Prop) : Prop :=
  wp_X3_innFault p1 (fun r1 => wp_X3_refuse r1 (wp_X1_keep (N_saved u, N_now u) (fun u4 => wp_X2_hasOpen (N_now (sN_saved (sN_now u u4.2) u4.1)) p1 (fun r5 => wp_X2_turn (N_now (sN_saved (sN_now u u4.2) u4.1)) p1 p2 (fun u8 => post r5 (sN_now (sN_saved (sN_now u u4.2) u4.1) u8))))))
set_option maxHeartbeats 4000000 in
set_option maxRecDepth 100000 in
theorem c_X3_setOpen (l : Launch) (D : va_G) (cI cS cJ : ClassId) (G : Nat → Nat → Nat) (u : Ne) (sz : Nat) (p1 : Int32) (p2 : Int32) {post : Int32 → Ne → Prop} (h : wp_X3_setOpen u p1 p2 post) : Met l yX3_setOpen (wsA yX3_setOpen cX3_setOpen 4 (some .boolean)) rm_X3_setOpen (va_Pc [.ref (G 2 0), .int p1, .int p2] (rwP D (tysA cI cS cJ) (neW cI cS G u) sz)) (va_Qi (fun r u9 => bz r ∧ post r u9) (fun u9 t => va_P D vwCl ((neW cI cS G) u9) t.heap ∧ va_D (va_A (neW cI cS G u) sz) ((neW cI cS G) u9)) (va_A (neW cI cS G u) sz)) 0 0 (va_A (neW cI cS G u) sz) := by
  refine mkRWz (wf := (neW cI cS G)) (by decide +kernel) (Nat.le_of_ble_eq_true rfl) (fun {p e s m args below meth c Q ls A H0 H locs} hx hb F hts hown hK hP hD hS hA hl hQ => ?_)
  have hown : s.vm.findClass RX3 = some m.cls := hown
  have F : CallFix p m c cX3_setOpen 4 s args wsT RX3 := F
  have hl : lv_has ls 4 [(0, .ref (G 2 0)), (1, .int p1), (2, .int p2)] := hl
  unfold wp_X3_setOpen at h
  refine lv_iload_n hx hb dX3_setOpen_0 rfl (lv_at hl 1 rfl) ?_
  refine roSi (As := [.int p1]) (rest := []) F (c_X3_innFault l D cI cS cJ H p1 h) (cw_X3_30 hts (Nat.le_of_ble_eq_true rfl) (Nat.le_of_ble_eq_true rfl)) hK vP_nil rfl hl.1 rfl (Nat.le_of_ble_eq_true rfl) dX3_setOpen_1 ⟨(Nat.le_of_ble_eq_true rfl), (Nat.le_of_ble_eq_true rfl)⟩ (fun r1 h => ?_)
  refine roSv (As := [.int r1]) (rest := []) F (c_X3_refuse l D cI cS cJ H r1 h) (cw_X3_34 hts (Nat.le_of_ble_eq_true rfl) (Nat.le_of_ble_eq_true rfl)) hK vP_nil rfl hl.1 rfl (Nat.le_of_ble_eq_true rfl) dX3_setOpen_4 ⟨(Nat.le_of_ble_eq_true rfl), (Nat.le_of_ble_eq_true rfl)⟩ (fun h => ?_)
  refine lv_aload_n hx hb dX3_setOpen_7 rfl (lv_at hl 0 rfl) ?_
  refine va_get (D := D) (ci := 3) (v := .ref (G 2 1)) (C := RX3) (T := TX3) (N := 3) hx hb hts inT3 hown hK.k hP 0 rfl rfl 1 (by decide) (hts _ q_133) (fun _ h9 => h9) rfl dX3_setOpen_8 ?_
  refine lv_aload_n hx hb dX3_setOpen_11 rfl (lv_at hl 0 rfl) ?_
  refine va_get (D := D) (ci := 3) (v := .ref (G 0 0)) (C := RX3) (T := TX3) (N := 3) hx hb hts inT3 hown hK.k hP 0 rfl rfl 0 (by decide) (hts _ q_132) (fun _ h9 => h9) rfl dX3_setOpen_12 ?_
  refine rwVv (wr := neRK cI G u) (As := [.ref (G 0 0)]) (rest := []) neK_f F (c_X1_keep l D cI cS cJ G (N_saved u, N_now u) H.size h) (cw_X3_38 hts (Nat.le_of_ble_eq_true rfl) (Nat.le_of_ble_eq_true rfl)) hK hP hD hS hA (recv (ci := 1) (k0 := 12) hK hP rfl rfl) rfl hl.1 rfl (Nat.le_of_ble_eq_true rfl) dX3_setOpen_15 ⟨(Nat.le_of_ble_eq_true rfl), (Nat.le_of_ble_eq_true rfl)⟩ (fun u4 H locs h hP hD hS => ?_)
  have hP : va_P D vwCl (neW cI cS G (sN_saved (sN_now u u4.2) u4.1)) H := vP_perm (neK_b u4) hP
  have hD : va_D A (neW cI cS G (sN_saved (sN_now u u4.2) u4.1)) := vD_perm (neK_b u4) hD
  refine lv_aload_n hx hb dX3_setOpen_18 rfl (lv_at hl 0 rfl) ?_
  refine va_get (D := D) (ci := 3) (v := .ref (G 0 0)) (C := RX3) (T := TX3) (N := 3) hx hb hts inT3 hown hK.k hP 0 rfl rfl 0 (by decide) (hts _ q_132) (fun _ h9 => h9) rfl dX3_setOpen_19 ?_
  refine lv_iload_n hx hb dX3_setOpen_22 rfl (lv_at hl 1 rfl) ?_
  refine roVi (As := [.int p1]) (rest := []) F (c_X2_hasOpen l D cI cS cJ (G 0) (N_now (sN_saved (sN_now u u4.2) u4.1)) H p1 h) (cw_X3_42 hts (Nat.le_of_ble_eq_true rfl) (Nat.le_of_ble_eq_true rfl)) hK (neS hP) (recv (ci := 2) (k0 := 1) hK hP rfl rfl) rfl hl.1 rfl (Nat.le_of_ble_eq_true rfl) dX3_setOpen_23 ⟨(Nat.le_of_ble_eq_true rfl), (Nat.le_of_ble_eq_true rfl)⟩ (fun r5 h => ?_)
  obtain ⟨b6, h⟩ := h
  refine lv_istore_n (lv' := [(3, .int r5), (0, .ref (G 2 0)), (1, .int p1), (2, .int p2)]) hx hb dX3_setOpen_26 rfl hl (by decide) rfl (fun ls hl => ?_)
  refine lv_aload_n hx hb dX3_setOpen_27 rfl (lv_at hl 1 rfl) ?_
  refine va_get (D := D) (ci := 3) (v := .ref (G 0 0)) (C := RX3) (T := TX3) (N := 3) hx hb hts inT3 hown hK.k hP 0 rfl rfl 0 (by decide) (hts _ q_132) (fun _ h9 => h9) rfl dX3_setOpen_28 ?_
  refine lv_iload_n hx hb dX3_setOpen_31 rfl (lv_at hl 2 rfl) ?_
  refine lv_iload_n hx hb dX3_setOpen_32 rfl (lv_at hl 3 rfl) ?_
  refine rwVv (wr := neRS cI cS G (sN_saved (sN_now u u4.2) u4.1)) (As := [.int p1, .int p2]) (rest := []) neS_f F (c_X2_turn l D cI cS cJ (G 0) (N_now (sN_saved (sN_now u u4.2) u4.1)) H.size p1 p2 h) (cw_X3_46 hts (Nat.le_of_ble_eq_true rfl) (Nat.le_of_ble_eq_true rfl)) hK hP hD hS hA (recv (ci := 2) (k0 := 1) hK hP rfl rfl) rfl hl.1 rfl (Nat.le_of_ble_eq_true rfl) dX3_setOpen_33 ⟨(Nat.le_of_ble_eq_true rfl), (Nat.le_of_ble_eq_true rfl)⟩ (fun u8 H locs h hP hD hS => ?_)
  have hP : va_P D vwCl (neW cI cS G (sN_now (sN_saved (sN_now u u4.2) u4.1) u8)) H := vP_perm (neS_b u8) hP
  have hD : va_D A (neW cI cS G (sN_now (sN_saved (sN_now u u4.2) u4.1) u8)) := vD_perm (neS_b u8) hD
  refine lv_iload_n hx hb dX3_setOpen_36 rfl (lv_at hl 0 rfl) ?_
  exact hQ b6 h hP hD hS dX3_setOpen_37

def wp_X3_setKey (u : Ne) (p1 : Int32) (p2 : Int32) (post : Int32 → Ne → Prop) : Prop :=
  wp_X3_innAndBodyFault p1 p2 (fun r1 => wp_X3_refuse r1 (wp_X1_keep (N_saved u, N_now u) (fun u4 => wp_X3_read 8 (S_keys (N_now (sN_saved (sN_now u u4.2) u4.1))) p1 (fun r5 => wp_X3_write 8 (S_keys (N_now (sN_saved (sN_now u u4.2) u4.1))) p1 p2 (fun f7 => post r5 (sN_now (sN_saved (sN_now u u4.2) u4.1) (aS_keys (N_now (sN_saved (sN_now u u4.2) u4.1)) f7)))))))
set_option maxHeartbeats 4000000 in
set_option maxRecDepth 100000 in
theorem c_X3_setKey (l : Launch) (D : va_G) (cI cS cJ : ClassId) (G : Nat → Nat → Nat) (u : Ne) (sz : Nat) (p1 : Int32) (p2 : Int32) {post : Int32 → Ne → Prop} (h : wp_X3_setKey u p1 p2 post) : Met l yX3_setKey (wsA yX3_setKey cX3_setKey 4 (some .int)) rm_X3_setKey (va_Pc [.ref (G 2 0), .int p1, .int p2] (rwP D (tysA cI cS cJ) (neW cI cS G u) sz)) (va_Qi post (fun u9 t => va_P D vwCl ((neW cI cS G) u9) t.heap ∧ va_D (va_A (neW cI cS G u) sz) ((neW cI cS G) u9)) (va_A (neW cI cS G u) sz)) 0 0 (va_A (neW cI cS G u) sz) := by
  refine mkRWi (wf := (neW cI cS G)) (by decide +kernel) (Nat.le_of_ble_eq_true rfl) (fun {p e s m args below meth c Q ls A H0 H locs} hx hb F hts hown hK hP hD hS hA hl hQ => ?_)
  have hown : s.vm.findClass RX3 = some m.cls := hown
  have F : CallFix p m c cX3_setKey 4 s args wsT RX3 := F
  have hl : lv_has ls 4 [(0, .ref (G 2 0)), (1, .int p1), (2, .int p2)] := hl
  unfold wp_X3_setKey at h
  refine lv_iload_n hx hb dX3_setKey_0 rfl (lv_at hl 1 rfl) ?_
  refine lv_iload_n hx hb dX3_setKey_1 rfl (lv_at hl 2 rfl) ?_
  refine roSi (As := [.int p1, .int p2]) (rest := []) F (c_X3_innAndBodyFault l D cI cS cJ H p1 p2 h) (cw_X3_50 hts (Nat.le_of_ble_eq_true rfl) (Nat.le_of_ble_eq_true rfl)) hK vP_nil rfl hl.1 rfl (Nat.le_of_ble_eq_true rfl) dX3_setKey_2 ⟨(Nat.le_of_ble_eq_true rfl), (Nat.le_of_ble_eq_true rfl)⟩ (fun r1 h => ?_)
  refine roSv (As := [.int r1]) (rest := []) F (c_X3_refuse l D cI cS cJ H r1 h) (cw_X3_34 hts (Nat.le_of_ble_eq_true rfl) (Nat.le_of_ble_eq_true rfl)) hK vP_nil rfl hl.1 rfl (Nat.le_of_ble_eq_true rfl) dX3_setKey_5 ⟨(Nat.le_of_ble_eq_true rfl), (Nat.le_of_ble_eq_true rfl)⟩ (fun h => ?_)
  refine lv_aload_n hx hb dX3_setKey_8 rfl (lv_at hl 0 rfl) ?_
  refine va_get (D := D) (ci := 3) (v := .ref (G 2 1)) (C := RX3) (T := TX3) (N := 3) hx hb hts inT3 hown hK.k hP 0 rfl rfl 1 (by decide) (hts _ q_133) (fun _ h9 => h9) rfl dX3_setKey_9 ?_
  refine lv_aload_n hx hb dX3_setKey_12 rfl (lv_at hl 0 rfl) ?_
  refine va_get (D := D) (ci := 3) (v := .ref (G 0 0)) (C := RX3) (T := TX3) (N := 3) hx hb hts inT3 hown hK.k hP 0 rfl rfl 0 (by decide) (hts _ q_132) (fun _ h9 => h9) rfl dX3_setKey_13 ?_
  refine rwVv (wr := neRK cI G u) (As := [.ref (G 0 0)]) (rest := []) neK_f F (c_X1_keep l D cI cS cJ G (N_saved u, N_now u) H.size h) (cw_X3_38 hts (Nat.le_of_ble_eq_true rfl) (Nat.le_of_ble_eq_true rfl)) hK hP hD hS hA (recv (ci := 1) (k0 := 12) hK hP rfl rfl) rfl hl.1 rfl (Nat.le_of_ble_eq_true rfl) dX3_setKey_16 ⟨(Nat.le_of_ble_eq_true rfl), (Nat.le_of_ble_eq_true rfl)⟩ (fun u4 H locs h hP hD hS => ?_)
  have hP : va_P D vwCl (neW cI cS G (sN_saved (sN_now u u4.2) u4.1)) H := vP_perm (neK_b u4) hP
  have hD : va_D A (neW cI cS G (sN_saved (sN_now u u4.2) u4.1)) := vD_perm (neK_b u4) hD
  refine lv_aload_n hx hb dX3_setKey_19 rfl (lv_at hl 0 rfl) ?_
  refine va_get (D := D) (ci := 3) (v := .ref (G 0 0)) (C := RX3) (T := TX3) (N := 3) hx hb hts inT3 hown hK.k hP 0 rfl rfl 0 (by decide) (hts _ q_132) (fun _ h9 => h9) rfl dX3_setKey_20 ?_
  refine va_get (D := D) (ci := 2) (v := .ref ((G 0) 1)) (C := RX2) (T := TX2) (N := 12) hx hb hts inT2 hown hK.k hP 1 rfl rfl 1 (by decide) (hts _ q_56) (fun _ h9 => h9) rfl dX3_setKey_23 ?_
  refine lv_iload_n hx hb dX3_setKey_26 rfl (lv_at hl 1 rfl) ?_
  refine roSi (As := [.ref ((G 0) 1), .int p1]) (rest := []) F (c_X3_read l D cI cS cJ ((G 0) 1) 8 (S_keys (N_now (sN_saved (sN_now u u4.2) u4.1))) H p1 h) (cw_X3_58 hts (Nat.le_of_ble_eq_true rfl) (Nat.le_of_ble_eq_true rfl)) hK (vP_one hP 2 rfl) rfl hl.1 rfl (Nat.le_of_ble_eq_true rfl) dX3_setKey_27 ⟨(Nat.le_of_ble_eq_true rfl), (Nat.le_of_ble_eq_true rfl)⟩ (fun r5 h => ?_)
  refine lv_istore_n (lv' := [(3, .int r5), (0, .ref (G 2 0)), (1, .int p1), (2, .int p2)]) hx hb dX3_setKey_30 rfl hl (by decide) rfl (fun ls hl => ?_)
  refine lv_aload_n hx hb dX3_setKey_31 rfl (lv_at hl 1 rfl) ?_
  refine va_get (D := D) (ci := 3) (v := .ref (G 0 0)) (C := RX3) (T := TX3) (N := 3) hx hb hts inT3 hown hK.k hP 0 rfl rfl 0 (by decide) (hts _ q_132) (fun _ h9 => h9) rfl dX3_setKey_32 ?_
  refine va_get (D := D) (ci := 2) (v := .ref ((G 0) 1)) (C := RX2) (T := TX2) (N := 12) hx hb hts inT2 hown hK.k hP 1 rfl rfl 1 (by decide) (hts _ q_56) (fun _ h9 => h9) rfl dX3_setKey_35 ?_
  refine lv_iload_n hx hb dX3_setKey_38 rfl (lv_at hl 2 rfl) ?_
  refine lv_iload_n hx hb dX3_setKey_39 rfl (lv_at hl 3 rfl) ?_
  refine rwSv (wr := List.eraseIdx (neW cI cS G (sN_saved (sN_now u u4.2) u4.1)) 2) (wf := fun f1 => [(((G 0) 1), .inl (cI, 8, .inl f1))]) (As := [.ref ((G 0) 1), .int p1, .int p2]) (rest := []) (perm_k _ 2 rfl) F (c_X3_write l D cI cS cJ ((G 0) 1) 8 (S_keys (N_now (sN_saved (sN_now u u4.2) u4.1))) H.size p1 p2 h) (cw_X3_62 hts (Nat.le_of_ble_eq_true rfl) (Nat.le_of_ble_eq_true rfl)) hK hP hD hS hA rfl hl.1 rfl (Nat.le_of_ble_eq_true rfl) dX3_setKey_40 ⟨(Nat.le_of_ble_eq_true rfl), (Nat.le_of_ble_eq_true rfl)⟩ (fun f7 H locs h hP hD hS => ?_)
  have hP : va_P D vwCl (neW cI cS G (sN_now (sN_saved (sN_now u u4.2) u4.1) (aS_keys (N_now (sN_saved (sN_now u u4.2) u4.1)) f7))) H := vP_set1 (k := 2) (ws := neW cI cS G (sN_saved (sN_now u u4.2) u4.1)) rfl hP
  have hD : va_D A (neW cI cS G (sN_now (sN_saved (sN_now u u4.2) u4.1) (aS_keys (N_now (sN_saved (sN_now u u4.2) u4.1)) f7))) := vD_set1 (k := 2) (ws := neW cI cS G (sN_saved (sN_now u u4.2) u4.1)) rfl hD
  refine lv_iload_n hx hb dX3_setKey_43 rfl (lv_at hl 0 rfl) ?_
  exact hQ h hP hD hS dX3_setKey_44

def wp_X3_isOpen (u : Ne) (p1 : Int32) (post : Int32 → Prop) : Prop :=
  wp_X3_innFault p1 (fun r1 => wp_X3_refuse r1 (wp_X2_hasOpen (N_now u) p1 (fun r3 => post r3)))
set_option maxHeartbeats 4000000 in
set_option maxRecDepth 100000 in
theorem c_X3_isOpen (l : Launch) (D : va_G) (cI cS cJ : ClassId) (G : Nat → Nat → Nat) (u : Ne) (H0 : Heap) (p1 : Int32) {post : Int32 → Prop} (h : wp_X3_isOpen u p1 post) : Met l yX3_isOpen (wsA yX3_isOpen cX3_isOpen 2 (some .boolean)) rm_X3_isOpen (va_Pc [.ref (G 2 0), .int p1] (roP D (tysA cI cS cJ) (neW cI cS G u) H0)) (va_Qi (fun r (_ : Unit) => bz r ∧ post r) (fun _ t => t.heap = H0) nF) 0 0 nF := by
  refine mkROz (by decide +kernel) (Nat.le_of_ble_eq_true rfl) (fun {p e s m args below meth c Q ls} hx hb F hts hown hK hP hl hQ => ?_)
  have hown : s.vm.findClass RX3 = some m.cls := hown
  have F : CallFix p m c cX3_isOpen 2 s args wsT RX3 := F
  have hl : lv_has ls 2 [(0, .ref (G 2 0)), (1, .int p1)] := hl
  unfold wp_X3_isOpen at h
  refine lv_iload_n hx hb dX3_isOpen_0 rfl (lv_at hl 1 rfl) ?_
  refine roSi (As := [.int p1]) (rest := []) F (c_X3_innFault l D cI cS cJ H0 p1 h) (cw_X3_30 hts (Nat.le_of_ble_eq_true rfl) (Nat.le_of_ble_eq_true rfl)) hK vP_nil rfl hl.1 rfl (Nat.le_of_ble_eq_true rfl) dX3_isOpen_1 ⟨(Nat.le_of_ble_eq_true rfl), (Nat.le_of_ble_eq_true rfl)⟩ (fun r1 h => ?_)
  refine roSv (As := [.int r1]) (rest := []) F (c_X3_refuse l D cI cS cJ H0 r1 h) (cw_X3_34 hts (Nat.le_of_ble_eq_true rfl) (Nat.le_of_ble_eq_true rfl)) hK vP_nil rfl hl.1 rfl (Nat.le_of_ble_eq_true rfl) dX3_isOpen_4 ⟨(Nat.le_of_ble_eq_true rfl), (Nat.le_of_ble_eq_true rfl)⟩ (fun h => ?_)
  refine lv_aload_n hx hb dX3_isOpen_7 rfl (lv_at hl 0 rfl) ?_
  refine va_get (D := D) (ci := 3) (v := .ref (G 0 0)) (C := RX3) (T := TX3) (N := 3) hx hb hts inT3 hown hK.k hP 0 rfl rfl 0 (by decide) (hts _ q_132) (fun _ h9 => h9) rfl dX3_isOpen_8 ?_
  refine lv_iload_n hx hb dX3_isOpen_11 rfl (lv_at hl 1 rfl) ?_
  refine roVi (As := [.int p1]) (rest := []) F (c_X2_hasOpen l D cI cS cJ (G 0) (N_now u) H0 p1 h) (cw_X3_42 hts (Nat.le_of_ble_eq_true rfl) (Nat.le_of_ble_eq_true rfl)) hK (neS hP) (recv (ci := 2) (k0 := 1) hK hP rfl rfl) rfl hl.1 rfl (Nat.le_of_ble_eq_true rfl) dX3_isOpen_12 ⟨(Nat.le_of_ble_eq_true rfl), (Nat.le_of_ble_eq_true rfl)⟩ (fun r3 h => ?_)
  obtain ⟨b4, h⟩ := h
  exact hQ b4 h dX3_isOpen_15

def wp_X3_cover (u : Ne) (p1 : Int32) (p2 : Int32) (post : Int32 → Prop) : Prop :=
  wp_X3_innAndBodyFault p1 p2 (fun r1 => wp_X3_refuse r1 (wp_X3_read 8 (S_keys (N_now u)) p1 (fun r3 => wp_X3_covered p2 r3 (fun r4 => post r4))))
set_option maxHeartbeats 4000000 in
set_option maxRecDepth 100000 in
theorem c_X3_cover (l : Launch) (D : va_G) (cI cS cJ : ClassId) (G : Nat → Nat → Nat) (u : Ne) (H0 : Heap) (p1 : Int32) (p2 : Int32) {post : Int32 → Prop} (h : wp_X3_cover u p1 p2 post) : Met l yX3_cover (wsA yX3_cover cX3_cover 3 (some .int)) rm_X3_cover (va_Pc [.ref (G 2 0), .int p1, .int p2] (roP D (tysA cI cS cJ) (neW cI cS G u) H0)) (va_Qi (fun r (_ : Unit) => post r) (fun _ t => t.heap = H0) nF) 0 0 nF := by
  refine mkROi (by decide +kernel) (Nat.le_of_ble_eq_true rfl) (fun {p e s m args below meth c Q ls} hx hb F hts hown hK hP hl hQ => ?_)
  have hown : s.vm.findClass RX3 = some m.cls := hown
  have F : CallFix p m c cX3_cover 3 s args wsT RX3 := F
  have hl : lv_has ls 3 [(0, .ref (G 2 0)), (1, .int p1), (2, .int p2)] := hl
  unfold wp_X3_cover at h
  refine lv_iload_n hx hb dX3_cover_0 rfl (lv_at hl 1 rfl) ?_
  refine lv_iload_n hx hb dX3_cover_1 rfl (lv_at hl 2 rfl) ?_
  refine roSi (As := [.int p1, .int p2]) (rest := []) F (c_X3_innAndBodyFault l D cI cS cJ H0 p1 p2 h) (cw_X3_50 hts (Nat.le_of_ble_eq_true rfl) (Nat.le_of_ble_eq_true rfl)) hK vP_nil rfl hl.1 rfl (Nat.le_of_ble_eq_true rfl) dX3_cover_2 ⟨(Nat.le_of_ble_eq_true rfl), (Nat.le_of_ble_eq_true rfl)⟩ (fun r1 h => ?_)
  refine roSv (As := [.int r1]) (rest := []) F (c_X3_refuse l D cI cS cJ H0 r1 h) (cw_X3_34 hts (Nat.le_of_ble_eq_true rfl) (Nat.le_of_ble_eq_true rfl)) hK vP_nil rfl hl.1 rfl (Nat.le_of_ble_eq_true rfl) dX3_cover_5 ⟨(Nat.le_of_ble_eq_true rfl), (Nat.le_of_ble_eq_true rfl)⟩ (fun h => ?_)
  refine lv_iload_n hx hb dX3_cover_8 rfl (lv_at hl 2 rfl) ?_
  refine lv_aload_n hx hb dX3_cover_9 rfl (lv_at hl 0 rfl) ?_
  refine va_get (D := D) (ci := 3) (v := .ref (G 0 0)) (C := RX3) (T := TX3) (N := 3) hx hb hts inT3 hown hK.k hP 0 rfl rfl 0 (by decide) (hts _ q_132) (fun _ h9 => h9) rfl dX3_cover_10 ?_
  refine va_get (D := D) (ci := 2) (v := .ref ((G 0) 1)) (C := RX2) (T := TX2) (N := 12) hx hb hts inT2 hown hK.k hP 1 rfl rfl 1 (by decide) (hts _ q_56) (fun _ h9 => h9) rfl dX3_cover_13 ?_
  refine lv_iload_n hx hb dX3_cover_16 rfl (lv_at hl 1 rfl) ?_
  refine roSi (As := [.ref ((G 0) 1), .int p1]) (rest := [.int p2]) F (c_X3_read l D cI cS cJ ((G 0) 1) 8 (S_keys (N_now u)) H0 p1 h) (cw_X3_58 hts (Nat.le_of_ble_eq_true rfl) (Nat.le_of_ble_eq_true rfl)) hK (vP_one hP 2 rfl) rfl hl.1 rfl (Nat.le_of_ble_eq_true rfl) dX3_cover_17 ⟨(Nat.le_of_ble_eq_true rfl), (Nat.le_of_ble_eq_true rfl)⟩ (fun r3 h => ?_)
  refine roSi (As := [.int p2, .int r3]) (rest := []) F (c_X3_covered l D cI cS cJ H0 p2 r3 h) (cw_X3_66 hts (Nat.le_of_ble_eq_true rfl) (Nat.le_of_ble_eq_true rfl)) hK vP_nil rfl hl.1 rfl (Nat.le_of_ble_eq_true rfl) dX3_cover_20 ⟨(Nat.le_of_ble_eq_true rfl), (Nat.le_of_ble_eq_true rfl)⟩ (fun r4 h => ?_)
  exact hQ h dX3_cover_23

def wp_X3_uncover (u : Ne) (p1 : Int32) (p2 : Int32) (post : Int32 → Prop) : Prop :=
  wp_X3_innAndBodyFault p1 p2 (fun r1 => wp_X3_refuse r1 (wp_X3_read 8 (S_keys (N_now u)) p1 (fun r3 => wp_X3_uncovered p2 r3 (fun r4 => post r4))))
set_option maxHeartbeats 4000000 in
set_option maxRecDepth 100000 in
theorem c_X3_uncover (l : Launch) (D : va_G) (cI cS cJ : ClassId) (G : Nat → Nat → Nat) (u : Ne) (H0 : Heap) (p1 : Int32) (p2 : Int32) {post : Int32 → Prop} (h : wp_X3_uncover u p1 p2 post) : Met l yX3_uncover (wsA yX3_uncover cX3_uncover 3 (some .int)) rm_X3_uncover (va_Pc [.ref (G 2 0), .int p1, .int p2] (roP D (tysA cI cS cJ) (neW cI cS G u) H0)) (va_Qi (fun r (_ : Unit) => post r) (fun _ t => t.heap = H0) nF) 0 0 nF := by
  refine mkROi (by decide +kernel) (Nat.le_of_ble_eq_true rfl) (fun {p e s m args below meth c Q ls} hx hb F hts hown hK hP hl hQ => ?_)
  have hown : s.vm.findClass RX3 = some m.cls := hown
  have F : CallFix p m c cX3_uncover 3 s args wsT RX3 := F
  have hl : lv_has ls 3 [(0, .ref (G 2 0)), (1, .int p1), (2, .int p2)] := hl
  unfold wp_X3_uncover at h
  refine lv_iload_n hx hb dX3_uncover_0 rfl (lv_at hl 1 rfl) ?_
  refine lv_iload_n hx hb dX3_uncover_1 rfl (lv_at hl 2 rfl) ?_
  refine roSi (As := [.int p1, .int p2]) (rest := []) F (c_X3_innAndBodyFault l D cI cS cJ H0 p1 p2 h) (cw_X3_50 hts (Nat.le_of_ble_eq_true rfl) (Nat.le_of_ble_eq_true rfl)) hK vP_nil rfl hl.1 rfl (Nat.le_of_ble_eq_true rfl) dX3_uncover_2 ⟨(Nat.le_of_ble_eq_true rfl), (Nat.le_of_ble_eq_true rfl)⟩ (fun r1 h => ?_)
  refine roSv (As := [.int r1]) (rest := []) F (c_X3_refuse l D cI cS cJ H0 r1 h) (cw_X3_34 hts (Nat.le_of_ble_eq_true rfl) (Nat.le_of_ble_eq_true rfl)) hK vP_nil rfl hl.1 rfl (Nat.le_of_ble_eq_true rfl) dX3_uncover_5 ⟨(Nat.le_of_ble_eq_true rfl), (Nat.le_of_ble_eq_true rfl)⟩ (fun h => ?_)
  refine lv_iload_n hx hb dX3_uncover_8 rfl (lv_at hl 2 rfl) ?_
  refine lv_aload_n hx hb dX3_uncover_9 rfl (lv_at hl 0 rfl) ?_
  refine va_get (D := D) (ci := 3) (v := .ref (G 0 0)) (C := RX3) (T := TX3) (N := 3) hx hb hts inT3 hown hK.k hP 0 rfl rfl 0 (by decide) (hts _ q_132) (fun _ h9 => h9) rfl dX3_uncover_10 ?_
  refine va_get (D := D) (ci := 2) (v := .ref ((G 0) 1)) (C := RX2) (T := TX2) (N := 12) hx hb hts inT2 hown hK.k hP 1 rfl rfl 1 (by decide) (hts _ q_56) (fun _ h9 => h9) rfl dX3_uncover_13 ?_
  refine lv_iload_n hx hb dX3_uncover_16 rfl (lv_at hl 1 rfl) ?_
  refine roSi (As := [.ref ((G 0) 1), .int p1]) (rest := [.int p2]) F (c_X3_read l D cI cS cJ ((G 0) 1) 8 (S_keys (N_now u)) H0 p1 h) (cw_X3_58 hts (Nat.le_of_ble_eq_true rfl) (Nat.le_of_ble_eq_true rfl)) hK (vP_one hP 2 rfl) rfl hl.1 rfl (Nat.le_of_ble_eq_true rfl) dX3_uncover_17 ⟨(Nat.le_of_ble_eq_true rfl), (Nat.le_of_ble_eq_true rfl)⟩ (fun r3 h => ?_)
  refine roSi (As := [.int p2, .int r3]) (rest := []) F (c_X3_uncovered l D cI cS cJ H0 p2 r3 h) (cw_X3_69 hts (Nat.le_of_ble_eq_true rfl) (Nat.le_of_ble_eq_true rfl)) hK vP_nil rfl hl.1 rfl (Nat.le_of_ble_eq_true rfl) dX3_uncover_20 ⟨(Nat.le_of_ble_eq_true rfl), (Nat.le_of_ble_eq_true rfl)⟩ (fun r4 h => ?_)
  exact hQ h dX3_uncover_23

def wp_X3_layFault (u : Ne) (p1 : Int32) (p2 : Int32) (p3 : Int32) (p4 : Int32) (post : Int32 → Prop) : Prop :=
  wp_X3_innFault p1 (fun r1 => (¬ r1 = 0 → post (1 : Int32)) ∧ (r1 = 0 → wp_X3_innFault p2 (fun r3 => (¬ r3 = 0 → post (1 : Int32)) ∧ (r3 = 0 → wp_X3_innFault p3 (fun r5 => (¬ r5 = 0 → post (1 : Int32)) ∧ (r5 = 0 → wp_X3_hallFault p4 (fun r7 => (r7 = 0 → (p1 = p2 → post (2 : Int32)) ∧ (¬ p1 = p2 → (p1 = p3 → post (2 : Int32)) ∧ (¬ p1 = p3 → (¬ p2 = p3 → wp_X2_hasOpen (N_now u) p1 (fun r12 => jn (fun (x14 : Int32) => (x14 = 0 → post (3 : Int32)) ∧ (¬ x14 = 0 → ((6 : Int32) ≤ (S_roadCount (N_now u)) → post (3 : Int32)) ∧ (¬ (6 : Int32) ≤ (S_roadCount (N_now u)) → post (0 : Int32)))) (fun (J16 : Int32 → Prop) => jn (J16 (0 : Int32)) (fun (J21 : Prop) => (r12 = 0 → J21) ∧ (¬ r12 = 0 → wp_X2_hasOpen (N_now u) p2 (fun r25 => (r25 = 0 → J21) ∧ (¬ r25 = 0 → wp_X2_hasOpen (N_now u) p3 (fun r28 => (r28 = 0 → J21) ∧ (¬ r28 = 0 → J16 (1 : Int32)))))))))) ∧ (p2 = p3 → post (2 : Int32))))) ∧ (¬ r7 = 0 → post (1 : Int32)))))))))
set_option maxHeartbeats 4000000 in
set_option maxRecDepth 100000 in
theorem c_X3_layFault (l : Launch) (D : va_G) (cI cS cJ : ClassId) (G : Nat → Nat → Nat) (u : Ne) (H0 : Heap) (p1 : Int32) (p2 : Int32) (p3 : Int32) (p4 : Int32) {post : Int32 → Prop} (h : wp_X3_layFault u p1 p2 p3 p4 post) : Met l yX3_layFault (wsA yX3_layFault cX3_layFault 6 (some .int)) rm_X3_layFault (va_Pc [.ref (G 2 0), .int p1, .int p2, .int p3, .int p4] (roP D (tysA cI cS cJ) (neW cI cS G u) H0)) (va_Qi (fun r (_ : Unit) => post r) (fun _ t => t.heap = H0) nF) 0 0 nF := by
  refine mkROi (by decide +kernel) (Nat.le_of_ble_eq_true rfl) (fun {p e s m args below meth c Q ls} hx hb F hts hown hK hP hl hQ => ?_)
  have hown : s.vm.findClass RX3 = some m.cls := hown
  have F : CallFix p m c cX3_layFault 6 s args wsT RX3 := F
  have hl : lv_has ls 6 [(0, .ref (G 2 0)), (1, .int p1), (2, .int p2), (3, .int p3), (4, .int p4)] := hl
  unfold wp_X3_layFault at h
  refine lv_iload_n hx hb dX3_layFault_0 rfl (lv_at hl 1 rfl) ?_
  refine roSi (As := [.int p1]) (rest := []) F (c_X3_innFault l D cI cS cJ H0 p1 h) (cw_X3_30 hts (Nat.le_of_ble_eq_true rfl) (Nat.le_of_ble_eq_true rfl)) hK vP_nil rfl hl.1 rfl (Nat.le_of_ble_eq_true rfl) dX3_layFault_1 ⟨(Nat.le_of_ble_eq_true rfl), (Nat.le_of_ble_eq_true rfl)⟩ (fun r1 h => ?_)
  refine lv_if_ne (tgt := 29) hx hb dX3_layFault_4 (by decide) (fun c2 => ?_) (fun c2 => ?_)
  · replace h := h.1 c2
    refine lv_iconst (v := (1 : Int32)) hx hb dX3_layFault_29 (by decide) ?_
    exact hQ h dX3_layFault_30
  · replace h := h.2 c2
    refine lv_iload_n hx hb dX3_layFault_7 rfl (lv_at hl 2 rfl) ?_
    refine roSi (As := [.int p2]) (rest := []) F (c_X3_innFault l D cI cS cJ H0 p2 h) (cw_X3_30 hts (Nat.le_of_ble_eq_true rfl) (Nat.le_of_ble_eq_true rfl)) hK vP_nil rfl hl.1 rfl (Nat.le_of_ble_eq_true rfl) dX3_layFault_8 ⟨(Nat.le_of_ble_eq_true rfl), (Nat.le_of_ble_eq_true rfl)⟩ (fun r3 h => ?_)
    refine lv_if_ne (tgt := 29) hx hb dX3_layFault_11 (by decide) (fun c4 => ?_) (fun c4 => ?_)
    · replace h := h.1 c4
      refine lv_iconst (v := (1 : Int32)) hx hb dX3_layFault_29 (by decide) ?_
      exact hQ h dX3_layFault_30
    · replace h := h.2 c4
      refine lv_iload_n hx hb dX3_layFault_14 rfl (lv_at hl 3 rfl) ?_
      refine roSi (As := [.int p3]) (rest := []) F (c_X3_innFault l D cI cS cJ H0 p3 h) (cw_X3_30 hts (Nat.le_of_ble_eq_true rfl) (Nat.le_of_ble_eq_true rfl)) hK vP_nil rfl hl.1 rfl (Nat.le_of_ble_eq_true rfl) dX3_layFault_15 ⟨(Nat.le_of_ble_eq_true rfl), (Nat.le_of_ble_eq_true rfl)⟩ (fun r5 h => ?_)
      refine lv_if_ne (tgt := 29) hx hb dX3_layFault_18 (by decide) (fun c6 => ?_) (fun c6 => ?_)
      · replace h := h.1 c6
        refine lv_iconst (v := (1 : Int32)) hx hb dX3_layFault_29 (by decide) ?_
        exact hQ h dX3_layFault_30
      · replace h := h.2 c6
        refine lv_iload hx hb dX3_layFault_21 (lv_at hl 4 rfl) ?_
        refine roSi (As := [.int p4]) (rest := []) F (c_X3_hallFault l D cI cS cJ H0 p4 h) (cw_X3_148 hts (Nat.le_of_ble_eq_true rfl) (Nat.le_of_ble_eq_true rfl)) hK vP_nil rfl hl.1 rfl (Nat.le_of_ble_eq_true rfl) dX3_layFault_23 ⟨(Nat.le_of_ble_eq_true rfl), (Nat.le_of_ble_eq_true rfl)⟩ (fun r7 h => ?_)
        refine lv_if_eq (tgt := 31) hx hb dX3_layFault_26 (by decide) (fun c8 => ?_) (fun c8 => ?_)
        · replace h := h.1 c8
          refine lv_iload_n hx hb dX3_layFault_31 rfl (lv_at hl 1 rfl) ?_
          refine lv_iload_n hx hb dX3_layFault_32 rfl (lv_at hl 2 rfl) ?_
          refine lv_icmp_eq (tgt := 46) hx hb dX3_layFault_33 (by decide) (fun c9 => ?_) (fun c9 => ?_)
          · replace h := h.1 c9
            refine lv_iconst (v := (2 : Int32)) hx hb dX3_layFault_46 (by decide) ?_
            exact hQ h dX3_layFault_47
          · replace h := h.2 c9
            refine lv_iload_n hx hb dX3_layFault_36 rfl (lv_at hl 1 rfl) ?_
            refine lv_iload_n hx hb dX3_layFault_37 rfl (lv_at hl 3 rfl) ?_
            refine lv_icmp_eq (tgt := 46) hx hb dX3_layFault_38 (by decide) (fun c10 => ?_) (fun c10 => ?_)
            · replace h := h.1 c10
              refine lv_iconst (v := (2 : Int32)) hx hb dX3_layFault_46 (by decide) ?_
              exact hQ h dX3_layFault_47
            · replace h := h.2 c10
              refine lv_iload_n hx hb dX3_layFault_41 rfl (lv_at hl 2 rfl) ?_
              refine lv_iload_n hx hb dX3_layFault_42 rfl (lv_at hl 3 rfl) ?_
              refine lv_icmp_ne (tgt := 48) hx hb dX3_layFault_43 (by decide) (fun c11 => ?_) (fun c11 => ?_)
              · replace h := h.1 c11
                refine lv_aload_n hx hb dX3_layFault_48 rfl (lv_at hl 0 rfl) ?_
                refine va_get (D := D) (ci := 3) (v := .ref (G 0 0)) (C := RX3) (T := TX3) (N := 3) hx hb hts inT3 hown hK.k hP 0 rfl rfl 0 (by decide) (hts _ q_132) (fun _ h9 => h9) rfl dX3_layFault_49 ?_
                refine lv_iload_n hx hb dX3_layFault_52 rfl (lv_at hl 1 rfl) ?_
                refine roVi (As := [.int p1]) (rest := []) F (c_X2_hasOpen l D cI cS cJ (G 0) (N_now u) H0 p1 h) (cw_X3_42 hts (Nat.le_of_ble_eq_true rfl) (Nat.le_of_ble_eq_true rfl)) hK (neS hP) (recv (ci := 2) (k0 := 1) hK hP rfl rfl) rfl hl.1 rfl (Nat.le_of_ble_eq_true rfl) dX3_layFault_53 ⟨(Nat.le_of_ble_eq_true rfl), (Nat.le_of_ble_eq_true rfl)⟩ (fun r12 h => ?_)
                obtain ⟨b13, h⟩ := h
                refine jn_e h (fun J16 e18 h => ?_)
                have w17 : ∀ (x14 : Int32) (ls : Array Slot), bz x14 → lv_has ls 6 [(0, .ref (G 2 0))] → J16 x14 → W p l e rm_X3_layFault s m args below meth c H0 [] 0 0 Q (F0 m 86 ls [.int x14]) := by
                  intro x14 ls b15 hl h
                  subst e18
                  refine lv_istore (lv' := [(5, .int x14), (0, .ref (G 2 0))]) hx hb dX3_layFault_86 hl (by decide) rfl (fun ls hl => ?_)
                  refine lv_iload hx hb dX3_layFault_88 (lv_at hl 0 rfl) ?_
                  refine lv_if_eq (tgt := 109) hx hb dX3_layFault_90 (by decide) (fun c19 => ?_) (fun c19 => ?_)
                  · replace h := h.1 c19
                    refine lv_iconst (v := (3 : Int32)) hx hb dX3_layFault_109 (by decide) ?_
                    exact hQ h dX3_layFault_110
                  · replace h := h.2 c19
                    refine lv_aload_n hx hb dX3_layFault_93 rfl (lv_at hl 1 rfl) ?_
                    refine va_get (D := D) (ci := 3) (v := .ref (G 0 0)) (C := RX3) (T := TX3) (N := 3) hx hb hts inT3 hown hK.k hP 0 rfl rfl 0 (by decide) (hts _ q_132) (fun _ h9 => h9) rfl dX3_layFault_94 ?_
                    refine va_get (D := D) (ci := 2) (v := .int (S_roadCount (N_now u))) (C := RX2) (T := TX2) (N := 12) hx hb hts inT2 hown hK.k hP 1 rfl rfl 2 (by decide) (hts _ q_58) (fun _ h9 => h9) rfl dX3_layFault_97 ?_
                    refine lv_bipush (v := (6 : Int32)) hx hb dX3_layFault_100 (by decide) ?_
                    refine lv_icmp_ge (tgt := 109) hx hb dX3_layFault_102 (by decide) (fun c20 => ?_) (fun c20 => ?_)
                    · replace h := h.1 c20
                      refine lv_iconst (v := (3 : Int32)) hx hb dX3_layFault_109 (by decide) ?_
                      exact hQ h dX3_layFault_110
                    · replace h := h.2 c20
                      refine lv_iconst (v := (0 : Int32)) hx hb dX3_layFault_105 (by decide) ?_
                      refine lv_goto (tgt := 110) hx hb dX3_layFault_106 (by decide) ?_
                      exact hQ h dX3_layFault_110
                clear e18
                refine jn_e h (fun J21 e23 h => ?_)
                have w22 : ∀  (ls : Array Slot), lv_has ls 6 [(0, .ref (G 2 0))] → J21 → W p l e rm_X3_layFault s m args below meth c H0 [] 0 0 Q (F0 m 85 ls []) := by
                  intro ls hl h
                  subst e23
                  refine lv_iconst (v := (0 : Int32)) hx hb dX3_layFault_85 (by decide) ?_
                  exact w17 (0 : Int32) _ bz0 hl h
                clear e23
                refine lv_if_eq (tgt := 85) hx hb dX3_layFault_56 (by decide) (fun c24 => ?_) (fun c24 => ?_)
                · replace h := h.1 c24
                  exact w22 _ (lv_sub hl [0] rfl) h
                · replace h := h.2 c24
                  refine lv_aload_n hx hb dX3_layFault_59 rfl (lv_at hl 0 rfl) ?_
                  refine va_get (D := D) (ci := 3) (v := .ref (G 0 0)) (C := RX3) (T := TX3) (N := 3) hx hb hts inT3 hown hK.k hP 0 rfl rfl 0 (by decide) (hts _ q_132) (fun _ h9 => h9) rfl dX3_layFault_60 ?_
                  refine lv_iload_n hx hb dX3_layFault_63 rfl (lv_at hl 2 rfl) ?_
                  refine roVi (As := [.int p2]) (rest := []) F (c_X2_hasOpen l D cI cS cJ (G 0) (N_now u) H0 p2 h) (cw_X3_42 hts (Nat.le_of_ble_eq_true rfl) (Nat.le_of_ble_eq_true rfl)) hK (neS hP) (recv (ci := 2) (k0 := 1) hK hP rfl rfl) rfl hl.1 rfl (Nat.le_of_ble_eq_true rfl) dX3_layFault_64 ⟨(Nat.le_of_ble_eq_true rfl), (Nat.le_of_ble_eq_true rfl)⟩ (fun r25 h => ?_)
                  obtain ⟨b26, h⟩ := h
                  refine lv_if_eq (tgt := 85) hx hb dX3_layFault_67 (by decide) (fun c27 => ?_) (fun c27 => ?_)
                  · replace h := h.1 c27
                    exact w22 _ (lv_sub hl [0] rfl) h
                  · replace h := h.2 c27
                    refine lv_aload_n hx hb dX3_layFault_70 rfl (lv_at hl 0 rfl) ?_
                    refine va_get (D := D) (ci := 3) (v := .ref (G 0 0)) (C := RX3) (T := TX3) (N := 3) hx hb hts inT3 hown hK.k hP 0 rfl rfl 0 (by decide) (hts _ q_132) (fun _ h9 => h9) rfl dX3_layFault_71 ?_
                    refine lv_iload_n hx hb dX3_layFault_74 rfl (lv_at hl 3 rfl) ?_
                    refine roVi (As := [.int p3]) (rest := []) F (c_X2_hasOpen l D cI cS cJ (G 0) (N_now u) H0 p3 h) (cw_X3_42 hts (Nat.le_of_ble_eq_true rfl) (Nat.le_of_ble_eq_true rfl)) hK (neS hP) (recv (ci := 2) (k0 := 1) hK hP rfl rfl) rfl hl.1 rfl (Nat.le_of_ble_eq_true rfl) dX3_layFault_75 ⟨(Nat.le_of_ble_eq_true rfl), (Nat.le_of_ble_eq_true rfl)⟩ (fun r28 h => ?_)
                    obtain ⟨b29, h⟩ := h
                    refine lv_if_eq (tgt := 85) hx hb dX3_layFault_78 (by decide) (fun c30 => ?_) (fun c30 => ?_)
                    · replace h := h.1 c30
                      exact w22 _ (lv_sub hl [0] rfl) h
                    · replace h := h.2 c30
                      refine lv_iconst (v := (1 : Int32)) hx hb dX3_layFault_81 (by decide) ?_
                      refine lv_goto (tgt := 86) hx hb dX3_layFault_82 (by decide) ?_
                      exact w17 (1 : Int32) _ bz1 (lv_sub hl [0] rfl) h
              · replace h := h.2 c11
                refine lv_iconst (v := (2 : Int32)) hx hb dX3_layFault_46 (by decide) ?_
                exact hQ h dX3_layFault_47
        · replace h := h.2 c8
          refine lv_iconst (v := (1 : Int32)) hx hb dX3_layFault_29 (by decide) ?_
          exact hQ h dX3_layFault_30

def wp_X3_lay (u : Ne) (p1 : Int32) (p2 : Int32) (p3 : Int32) (p4 : Int32) (post : Int32 → Ne → Prop) : Prop :=
  wp_X3_layFault u p1 p2 p3 p4 (fun r1 => wp_X3_refuse r1 (wp_X1_keep (N_saved u, N_now u) (fun u4 => wp_X2_addRoad (N_now (sN_saved (sN_now u u4.2) u4.1)) p1 p2 p3 p4 (fun r5 u6 => post r5 (sN_now (sN_saved (sN_now u u4.2) u4.1) u6)))))
set_option maxHeartbeats 4000000 in
set_option maxRecDepth 100000 in
theorem c_X3_lay (l : Launch) (D : va_G) (cI cS cJ : ClassId) (G : Nat → Nat → Nat) (u : Ne) (sz : Nat) (p1 : Int32) (p2 : Int32) (p3 : Int32) (p4 : Int32) {post : Int32 → Ne → Prop} (h : wp_X3_lay u p1 p2 p3 p4 post) : Met l yX3_lay (wsA yX3_lay cX3_lay 5 (some .int)) rm_X3_lay (va_Pc [.ref (G 2 0), .int p1, .int p2, .int p3, .int p4] (rwP D (tysA cI cS cJ) (neW cI cS G u) sz)) (va_Qi post (fun u9 t => va_P D vwCl ((neW cI cS G) u9) t.heap ∧ va_D (va_A (neW cI cS G u) sz) ((neW cI cS G) u9)) (va_A (neW cI cS G u) sz)) 0 0 (va_A (neW cI cS G u) sz) := by
  refine mkRWi (wf := (neW cI cS G)) (by decide +kernel) (Nat.le_of_ble_eq_true rfl) (fun {p e s m args below meth c Q ls A H0 H locs} hx hb F hts hown hK hP hD hS hA hl hQ => ?_)
  have hown : s.vm.findClass RX3 = some m.cls := hown
  have F : CallFix p m c cX3_lay 5 s args wsT RX3 := F
  have hl : lv_has ls 5 [(0, .ref (G 2 0)), (1, .int p1), (2, .int p2), (3, .int p3), (4, .int p4)] := hl
  unfold wp_X3_lay at h
  refine lv_aload_n hx hb dX3_lay_0 rfl (lv_at hl 0 rfl) ?_
  refine lv_iload_n hx hb dX3_lay_1 rfl (lv_at hl 1 rfl) ?_
  refine lv_iload_n hx hb dX3_lay_2 rfl (lv_at hl 2 rfl) ?_
  refine lv_iload_n hx hb dX3_lay_3 rfl (lv_at hl 3 rfl) ?_
  refine lv_iload hx hb dX3_lay_4 (lv_at hl 4 rfl) ?_
  refine roVi (As := [.int p1, .int p2, .int p3, .int p4]) (rest := []) F (c_X3_layFault l D cI cS cJ G u H p1 p2 p3 p4 h) (cw_X3_72 hts (Nat.le_of_ble_eq_true rfl) (Nat.le_of_ble_eq_true rfl)) hK hP (recv (ci := 3) (k0 := 0) hK hP rfl rfl) rfl hl.1 rfl (Nat.le_of_ble_eq_true rfl) dX3_lay_6 ⟨(Nat.le_of_ble_eq_true rfl), (Nat.le_of_ble_eq_true rfl)⟩ (fun r1 h => ?_)
  refine roSv (As := [.int r1]) (rest := []) F (c_X3_refuse l D cI cS cJ H r1 h) (cw_X3_34 hts (Nat.le_of_ble_eq_true rfl) (Nat.le_of_ble_eq_true rfl)) hK vP_nil rfl hl.1 rfl (Nat.le_of_ble_eq_true rfl) dX3_lay_9 ⟨(Nat.le_of_ble_eq_true rfl), (Nat.le_of_ble_eq_true rfl)⟩ (fun h => ?_)
  refine lv_aload_n hx hb dX3_lay_12 rfl (lv_at hl 0 rfl) ?_
  refine va_get (D := D) (ci := 3) (v := .ref (G 2 1)) (C := RX3) (T := TX3) (N := 3) hx hb hts inT3 hown hK.k hP 0 rfl rfl 1 (by decide) (hts _ q_133) (fun _ h9 => h9) rfl dX3_lay_13 ?_
  refine lv_aload_n hx hb dX3_lay_16 rfl (lv_at hl 0 rfl) ?_
  refine va_get (D := D) (ci := 3) (v := .ref (G 0 0)) (C := RX3) (T := TX3) (N := 3) hx hb hts inT3 hown hK.k hP 0 rfl rfl 0 (by decide) (hts _ q_132) (fun _ h9 => h9) rfl dX3_lay_17 ?_
  refine rwVv (wr := neRK cI G u) (As := [.ref (G 0 0)]) (rest := []) neK_f F (c_X1_keep l D cI cS cJ G (N_saved u, N_now u) H.size h) (cw_X3_38 hts (Nat.le_of_ble_eq_true rfl) (Nat.le_of_ble_eq_true rfl)) hK hP hD hS hA (recv (ci := 1) (k0 := 12) hK hP rfl rfl) rfl hl.1 rfl (Nat.le_of_ble_eq_true rfl) dX3_lay_20 ⟨(Nat.le_of_ble_eq_true rfl), (Nat.le_of_ble_eq_true rfl)⟩ (fun u4 H locs h hP hD hS => ?_)
  have hP : va_P D vwCl (neW cI cS G (sN_saved (sN_now u u4.2) u4.1)) H := vP_perm (neK_b u4) hP
  have hD : va_D A (neW cI cS G (sN_saved (sN_now u u4.2) u4.1)) := vD_perm (neK_b u4) hD
  refine lv_aload_n hx hb dX3_lay_23 rfl (lv_at hl 0 rfl) ?_
  refine va_get (D := D) (ci := 3) (v := .ref (G 0 0)) (C := RX3) (T := TX3) (N := 3) hx hb hts inT3 hown hK.k hP 0 rfl rfl 0 (by decide) (hts _ q_132) (fun _ h9 => h9) rfl dX3_lay_24 ?_
  refine lv_iload_n hx hb dX3_lay_27 rfl (lv_at hl 1 rfl) ?_
  refine lv_iload_n hx hb dX3_lay_28 rfl (lv_at hl 2 rfl) ?_
  refine lv_iload_n hx hb dX3_lay_29 rfl (lv_at hl 3 rfl) ?_
  refine lv_iload hx hb dX3_lay_30 (lv_at hl 4 rfl) ?_
  refine rwVi (wr := neRS cI cS G (sN_saved (sN_now u u4.2) u4.1)) (As := [.int p1, .int p2, .int p3, .int p4]) (rest := []) neS_f F (c_X2_addRoad l D cI cS cJ (G 0) (N_now (sN_saved (sN_now u u4.2) u4.1)) H.size p1 p2 p3 p4 h) (cw_X3_76 hts (Nat.le_of_ble_eq_true rfl) (Nat.le_of_ble_eq_true rfl)) hK hP hD hS hA (recv (ci := 2) (k0 := 1) hK hP rfl rfl) rfl hl.1 rfl (Nat.le_of_ble_eq_true rfl) dX3_lay_32 ⟨(Nat.le_of_ble_eq_true rfl), (Nat.le_of_ble_eq_true rfl)⟩ (fun r5 u6 H locs h hP hD hS => ?_)
  have hP : va_P D vwCl (neW cI cS G (sN_now (sN_saved (sN_now u u4.2) u4.1) u6)) H := vP_perm (neS_b u6) hP
  have hD : va_D A (neW cI cS G (sN_now (sN_saved (sN_now u u4.2) u4.1) u6)) := vD_perm (neS_b u6) hD
  exact hQ h hP hD hS dX3_lay_35

def wp_X3_takeUp (u : Ne)  (post : Int32 → Ne → Prop) : Prop :=
  jn (False) (fun (J1 : Prop) => ((S_roadCount (N_now u)) = 0 → J1) ∧ (¬ (S_roadCount (N_now u)) = 0 → wp_X2_isUsed (N_now u) ((S_roadCount (N_now u)) - (1 : Int32)) (fun r5 => (r5 = 0 → wp_X1_keep (N_saved u, N_now u) (fun u9 => wp_X2_removeLastRoad (N_now (sN_saved (sN_now u u9.2) u9.1)) (fun u11 => post (S_roadCount (N_now (sN_now (sN_saved (sN_now u u9.2) u9.1) u11))) (sN_now (sN_saved (sN_now u u9.2) u9.1) u11)))) ∧ (¬ r5 = 0 → J1))))
set_option maxHeartbeats 4000000 in
set_option maxRecDepth 100000 in
theorem c_X3_takeUp (l : Launch) (D : va_G) (cI cS cJ : ClassId) (G : Nat → Nat → Nat) (u : Ne) (sz : Nat)  {post : Int32 → Ne → Prop} (h : wp_X3_takeUp u post) : Met l yX3_takeUp (wsA yX3_takeUp cX3_takeUp 1 (some .int)) rm_X3_takeUp (va_Pc [.ref (G 2 0)] (rwP D (tysA cI cS cJ) (neW cI cS G u) sz)) (va_Qi post (fun u9 t => va_P D vwCl ((neW cI cS G) u9) t.heap ∧ va_D (va_A (neW cI cS G u) sz) ((neW cI cS G) u9)) (va_A (neW cI cS G u) sz)) 0 0 (va_A (neW cI cS G u) sz) := by
  refine mkRWi (wf := (neW cI cS G)) (by decide +kernel) (Nat.le_of_ble_eq_true rfl) (fun {p e s m args below meth c Q ls A H0 H locs} hx hb F hts hown hK hP hD hS hA hl hQ => ?_)
  have hown : s.vm.findClass RX3 = some m.cls := hown
  have F : CallFix p m c cX3_takeUp 1 s args wsT RX3 := F
  have hl : lv_has ls 1 [(0, .ref (G 2 0))] := hl
  unfold wp_X3_takeUp at h
  refine lv_aload_n hx hb dX3_takeUp_0 rfl (lv_at hl 0 rfl) ?_
  refine va_get (D := D) (ci := 3) (v := .ref (G 0 0)) (C := RX3) (T := TX3) (N := 3) hx hb hts inT3 hown hK.k hP 0 rfl rfl 0 (by decide) (hts _ q_132) (fun _ h9 => h9) rfl dX3_takeUp_1 ?_
  refine va_get (D := D) (ci := 2) (v := .int (S_roadCount (N_now u))) (C := RX2) (T := TX2) (N := 12) hx hb hts inT2 hown hK.k hP 1 rfl rfl 2 (by decide) (hts _ q_58) (fun _ h9 => h9) rfl dX3_takeUp_4 ?_
  refine jn_e h (fun J1 e3 h => ?_)
  have w2 : ∀  (ls : Array Slot) (H : Heap) (locs : List Loc), lv_has ls 1 [] → va_P D vwCl (neW cI cS G u) H → va_D A (neW cI cS G u) → va_S A H0 H locs → J1 → W p l e rm_X3_takeUp s m args below meth c H locs 0 0 Q (F0 m 29 ls []) := by
    intro ls H locs hl hP hD hS h
    subst e3
    exact h.elim
  clear e3
  refine lv_if_eq (tgt := 29) hx hb dX3_takeUp_7 (by decide) (fun c4 => ?_) (fun c4 => ?_)
  · replace h := h.1 c4
    exact w2 _ _ _ (lv_sub hl [] rfl) hP hD hS h
  · replace h := h.2 c4
    refine lv_aload_n hx hb dX3_takeUp_10 rfl (lv_at hl 0 rfl) ?_
    refine va_get (D := D) (ci := 3) (v := .ref (G 0 0)) (C := RX3) (T := TX3) (N := 3) hx hb hts inT3 hown hK.k hP 0 rfl rfl 0 (by decide) (hts _ q_132) (fun _ h9 => h9) rfl dX3_takeUp_11 ?_
    refine lv_aload_n hx hb dX3_takeUp_14 rfl (lv_at hl 0 rfl) ?_
    refine va_get (D := D) (ci := 3) (v := .ref (G 0 0)) (C := RX3) (T := TX3) (N := 3) hx hb hts inT3 hown hK.k hP 0 rfl rfl 0 (by decide) (hts _ q_132) (fun _ h9 => h9) rfl dX3_takeUp_15 ?_
    refine va_get (D := D) (ci := 2) (v := .int (S_roadCount (N_now u))) (C := RX2) (T := TX2) (N := 12) hx hb hts inT2 hown hK.k hP 1 rfl rfl 2 (by decide) (hts _ q_58) (fun _ h9 => h9) rfl dX3_takeUp_18 ?_
    refine lv_iconst (v := (1 : Int32)) hx hb dX3_takeUp_21 (by decide) ?_
    refine lv_isub hx hb dX3_takeUp_22 ?_
    refine roVi (As := [.int ((S_roadCount (N_now u)) - (1 : Int32))]) (rest := []) F (c_X2_isUsed l D cI cS cJ (G 0) (N_now u) H ((S_roadCount (N_now u)) - (1 : Int32)) h) (cw_X3_83 hts (Nat.le_of_ble_eq_true rfl) (Nat.le_of_ble_eq_true rfl)) hK (neS hP) (recv (ci := 2) (k0 := 1) hK hP rfl rfl) rfl hl.1 rfl (Nat.le_of_ble_eq_true rfl) dX3_takeUp_23 ⟨(Nat.le_of_ble_eq_true rfl), (Nat.le_of_ble_eq_true rfl)⟩ (fun r5 h => ?_)
    obtain ⟨b6, h⟩ := h
    refine lv_if_eq (tgt := 39) hx hb dX3_takeUp_26 (by decide) (fun c7 => ?_) (fun c7 => ?_)
    · replace h := h.1 c7
      refine lv_aload_n hx hb dX3_takeUp_39 rfl (lv_at hl 0 rfl) ?_
      refine va_get (D := D) (ci := 3) (v := .ref (G 2 1)) (C := RX3) (T := TX3) (N := 3) hx hb hts inT3 hown hK.k hP 0 rfl rfl 1 (by decide) (hts _ q_133) (fun _ h9 => h9) rfl dX3_takeUp_40 ?_
      refine lv_aload_n hx hb dX3_takeUp_43 rfl (lv_at hl 0 rfl) ?_
      refine va_get (D := D) (ci := 3) (v := .ref (G 0 0)) (C := RX3) (T := TX3) (N := 3) hx hb hts inT3 hown hK.k hP 0 rfl rfl 0 (by decide) (hts _ q_132) (fun _ h9 => h9) rfl dX3_takeUp_44 ?_
      refine rwVv (wr := neRK cI G u) (As := [.ref (G 0 0)]) (rest := []) neK_f F (c_X1_keep l D cI cS cJ G (N_saved u, N_now u) H.size h) (cw_X3_38 hts (Nat.le_of_ble_eq_true rfl) (Nat.le_of_ble_eq_true rfl)) hK hP hD hS hA (recv (ci := 1) (k0 := 12) hK hP rfl rfl) rfl hl.1 rfl (Nat.le_of_ble_eq_true rfl) dX3_takeUp_47 ⟨(Nat.le_of_ble_eq_true rfl), (Nat.le_of_ble_eq_true rfl)⟩ (fun u9 H locs h hP hD hS => ?_)
      have hP : va_P D vwCl (neW cI cS G (sN_saved (sN_now u u9.2) u9.1)) H := vP_perm (neK_b u9) hP
      have hD : va_D A (neW cI cS G (sN_saved (sN_now u u9.2) u9.1)) := vD_perm (neK_b u9) hD
      refine lv_aload_n hx hb dX3_takeUp_50 rfl (lv_at hl 0 rfl) ?_
      refine va_get (D := D) (ci := 3) (v := .ref (G 0 0)) (C := RX3) (T := TX3) (N := 3) hx hb hts inT3 hown hK.k hP 0 rfl rfl 0 (by decide) (hts _ q_132) (fun _ h9 => h9) rfl dX3_takeUp_51 ?_
      refine rwVv (wr := neRS cI cS G (sN_saved (sN_now u u9.2) u9.1)) (As := []) (rest := []) neS_f F (c_X2_removeLastRoad l D cI cS cJ (G 0) (N_now (sN_saved (sN_now u u9.2) u9.1)) H.size  h) (cw_X3_93 hts (Nat.le_of_ble_eq_true rfl) (Nat.le_of_ble_eq_true rfl)) hK hP hD hS hA (recv (ci := 2) (k0 := 1) hK hP rfl rfl) rfl hl.1 rfl (Nat.le_of_ble_eq_true rfl) dX3_takeUp_54 ⟨(Nat.le_of_ble_eq_true rfl), (Nat.le_of_ble_eq_true rfl)⟩ (fun u11 H locs h hP hD hS => ?_)
      have hP : va_P D vwCl (neW cI cS G (sN_now (sN_saved (sN_now u u9.2) u9.1) u11)) H := vP_perm (neS_b u11) hP
      have hD : va_D A (neW cI cS G (sN_now (sN_saved (sN_now u u9.2) u9.1) u11)) := vD_perm (neS_b u11) hD
      refine lv_aload_n hx hb dX3_takeUp_57 rfl (lv_at hl 0 rfl) ?_
      refine va_get (D := D) (ci := 3) (v := .ref (G 0 0)) (C := RX3) (T := TX3) (N := 3) hx hb hts inT3 hown hK.k hP 0 rfl rfl 0 (by decide) (hts _ q_132) (fun _ h9 => h9) rfl dX3_takeUp_58 ?_
      refine va_get (D := D) (ci := 2) (v := .int (S_roadCount (N_now (sN_now (sN_saved (sN_now u u9.2) u9.1) u11)))) (C := RX2) (T := TX2) (N := 12) hx hb hts inT2 hown hK.k hP 1 rfl rfl 2 (by decide) (hts _ q_58) (fun _ h9 => h9) rfl dX3_takeUp_61 ?_
      exact hQ h hP hD hS dX3_takeUp_64
    · replace h := h.2 c7
      exact w2 _ _ _ (lv_sub hl [] rfl) hP hD hS h

def wp_X3_roads (u : Ne)  (post : Int32 → Prop) : Prop :=
  post (S_roadCount (N_now u))
set_option maxHeartbeats 4000000 in
set_option maxRecDepth 100000 in
theorem c_X3_roads (l : Launch) (D : va_G) (cI cS cJ : ClassId) (G : Nat → Nat → Nat) (u : Ne) (H0 : Heap)  {post : Int32 → Prop} (h : wp_X3_roads u post) : Met l yX3_roads (wsA yX3_roads cX3_roads 1 (some .int)) rm_X3_roads (va_Pc [.ref (G 2 0)] (roP D (tysA cI cS cJ) (neW cI cS G u) H0)) (va_Qi (fun r (_ : Unit) => post r) (fun _ t => t.heap = H0) nF) 0 0 nF := by
  refine mkROi (by decide +kernel) (Nat.le_of_ble_eq_true rfl) (fun {p e s m args below meth c Q ls} hx hb F hts hown hK hP hl hQ => ?_)
  have hown : s.vm.findClass RX3 = some m.cls := hown
  have F : CallFix p m c cX3_roads 1 s args wsT RX3 := F
  have hl : lv_has ls 1 [(0, .ref (G 2 0))] := hl
  unfold wp_X3_roads at h
  refine lv_aload_n hx hb dX3_roads_0 rfl (lv_at hl 0 rfl) ?_
  refine va_get (D := D) (ci := 3) (v := .ref (G 0 0)) (C := RX3) (T := TX3) (N := 3) hx hb hts inT3 hown hK.k hP 0 rfl rfl 0 (by decide) (hts _ q_132) (fun _ h9 => h9) rfl dX3_roads_1 ?_
  refine va_get (D := D) (ci := 2) (v := .int (S_roadCount (N_now u))) (C := RX2) (T := TX2) (N := 12) hx hb hts inT2 hown hK.k hP 1 rfl rfl 2 (by decide) (hts _ q_58) (fun _ h9 => h9) rfl dX3_roads_4 ?_
  exact hQ h dX3_roads_7

def wp_X3_roadFault (u : Ne) (p1 : Int32) (post : Int32 → Prop) : Prop :=
  wp_X3_isBetween p1 (0 : Int32) ((S_roadCount (N_now u)) - (1 : Int32)) (fun r1 => (r1 = 0 → post (1 : Int32)) ∧ (¬ r1 = 0 → post (0 : Int32)))
set_option maxHeartbeats 4000000 in
set_option maxRecDepth 100000 in
theorem c_X3_roadFault (l : Launch) (D : va_G) (cI cS cJ : ClassId) (G : Nat → Nat → Nat) (u : Ne) (H0 : Heap) (p1 : Int32) {post : Int32 → Prop} (h : wp_X3_roadFault u p1 post) : Met l yX3_roadFault (wsA yX3_roadFault cX3_roadFault 2 (some .int)) rm_X3_roadFault (va_Pc [.ref (G 2 0), .int p1] (roP D (tysA cI cS cJ) (neW cI cS G u) H0)) (va_Qi (fun r (_ : Unit) => post r) (fun _ t => t.heap = H0) nF) 0 0 nF := by
  refine mkROi (by decide +kernel) (Nat.le_of_ble_eq_true rfl) (fun {p e s m args below meth c Q ls} hx hb F hts hown hK hP hl hQ => ?_)
  have hown : s.vm.findClass RX3 = some m.cls := hown
  have F : CallFix p m c cX3_roadFault 2 s args wsT RX3 := F
  have hl : lv_has ls 2 [(0, .ref (G 2 0)), (1, .int p1)] := hl
  unfold wp_X3_roadFault at h
  refine lv_iload_n hx hb dX3_roadFault_0 rfl (lv_at hl 1 rfl) ?_
  refine lv_iconst (v := (0 : Int32)) hx hb dX3_roadFault_1 (by decide) ?_
  refine lv_aload_n hx hb dX3_roadFault_2 rfl (lv_at hl 0 rfl) ?_
  refine va_get (D := D) (ci := 3) (v := .ref (G 0 0)) (C := RX3) (T := TX3) (N := 3) hx hb hts inT3 hown hK.k hP 0 rfl rfl 0 (by decide) (hts _ q_132) (fun _ h9 => h9) rfl dX3_roadFault_3 ?_
  refine va_get (D := D) (ci := 2) (v := .int (S_roadCount (N_now u))) (C := RX2) (T := TX2) (N := 12) hx hb hts inT2 hown hK.k hP 1 rfl rfl 2 (by decide) (hts _ q_58) (fun _ h9 => h9) rfl dX3_roadFault_6 ?_
  refine lv_iconst (v := (1 : Int32)) hx hb dX3_roadFault_9 (by decide) ?_
  refine lv_isub hx hb dX3_roadFault_10 ?_
  refine roSi (As := [.int p1, .int (0 : Int32), .int ((S_roadCount (N_now u)) - (1 : Int32))]) (rest := []) F (c_X3_isBetween l D cI cS cJ H0 p1 (0 : Int32) ((S_roadCount (N_now u)) - (1 : Int32)) h) (cw_X3_96 hts (Nat.le_of_ble_eq_true rfl) (Nat.le_of_ble_eq_true rfl)) hK vP_nil rfl hl.1 rfl (Nat.le_of_ble_eq_true rfl) dX3_roadFault_11 ⟨(Nat.le_of_ble_eq_true rfl), (Nat.le_of_ble_eq_true rfl)⟩ (fun r1 h => ?_)
  obtain ⟨b2, h⟩ := h
  refine lv_if_eq (tgt := 21) hx hb dX3_roadFault_14 (by decide) (fun c3 => ?_) (fun c3 => ?_)
  · replace h := h.1 c3
    refine lv_iconst (v := (1 : Int32)) hx hb dX3_roadFault_21 (by decide) ?_
    exact hQ h dX3_roadFault_22
  · replace h := h.2 c3
    refine lv_iconst (v := (0 : Int32)) hx hb dX3_roadFault_17 (by decide) ?_
    refine lv_goto (tgt := 22) hx hb dX3_roadFault_18 (by decide) ?_
    exact hQ h dX3_roadFault_22

def wp_X3_inn (u : Ne) (p1 : Int32) (p2 : Int32) (post : Int32 → Prop) : Prop :=
  wp_X3_isBetween p2 (1 : Int32) (3 : Int32) (fun r1 => jn (fun (x3 : Int32) => wp_X3_refuse x3 (wp_X2_innAt (N_now u) p1 p2 (fun r8 => post r8))) (fun (J4 : Int32 → Prop) => (r1 = 0 → J4 (1 : Int32)) ∧ (¬ r1 = 0 → wp_X3_roadFault u p1 (fun r10 => J4 r10))))
set_option maxHeartbeats 4000000 in
set_option maxRecDepth 100000 in
theorem c_X3_inn (l : Launch) (D : va_G) (cI cS cJ : ClassId) (G : Nat → Nat → Nat) (u : Ne) (H0 : Heap) (p1 : Int32) (p2 : Int32) {post : Int32 → Prop} (h : wp_X3_inn u p1 p2 post) : Met l yX3_inn (wsA yX3_inn cX3_inn 3 (some .int)) rm_X3_inn (va_Pc [.ref (G 2 0), .int p1, .int p2] (roP D (tysA cI cS cJ) (neW cI cS G u) H0)) (va_Qi (fun r (_ : Unit) => post r) (fun _ t => t.heap = H0) nF) 0 0 nF := by
  refine mkROi (by decide +kernel) (Nat.le_of_ble_eq_true rfl) (fun {p e s m args below meth c Q ls} hx hb F hts hown hK hP hl hQ => ?_)
  have hown : s.vm.findClass RX3 = some m.cls := hown
  have F : CallFix p m c cX3_inn 3 s args wsT RX3 := F
  have hl : lv_has ls 3 [(0, .ref (G 2 0)), (1, .int p1), (2, .int p2)] := hl
  unfold wp_X3_inn at h
  refine lv_iload_n hx hb dX3_inn_0 rfl (lv_at hl 2 rfl) ?_
  refine lv_iconst (v := (1 : Int32)) hx hb dX3_inn_1 (by decide) ?_
  refine lv_iconst (v := (3 : Int32)) hx hb dX3_inn_2 (by decide) ?_
  refine roSi (As := [.int p2, .int (1 : Int32), .int (3 : Int32)]) (rest := []) F (c_X3_isBetween l D cI cS cJ H0 p2 (1 : Int32) (3 : Int32) h) (cw_X3_96 hts (Nat.le_of_ble_eq_true rfl) (Nat.le_of_ble_eq_true rfl)) hK vP_nil rfl hl.1 rfl (Nat.le_of_ble_eq_true rfl) dX3_inn_3 ⟨(Nat.le_of_ble_eq_true rfl), (Nat.le_of_ble_eq_true rfl)⟩ (fun r1 h => ?_)
  obtain ⟨b2, h⟩ := h
  refine jn_e h (fun J4 e6 h => ?_)
  have w5 : ∀ (x3 : Int32) (ls : Array Slot), lv_has ls 3 [(0, .ref (G 2 0)), (1, .int p1), (2, .int p2)] → J4 x3 → W p l e rm_X3_inn s m args below meth c H0 [] 0 0 Q (F0 m 18 ls [.int x3]) := by
    intro x3 ls hl h
    subst e6
    refine roSv (As := [.int x3]) (rest := []) F (c_X3_refuse l D cI cS cJ H0 x3 h) (cw_X3_34 hts (Nat.le_of_ble_eq_true rfl) (Nat.le_of_ble_eq_true rfl)) hK vP_nil rfl hl.1 rfl (Nat.le_of_ble_eq_true rfl) dX3_inn_18 ⟨(Nat.le_of_ble_eq_true rfl), (Nat.le_of_ble_eq_true rfl)⟩ (fun h => ?_)
    refine lv_aload_n hx hb dX3_inn_21 rfl (lv_at hl 0 rfl) ?_
    refine va_get (D := D) (ci := 3) (v := .ref (G 0 0)) (C := RX3) (T := TX3) (N := 3) hx hb hts inT3 hown hK.k hP 0 rfl rfl 0 (by decide) (hts _ q_132) (fun _ h9 => h9) rfl dX3_inn_22 ?_
    refine lv_iload_n hx hb dX3_inn_25 rfl (lv_at hl 1 rfl) ?_
    refine lv_iload_n hx hb dX3_inn_26 rfl (lv_at hl 2 rfl) ?_
    refine roVi (As := [.int p1, .int p2]) (rest := []) F (c_X2_innAt l D cI cS cJ (G 0) (N_now u) H0 p1 p2 h) (cw_X3_103 hts (Nat.le_of_ble_eq_true rfl) (Nat.le_of_ble_eq_true rfl)) hK (neS hP) (recv (ci := 2) (k0 := 1) hK hP rfl rfl) rfl hl.1 rfl (Nat.le_of_ble_eq_true rfl) dX3_inn_27 ⟨(Nat.le_of_ble_eq_true rfl), (Nat.le_of_ble_eq_true rfl)⟩ (fun r8 h => ?_)
    exact hQ h dX3_inn_30
  clear e6
  refine lv_if_eq (tgt := 17) hx hb dX3_inn_6 (by decide) (fun c9 => ?_) (fun c9 => ?_)
  · replace h := h.1 c9
    refine lv_iconst (v := (1 : Int32)) hx hb dX3_inn_17 (by decide) ?_
    exact w5 (1 : Int32) _ hl h
  · replace h := h.2 c9
    refine lv_aload_n hx hb dX3_inn_9 rfl (lv_at hl 0 rfl) ?_
    refine lv_iload_n hx hb dX3_inn_10 rfl (lv_at hl 1 rfl) ?_
    refine roVi (As := [.int p1]) (rest := []) F (c_X3_roadFault l D cI cS cJ G u H0 p1 h) (cw_X3_100 hts (Nat.le_of_ble_eq_true rfl) (Nat.le_of_ble_eq_true rfl)) hK hP (recv (ci := 3) (k0 := 0) hK hP rfl rfl) rfl hl.1 rfl (Nat.le_of_ble_eq_true rfl) dX3_inn_11 ⟨(Nat.le_of_ble_eq_true rfl), (Nat.le_of_ble_eq_true rfl)⟩ (fun r10 h => ?_)
    refine lv_goto (tgt := 18) hx hb dX3_inn_14 (by decide) ?_
    exact w5 r10 _ hl h

def wp_X3_hall (u : Ne) (p1 : Int32) (post : Int32 → Prop) : Prop :=
  wp_X3_roadFault u p1 (fun r1 => wp_X3_refuse r1 (wp_X3_read 6 (S_roadHalls (N_now u)) p1 (fun r3 => post r3)))
set_option maxHeartbeats 4000000 in
set_option maxRecDepth 100000 in
theorem c_X3_hall (l : Launch) (D : va_G) (cI cS cJ : ClassId) (G : Nat → Nat → Nat) (u : Ne) (H0 : Heap) (p1 : Int32) {post : Int32 → Prop} (h : wp_X3_hall u p1 post) : Met l yX3_hall (wsA yX3_hall cX3_hall 2 (some .int)) rm_X3_hall (va_Pc [.ref (G 2 0), .int p1] (roP D (tysA cI cS cJ) (neW cI cS G u) H0)) (va_Qi (fun r (_ : Unit) => post r) (fun _ t => t.heap = H0) nF) 0 0 nF := by
  refine mkROi (by decide +kernel) (Nat.le_of_ble_eq_true rfl) (fun {p e s m args below meth c Q ls} hx hb F hts hown hK hP hl hQ => ?_)
  have hown : s.vm.findClass RX3 = some m.cls := hown
  have F : CallFix p m c cX3_hall 2 s args wsT RX3 := F
  have hl : lv_has ls 2 [(0, .ref (G 2 0)), (1, .int p1)] := hl
  unfold wp_X3_hall at h
  refine lv_aload_n hx hb dX3_hall_0 rfl (lv_at hl 0 rfl) ?_
  refine lv_iload_n hx hb dX3_hall_1 rfl (lv_at hl 1 rfl) ?_
  refine roVi (As := [.int p1]) (rest := []) F (c_X3_roadFault l D cI cS cJ G u H0 p1 h) (cw_X3_100 hts (Nat.le_of_ble_eq_true rfl) (Nat.le_of_ble_eq_true rfl)) hK hP (recv (ci := 3) (k0 := 0) hK hP rfl rfl) rfl hl.1 rfl (Nat.le_of_ble_eq_true rfl) dX3_hall_2 ⟨(Nat.le_of_ble_eq_true rfl), (Nat.le_of_ble_eq_true rfl)⟩ (fun r1 h => ?_)
  refine roSv (As := [.int r1]) (rest := []) F (c_X3_refuse l D cI cS cJ H0 r1 h) (cw_X3_34 hts (Nat.le_of_ble_eq_true rfl) (Nat.le_of_ble_eq_true rfl)) hK vP_nil rfl hl.1 rfl (Nat.le_of_ble_eq_true rfl) dX3_hall_5 ⟨(Nat.le_of_ble_eq_true rfl), (Nat.le_of_ble_eq_true rfl)⟩ (fun h => ?_)
  refine lv_aload_n hx hb dX3_hall_8 rfl (lv_at hl 0 rfl) ?_
  refine va_get (D := D) (ci := 3) (v := .ref (G 0 0)) (C := RX3) (T := TX3) (N := 3) hx hb hts inT3 hown hK.k hP 0 rfl rfl 0 (by decide) (hts _ q_132) (fun _ h9 => h9) rfl dX3_hall_9 ?_
  refine va_get (D := D) (ci := 2) (v := .ref ((G 0) 4)) (C := RX2) (T := TX2) (N := 12) hx hb hts inT2 hown hK.k hP 1 rfl rfl 5 (by decide) (hts _ q_62) (fun _ h9 => h9) rfl dX3_hall_12 ?_
  refine lv_iload_n hx hb dX3_hall_15 rfl (lv_at hl 1 rfl) ?_
  refine roSi (As := [.ref ((G 0) 4), .int p1]) (rest := []) F (c_X3_read l D cI cS cJ ((G 0) 4) 6 (S_roadHalls (N_now u)) H0 p1 h) (cw_X3_58 hts (Nat.le_of_ble_eq_true rfl) (Nat.le_of_ble_eq_true rfl)) hK (vP_one hP 5 rfl) rfl hl.1 rfl (Nat.le_of_ble_eq_true rfl) dX3_hall_16 ⟨(Nat.le_of_ble_eq_true rfl), (Nat.le_of_ble_eq_true rfl)⟩ (fun r3 h => ?_)
  exact hQ h dX3_hall_19

def wp_X3_stands (u : Ne) (p1 : Int32) (post : Int32 → Prop) : Prop :=
  wp_X3_roadFault u p1 (fun r1 => wp_X3_refuse r1 (wp_X2_allOpenOn (N_now u) p1 (fun r3 => post r3)))
set_option maxHeartbeats 4000000 in
set_option maxRecDepth 100000 in
theorem c_X3_stands (l : Launch) (D : va_G) (cI cS cJ : ClassId) (G : Nat → Nat → Nat) (u : Ne) (H0 : Heap) (p1 : Int32) {post : Int32 → Prop} (h : wp_X3_stands u p1 post) : Met l yX3_stands (wsA yX3_stands cX3_stands 2 (some .boolean)) rm_X3_stands (va_Pc [.ref (G 2 0), .int p1] (roP D (tysA cI cS cJ) (neW cI cS G u) H0)) (va_Qi (fun r (_ : Unit) => bz r ∧ post r) (fun _ t => t.heap = H0) nF) 0 0 nF := by
  refine mkROz (by decide +kernel) (Nat.le_of_ble_eq_true rfl) (fun {p e s m args below meth c Q ls} hx hb F hts hown hK hP hl hQ => ?_)
  have hown : s.vm.findClass RX3 = some m.cls := hown
  have F : CallFix p m c cX3_stands 2 s args wsT RX3 := F
  have hl : lv_has ls 2 [(0, .ref (G 2 0)), (1, .int p1)] := hl
  unfold wp_X3_stands at h
  refine lv_aload_n hx hb dX3_stands_0 rfl (lv_at hl 0 rfl) ?_
  refine lv_iload_n hx hb dX3_stands_1 rfl (lv_at hl 1 rfl) ?_
  refine roVi (As := [.int p1]) (rest := []) F (c_X3_roadFault l D cI cS cJ G u H0 p1 h) (cw_X3_100 hts (Nat.le_of_ble_eq_true rfl) (Nat.le_of_ble_eq_true rfl)) hK hP (recv (ci := 3) (k0 := 0) hK hP rfl rfl) rfl hl.1 rfl (Nat.le_of_ble_eq_true rfl) dX3_stands_2 ⟨(Nat.le_of_ble_eq_true rfl), (Nat.le_of_ble_eq_true rfl)⟩ (fun r1 h => ?_)
  refine roSv (As := [.int r1]) (rest := []) F (c_X3_refuse l D cI cS cJ H0 r1 h) (cw_X3_34 hts (Nat.le_of_ble_eq_true rfl) (Nat.le_of_ble_eq_true rfl)) hK vP_nil rfl hl.1 rfl (Nat.le_of_ble_eq_true rfl) dX3_stands_5 ⟨(Nat.le_of_ble_eq_true rfl), (Nat.le_of_ble_eq_true rfl)⟩ (fun h => ?_)
  refine lv_aload_n hx hb dX3_stands_8 rfl (lv_at hl 0 rfl) ?_
  refine va_get (D := D) (ci := 3) (v := .ref (G 0 0)) (C := RX3) (T := TX3) (N := 3) hx hb hts inT3 hown hK.k hP 0 rfl rfl 0 (by decide) (hts _ q_132) (fun _ h9 => h9) rfl dX3_stands_9 ?_
  refine lv_iload_n hx hb dX3_stands_12 rfl (lv_at hl 1 rfl) ?_
  refine roVi (As := [.int p1]) (rest := []) F (c_X2_allOpenOn l D cI cS cJ (G 0) (N_now u) H0 p1 h) (cw_X3_109 hts (Nat.le_of_ble_eq_true rfl) (Nat.le_of_ble_eq_true rfl)) hK (neS hP) (recv (ci := 2) (k0 := 1) hK hP rfl rfl) rfl hl.1 rfl (Nat.le_of_ble_eq_true rfl) dX3_stands_13 ⟨(Nat.le_of_ble_eq_true rfl), (Nat.le_of_ble_eq_true rfl)⟩ (fun r3 h => ?_)
  obtain ⟨b4, h⟩ := h
  exact hQ b4 h dX3_stands_16

def wp_X3_see (u : Ne) (p1 : Int32) (p2 : Int32) (p3 : Int32) (post : Int32 → Prop) : Prop :=
  wp_X3_innFault p1 (fun r1 => wp_X3_refuse r1 (wp_X3_isBetween p3 (0 : Int32) (1 : Int32) (fun r3 => jn (fun (x5 : Int32) => wp_X3_refuse x5 (wp_X2_seenBeside (N_now u) p1 p2 p3 (fun r10 => post r10))) (fun (J6 : Int32 → Prop) => (r3 = 0 → J6 (1 : Int32)) ∧ (¬ r3 = 0 → wp_X3_roadFault u p2 (fun r12 => J6 r12))))))
set_option maxHeartbeats 4000000 in
set_option maxRecDepth 100000 in
theorem c_X3_see (l : Launch) (D : va_G) (cI cS cJ : ClassId) (G : Nat → Nat → Nat) (u : Ne) (H0 : Heap) (p1 : Int32) (p2 : Int32) (p3 : Int32) {post : Int32 → Prop} (h : wp_X3_see u p1 p2 p3 post) : Met l yX3_see (wsA yX3_see cX3_see 4 (some .int)) rm_X3_see (va_Pc [.ref (G 2 0), .int p1, .int p2, .int p3] (roP D (tysA cI cS cJ) (neW cI cS G u) H0)) (va_Qi (fun r (_ : Unit) => post r) (fun _ t => t.heap = H0) nF) 0 0 nF := by
  refine mkROi (by decide +kernel) (Nat.le_of_ble_eq_true rfl) (fun {p e s m args below meth c Q ls} hx hb F hts hown hK hP hl hQ => ?_)
  have hown : s.vm.findClass RX3 = some m.cls := hown
  have F : CallFix p m c cX3_see 4 s args wsT RX3 := F
  have hl : lv_has ls 4 [(0, .ref (G 2 0)), (1, .int p1), (2, .int p2), (3, .int p3)] := hl
  unfold wp_X3_see at h
  refine lv_iload_n hx hb dX3_see_0 rfl (lv_at hl 1 rfl) ?_
  refine roSi (As := [.int p1]) (rest := []) F (c_X3_innFault l D cI cS cJ H0 p1 h) (cw_X3_30 hts (Nat.le_of_ble_eq_true rfl) (Nat.le_of_ble_eq_true rfl)) hK vP_nil rfl hl.1 rfl (Nat.le_of_ble_eq_true rfl) dX3_see_1 ⟨(Nat.le_of_ble_eq_true rfl), (Nat.le_of_ble_eq_true rfl)⟩ (fun r1 h => ?_)
  refine roSv (As := [.int r1]) (rest := []) F (c_X3_refuse l D cI cS cJ H0 r1 h) (cw_X3_34 hts (Nat.le_of_ble_eq_true rfl) (Nat.le_of_ble_eq_true rfl)) hK vP_nil rfl hl.1 rfl (Nat.le_of_ble_eq_true rfl) dX3_see_4 ⟨(Nat.le_of_ble_eq_true rfl), (Nat.le_of_ble_eq_true rfl)⟩ (fun h => ?_)
  refine lv_iload_n hx hb dX3_see_7 rfl (lv_at hl 3 rfl) ?_
  refine lv_iconst (v := (0 : Int32)) hx hb dX3_see_8 (by decide) ?_
  refine lv_iconst (v := (1 : Int32)) hx hb dX3_see_9 (by decide) ?_
  refine roSi (As := [.int p3, .int (0 : Int32), .int (1 : Int32)]) (rest := []) F (c_X3_isBetween l D cI cS cJ H0 p3 (0 : Int32) (1 : Int32) h) (cw_X3_96 hts (Nat.le_of_ble_eq_true rfl) (Nat.le_of_ble_eq_true rfl)) hK vP_nil rfl hl.1 rfl (Nat.le_of_ble_eq_true rfl) dX3_see_10 ⟨(Nat.le_of_ble_eq_true rfl), (Nat.le_of_ble_eq_true rfl)⟩ (fun r3 h => ?_)
  obtain ⟨b4, h⟩ := h
  refine jn_e h (fun J6 e8 h => ?_)
  have w7 : ∀ (x5 : Int32) (ls : Array Slot), lv_has ls 4 [(0, .ref (G 2 0)), (1, .int p1), (2, .int p2), (3, .int p3)] → J6 x5 → W p l e rm_X3_see s m args below meth c H0 [] 0 0 Q (F0 m 25 ls [.int x5]) := by
    intro x5 ls hl h
    subst e8
    refine roSv (As := [.int x5]) (rest := []) F (c_X3_refuse l D cI cS cJ H0 x5 h) (cw_X3_34 hts (Nat.le_of_ble_eq_true rfl) (Nat.le_of_ble_eq_true rfl)) hK vP_nil rfl hl.1 rfl (Nat.le_of_ble_eq_true rfl) dX3_see_25 ⟨(Nat.le_of_ble_eq_true rfl), (Nat.le_of_ble_eq_true rfl)⟩ (fun h => ?_)
    refine lv_aload_n hx hb dX3_see_28 rfl (lv_at hl 0 rfl) ?_
    refine va_get (D := D) (ci := 3) (v := .ref (G 0 0)) (C := RX3) (T := TX3) (N := 3) hx hb hts inT3 hown hK.k hP 0 rfl rfl 0 (by decide) (hts _ q_132) (fun _ h9 => h9) rfl dX3_see_29 ?_
    refine lv_iload_n hx hb dX3_see_32 rfl (lv_at hl 1 rfl) ?_
    refine lv_iload_n hx hb dX3_see_33 rfl (lv_at hl 2 rfl) ?_
    refine lv_iload_n hx hb dX3_see_34 rfl (lv_at hl 3 rfl) ?_
    refine roVi (As := [.int p1, .int p2, .int p3]) (rest := []) F (c_X2_seenBeside l D cI cS cJ (G 0) (N_now u) H0 p1 p2 p3 h) (cw_X3_112 hts (Nat.le_of_ble_eq_true rfl) (Nat.le_of_ble_eq_true rfl)) hK (neS hP) (recv (ci := 2) (k0 := 1) hK hP rfl rfl) rfl hl.1 rfl (Nat.le_of_ble_eq_true rfl) dX3_see_35 ⟨(Nat.le_of_ble_eq_true rfl), (Nat.le_of_ble_eq_true rfl)⟩ (fun r10 h => ?_)
    exact hQ h dX3_see_38
  clear e8
  refine lv_if_eq (tgt := 24) hx hb dX3_see_13 (by decide) (fun c11 => ?_) (fun c11 => ?_)
  · replace h := h.1 c11
    refine lv_iconst (v := (1 : Int32)) hx hb dX3_see_24 (by decide) ?_
    exact w7 (1 : Int32) _ hl h
  · replace h := h.2 c11
    refine lv_aload_n hx hb dX3_see_16 rfl (lv_at hl 0 rfl) ?_
    refine lv_iload_n hx hb dX3_see_17 rfl (lv_at hl 2 rfl) ?_
    refine roVi (As := [.int p2]) (rest := []) F (c_X3_roadFault l D cI cS cJ G u H0 p2 h) (cw_X3_100 hts (Nat.le_of_ble_eq_true rfl) (Nat.le_of_ble_eq_true rfl)) hK hP (recv (ci := 3) (k0 := 0) hK hP rfl rfl) rfl hl.1 rfl (Nat.le_of_ble_eq_true rfl) dX3_see_18 ⟨(Nat.le_of_ble_eq_true rfl), (Nat.le_of_ble_eq_true rfl)⟩ (fun r12 h => ?_)
    refine lv_goto (tgt := 25) hx hb dX3_see_21 (by decide) ?_
    exact w7 r12 _ hl h

def wp_X3_known (u : Ne) (p1 : Int32) (post : Int32 → Prop) : Prop :=
  wp_X3_innFault p1 (fun r1 => wp_X3_refuse r1 (wp_X2_knownMask (N_now u) p1 (fun r3 => post r3)))
set_option maxHeartbeats 4000000 in
set_option maxRecDepth 100000 in
theorem c_X3_known (l : Launch) (D : va_G) (cI cS cJ : ClassId) (G : Nat → Nat → Nat) (u : Ne) (H0 : Heap) (p1 : Int32) {post : Int32 → Prop} (h : wp_X3_known u p1 post) : Met l yX3_known (wsA yX3_known cX3_known 2 (some .int)) rm_X3_known (va_Pc [.ref (G 2 0), .int p1] (roP D (tysA cI cS cJ) (neW cI cS G u) H0)) (va_Qi (fun r (_ : Unit) => post r) (fun _ t => t.heap = H0) nF) 0 0 nF := by
  refine mkROi (by decide +kernel) (Nat.le_of_ble_eq_true rfl) (fun {p e s m args below meth c Q ls} hx hb F hts hown hK hP hl hQ => ?_)
  have hown : s.vm.findClass RX3 = some m.cls := hown
  have F : CallFix p m c cX3_known 2 s args wsT RX3 := F
  have hl : lv_has ls 2 [(0, .ref (G 2 0)), (1, .int p1)] := hl
  unfold wp_X3_known at h
  refine lv_iload_n hx hb dX3_known_0 rfl (lv_at hl 1 rfl) ?_
  refine roSi (As := [.int p1]) (rest := []) F (c_X3_innFault l D cI cS cJ H0 p1 h) (cw_X3_30 hts (Nat.le_of_ble_eq_true rfl) (Nat.le_of_ble_eq_true rfl)) hK vP_nil rfl hl.1 rfl (Nat.le_of_ble_eq_true rfl) dX3_known_1 ⟨(Nat.le_of_ble_eq_true rfl), (Nat.le_of_ble_eq_true rfl)⟩ (fun r1 h => ?_)
  refine roSv (As := [.int r1]) (rest := []) F (c_X3_refuse l D cI cS cJ H0 r1 h) (cw_X3_34 hts (Nat.le_of_ble_eq_true rfl) (Nat.le_of_ble_eq_true rfl)) hK vP_nil rfl hl.1 rfl (Nat.le_of_ble_eq_true rfl) dX3_known_4 ⟨(Nat.le_of_ble_eq_true rfl), (Nat.le_of_ble_eq_true rfl)⟩ (fun h => ?_)
  refine lv_aload_n hx hb dX3_known_7 rfl (lv_at hl 0 rfl) ?_
  refine va_get (D := D) (ci := 3) (v := .ref (G 0 0)) (C := RX3) (T := TX3) (N := 3) hx hb hts inT3 hown hK.k hP 0 rfl rfl 0 (by decide) (hts _ q_132) (fun _ h9 => h9) rfl dX3_known_8 ?_
  refine lv_iload_n hx hb dX3_known_11 rfl (lv_at hl 1 rfl) ?_
  refine roVi (As := [.int p1]) (rest := []) F (c_X2_knownMask l D cI cS cJ (G 0) (N_now u) H0 p1 h) (cw_X3_116 hts (Nat.le_of_ble_eq_true rfl) (Nat.le_of_ble_eq_true rfl)) hK (neS hP) (recv (ci := 2) (k0 := 1) hK hP rfl rfl) rfl hl.1 rfl (Nat.le_of_ble_eq_true rfl) dX3_known_12 ⟨(Nat.le_of_ble_eq_true rfl), (Nat.le_of_ble_eq_true rfl)⟩ (fun r3 h => ?_)
  exact hQ h dX3_known_15

def wp_X3_sendFault (u : Ne) (p1 : Int32) (p2 : Int32) (post : Int32 → Prop) : Prop :=
  wp_X3_roadFault u p1 (fun r1 => (r1 = 0 → wp_X3_isBody p2 (fun r3 => (¬ r3 = 0 → ((12 : Int32) ≤ (S_envelopeCount (N_now u)) → post (3 : Int32)) ∧ (¬ (12 : Int32) ≤ (S_envelopeCount (N_now u)) → post (0 : Int32))) ∧ (r3 = 0 → post (2 : Int32)))) ∧ (¬ r1 = 0 → post (1 : Int32)))
set_option maxHeartbeats 4000000 in
set_option maxRecDepth 100000 in
theorem c_X3_sendFault (l : Launch) (D : va_G) (cI cS cJ : ClassId) (G : Nat → Nat → Nat) (u : Ne) (H0 : Heap) (p1 : Int32) (p2 : Int32) {post : Int32 → Prop} (h : wp_X3_sendFault u p1 p2 post) : Met l yX3_sendFault (wsA yX3_sendFault cX3_sendFault 3 (some .int)) rm_X3_sendFault (va_Pc [.ref (G 2 0), .int p1, .int p2] (roP D (tysA cI cS cJ) (neW cI cS G u) H0)) (va_Qi (fun r (_ : Unit) => post r) (fun _ t => t.heap = H0) nF) 0 0 nF := by
  refine mkROi (by decide +kernel) (Nat.le_of_ble_eq_true rfl) (fun {p e s m args below meth c Q ls} hx hb F hts hown hK hP hl hQ => ?_)
  have hown : s.vm.findClass RX3 = some m.cls := hown
  have F : CallFix p m c cX3_sendFault 3 s args wsT RX3 := F
  have hl : lv_has ls 3 [(0, .ref (G 2 0)), (1, .int p1), (2, .int p2)] := hl
  unfold wp_X3_sendFault at h
  refine lv_aload_n hx hb dX3_sendFault_0 rfl (lv_at hl 0 rfl) ?_
  refine lv_iload_n hx hb dX3_sendFault_1 rfl (lv_at hl 1 rfl) ?_
  refine roVi (As := [.int p1]) (rest := []) F (c_X3_roadFault l D cI cS cJ G u H0 p1 h) (cw_X3_100 hts (Nat.le_of_ble_eq_true rfl) (Nat.le_of_ble_eq_true rfl)) hK hP (recv (ci := 3) (k0 := 0) hK hP rfl rfl) rfl hl.1 rfl (Nat.le_of_ble_eq_true rfl) dX3_sendFault_2 ⟨(Nat.le_of_ble_eq_true rfl), (Nat.le_of_ble_eq_true rfl)⟩ (fun r1 h => ?_)
  refine lv_if_eq (tgt := 10) hx hb dX3_sendFault_5 (by decide) (fun c2 => ?_) (fun c2 => ?_)
  · replace h := h.1 c2
    refine lv_iload_n hx hb dX3_sendFault_10 rfl (lv_at hl 2 rfl) ?_
    refine roSi (As := [.int p2]) (rest := []) F (c_X3_isBody l D cI cS cJ H0 p2 h) (cw_X3_239 hts (Nat.le_of_ble_eq_true rfl) (Nat.le_of_ble_eq_true rfl)) hK vP_nil rfl hl.1 rfl (Nat.le_of_ble_eq_true rfl) dX3_sendFault_11 ⟨(Nat.le_of_ble_eq_true rfl), (Nat.le_of_ble_eq_true rfl)⟩ (fun r3 h => ?_)
    obtain ⟨b4, h⟩ := h
    refine lv_if_ne (tgt := 19) hx hb dX3_sendFault_14 (by decide) (fun c5 => ?_) (fun c5 => ?_)
    · replace h := h.1 c5
      refine lv_aload_n hx hb dX3_sendFault_19 rfl (lv_at hl 0 rfl) ?_
      refine va_get (D := D) (ci := 3) (v := .ref (G 0 0)) (C := RX3) (T := TX3) (N := 3) hx hb hts inT3 hown hK.k hP 0 rfl rfl 0 (by decide) (hts _ q_132) (fun _ h9 => h9) rfl dX3_sendFault_20 ?_
      refine va_get (D := D) (ci := 2) (v := .int (S_envelopeCount (N_now u))) (C := RX2) (T := TX2) (N := 12) hx hb hts inT2 hown hK.k hP 1 rfl rfl 6 (by decide) (hts _ q_64) (fun _ h9 => h9) rfl dX3_sendFault_23 ?_
      refine lv_bipush (v := (12 : Int32)) hx hb dX3_sendFault_26 (by decide) ?_
      refine lv_icmp_ge (tgt := 35) hx hb dX3_sendFault_28 (by decide) (fun c6 => ?_) (fun c6 => ?_)
      · replace h := h.1 c6
        refine lv_iconst (v := (3 : Int32)) hx hb dX3_sendFault_35 (by decide) ?_
        exact hQ h dX3_sendFault_36
      · replace h := h.2 c6
        refine lv_iconst (v := (0 : Int32)) hx hb dX3_sendFault_31 (by decide) ?_
        refine lv_goto (tgt := 36) hx hb dX3_sendFault_32 (by decide) ?_
        exact hQ h dX3_sendFault_36
    · replace h := h.2 c5
      refine lv_iconst (v := (2 : Int32)) hx hb dX3_sendFault_17 (by decide) ?_
      exact hQ h dX3_sendFault_18
  · replace h := h.2 c2
    refine lv_iconst (v := (1 : Int32)) hx hb dX3_sendFault_8 (by decide) ?_
    exact hQ h dX3_sendFault_9

def wp_X3_send (u : Ne) (p1 : Int32) (p2 : Int32) (post : Int32 → Ne → Prop) : Prop :=
  wp_X3_sendFault u p1 p2 (fun r1 => wp_X3_refuse r1 (wp_X1_keep (N_saved u, N_now u) (fun u4 => wp_X2_addLetter (N_now (sN_saved (sN_now u u4.2) u4.1)) p1 p2 (fun r5 u6 => post r5 (sN_now (sN_saved (sN_now u u4.2) u4.1) u6)))))
set_option maxHeartbeats 4000000 in
set_option maxRecDepth 100000 in
theorem c_X3_send (l : Launch) (D : va_G) (cI cS cJ : ClassId) (G : Nat → Nat → Nat) (u : Ne) (sz : Nat) (p1 : Int32) (p2 : Int32) {post : Int32 → Ne → Prop} (h : wp_X3_send u p1 p2 post) : Met l yX3_send (wsA yX3_send cX3_send 3 (some .int)) rm_X3_send (va_Pc [.ref (G 2 0), .int p1, .int p2] (rwP D (tysA cI cS cJ) (neW cI cS G u) sz)) (va_Qi post (fun u9 t => va_P D vwCl ((neW cI cS G) u9) t.heap ∧ va_D (va_A (neW cI cS G u) sz) ((neW cI cS G) u9)) (va_A (neW cI cS G u) sz)) 0 0 (va_A (neW cI cS G u) sz) := by
  refine mkRWi (wf := (neW cI cS G)) (by decide +kernel) (Nat.le_of_ble_eq_true rfl) (fun {p e s m args below meth c Q ls A H0 H locs} hx hb F hts hown hK hP hD hS hA hl hQ => ?_)
  have hown : s.vm.findClass RX3 = some m.cls := hown
  have F : CallFix p m c cX3_send 3 s args wsT RX3 := F
  have hl : lv_has ls 3 [(0, .ref (G 2 0)), (1, .int p1), (2, .int p2)] := hl
  unfold wp_X3_send at h
  refine lv_aload_n hx hb dX3_send_0 rfl (lv_at hl 0 rfl) ?_
  refine lv_iload_n hx hb dX3_send_1 rfl (lv_at hl 1 rfl) ?_
  refine lv_iload_n hx hb dX3_send_2 rfl (lv_at hl 2 rfl) ?_
  refine roVi (As := [.int p1, .int p2]) (rest := []) F (c_X3_sendFault l D cI cS cJ G u H p1 p2 h) (cw_X3_119 hts (Nat.le_of_ble_eq_true rfl) (Nat.le_of_ble_eq_true rfl)) hK hP (recv (ci := 3) (k0 := 0) hK hP rfl rfl) rfl hl.1 rfl (Nat.le_of_ble_eq_true rfl) dX3_send_3 ⟨(Nat.le_of_ble_eq_true rfl), (Nat.le_of_ble_eq_true rfl)⟩ (fun r1 h => ?_)
  refine roSv (As := [.int r1]) (rest := []) F (c_X3_refuse l D cI cS cJ H r1 h) (cw_X3_34 hts (Nat.le_of_ble_eq_true rfl) (Nat.le_of_ble_eq_true rfl)) hK vP_nil rfl hl.1 rfl (Nat.le_of_ble_eq_true rfl) dX3_send_6 ⟨(Nat.le_of_ble_eq_true rfl), (Nat.le_of_ble_eq_true rfl)⟩ (fun h => ?_)
  refine lv_aload_n hx hb dX3_send_9 rfl (lv_at hl 0 rfl) ?_
  refine va_get (D := D) (ci := 3) (v := .ref (G 2 1)) (C := RX3) (T := TX3) (N := 3) hx hb hts inT3 hown hK.k hP 0 rfl rfl 1 (by decide) (hts _ q_133) (fun _ h9 => h9) rfl dX3_send_10 ?_
  refine lv_aload_n hx hb dX3_send_13 rfl (lv_at hl 0 rfl) ?_
  refine va_get (D := D) (ci := 3) (v := .ref (G 0 0)) (C := RX3) (T := TX3) (N := 3) hx hb hts inT3 hown hK.k hP 0 rfl rfl 0 (by decide) (hts _ q_132) (fun _ h9 => h9) rfl dX3_send_14 ?_
  refine rwVv (wr := neRK cI G u) (As := [.ref (G 0 0)]) (rest := []) neK_f F (c_X1_keep l D cI cS cJ G (N_saved u, N_now u) H.size h) (cw_X3_38 hts (Nat.le_of_ble_eq_true rfl) (Nat.le_of_ble_eq_true rfl)) hK hP hD hS hA (recv (ci := 1) (k0 := 12) hK hP rfl rfl) rfl hl.1 rfl (Nat.le_of_ble_eq_true rfl) dX3_send_17 ⟨(Nat.le_of_ble_eq_true rfl), (Nat.le_of_ble_eq_true rfl)⟩ (fun u4 H locs h hP hD hS => ?_)
  have hP : va_P D vwCl (neW cI cS G (sN_saved (sN_now u u4.2) u4.1)) H := vP_perm (neK_b u4) hP
  have hD : va_D A (neW cI cS G (sN_saved (sN_now u u4.2) u4.1)) := vD_perm (neK_b u4) hD
  refine lv_aload_n hx hb dX3_send_20 rfl (lv_at hl 0 rfl) ?_
  refine va_get (D := D) (ci := 3) (v := .ref (G 0 0)) (C := RX3) (T := TX3) (N := 3) hx hb hts inT3 hown hK.k hP 0 rfl rfl 0 (by decide) (hts _ q_132) (fun _ h9 => h9) rfl dX3_send_21 ?_
  refine lv_iload_n hx hb dX3_send_24 rfl (lv_at hl 1 rfl) ?_
  refine lv_iload_n hx hb dX3_send_25 rfl (lv_at hl 2 rfl) ?_
  refine rwVi (wr := neRS cI cS G (sN_saved (sN_now u u4.2) u4.1)) (As := [.int p1, .int p2]) (rest := []) neS_f F (c_X2_addLetter l D cI cS cJ (G 0) (N_now (sN_saved (sN_now u u4.2) u4.1)) H.size p1 p2 h) (cw_X3_122 hts (Nat.le_of_ble_eq_true rfl) (Nat.le_of_ble_eq_true rfl)) hK hP hD hS hA (recv (ci := 2) (k0 := 1) hK hP rfl rfl) rfl hl.1 rfl (Nat.le_of_ble_eq_true rfl) dX3_send_26 ⟨(Nat.le_of_ble_eq_true rfl), (Nat.le_of_ble_eq_true rfl)⟩ (fun r5 u6 H locs h hP hD hS => ?_)
  have hP : va_P D vwCl (neW cI cS G (sN_now (sN_saved (sN_now u u4.2) u4.1) u6)) H := vP_perm (neS_b u6) hP
  have hD : va_D A (neW cI cS G (sN_now (sN_saved (sN_now u u4.2) u4.1) u6)) := vD_perm (neS_b u6) hD
  exact hQ h hP hD hS dX3_send_29

def wp_X3_answerFault (u : Ne) (p1 : Int32) (p2 : Int32) (post : Int32 → Prop) : Prop :=
  wp_X3_hallFault p1 (fun r1 => (r1 = 0 → wp_X3_isBody p2 (fun r3 => (¬ r3 = 0 → wp_X3_read 4 (S_answerRoads (N_now u)) p1 (fun r6 => jn (fun (x7 : Int32) => (x7 = 0 → post (3 : Int32)) ∧ (¬ x7 = 0 → ((12 : Int32) ≤ (S_envelopeCount (N_now u)) → post (3 : Int32)) ∧ (¬ (12 : Int32) ≤ (S_envelopeCount (N_now u)) → post (0 : Int32)))) (fun (J9 : Int32 → Prop) => (r6 = (-1 : Int32) → J9 (0 : Int32)) ∧ (¬ r6 = (-1 : Int32) → J9 (1 : Int32))))) ∧ (r3 = 0 → post (2 : Int32)))) ∧ (¬ r1 = 0 → post (1 : Int32)))
set_option maxHeartbeats 4000000 in
set_option maxRecDepth 100000 in
theorem c_X3_answerFault (l : Launch) (D : va_G) (cI cS cJ : ClassId) (G : Nat → Nat → Nat) (u : Ne) (H0 : Heap) (p1 : Int32) (p2 : Int32) {post : Int32 → Prop} (h : wp_X3_answerFault u p1 p2 post) : Met l yX3_answerFault (wsA yX3_answerFault cX3_answerFault 4 (some .int)) rm_X3_answerFault (va_Pc [.ref (G 2 0), .int p1, .int p2] (roP D (tysA cI cS cJ) (neW cI cS G u) H0)) (va_Qi (fun r (_ : Unit) => post r) (fun _ t => t.heap = H0) nF) 0 0 nF := by
  refine mkROi (by decide +kernel) (Nat.le_of_ble_eq_true rfl) (fun {p e s m args below meth c Q ls} hx hb F hts hown hK hP hl hQ => ?_)
  have hown : s.vm.findClass RX3 = some m.cls := hown
  have F : CallFix p m c cX3_answerFault 4 s args wsT RX3 := F
  have hl : lv_has ls 4 [(0, .ref (G 2 0)), (1, .int p1), (2, .int p2)] := hl
  unfold wp_X3_answerFault at h
  refine lv_iload_n hx hb dX3_answerFault_0 rfl (lv_at hl 1 rfl) ?_
  refine roSi (As := [.int p1]) (rest := []) F (c_X3_hallFault l D cI cS cJ H0 p1 h) (cw_X3_148 hts (Nat.le_of_ble_eq_true rfl) (Nat.le_of_ble_eq_true rfl)) hK vP_nil rfl hl.1 rfl (Nat.le_of_ble_eq_true rfl) dX3_answerFault_1 ⟨(Nat.le_of_ble_eq_true rfl), (Nat.le_of_ble_eq_true rfl)⟩ (fun r1 h => ?_)
  refine lv_if_eq (tgt := 9) hx hb dX3_answerFault_4 (by decide) (fun c2 => ?_) (fun c2 => ?_)
  · replace h := h.1 c2
    refine lv_iload_n hx hb dX3_answerFault_9 rfl (lv_at hl 2 rfl) ?_
    refine roSi (As := [.int p2]) (rest := []) F (c_X3_isBody l D cI cS cJ H0 p2 h) (cw_X3_239 hts (Nat.le_of_ble_eq_true rfl) (Nat.le_of_ble_eq_true rfl)) hK vP_nil rfl hl.1 rfl (Nat.le_of_ble_eq_true rfl) dX3_answerFault_10 ⟨(Nat.le_of_ble_eq_true rfl), (Nat.le_of_ble_eq_true rfl)⟩ (fun r3 h => ?_)
    obtain ⟨b4, h⟩ := h
    refine lv_if_ne (tgt := 18) hx hb dX3_answerFault_13 (by decide) (fun c5 => ?_) (fun c5 => ?_)
    · replace h := h.1 c5
      refine lv_aload_n hx hb dX3_answerFault_18 rfl (lv_at hl 0 rfl) ?_
      refine va_get (D := D) (ci := 3) (v := .ref (G 0 0)) (C := RX3) (T := TX3) (N := 3) hx hb hts inT3 hown hK.k hP 0 rfl rfl 0 (by decide) (hts _ q_132) (fun _ h9 => h9) rfl dX3_answerFault_19 ?_
      refine va_get (D := D) (ci := 2) (v := .ref ((G 0) 7)) (C := RX2) (T := TX2) (N := 12) hx hb hts inT2 hown hK.k hP 1 rfl rfl 9 (by decide) (hts _ q_69) (fun _ h9 => h9) rfl dX3_answerFault_22 ?_
      refine lv_iload_n hx hb dX3_answerFault_25 rfl (lv_at hl 1 rfl) ?_
      refine roSi (As := [.ref ((G 0) 7), .int p1]) (rest := []) F (c_X3_read l D cI cS cJ ((G 0) 7) 4 (S_answerRoads (N_now u)) H0 p1 h) (cw_X3_58 hts (Nat.le_of_ble_eq_true rfl) (Nat.le_of_ble_eq_true rfl)) hK (vP_one hP 8 rfl) rfl hl.1 rfl (Nat.le_of_ble_eq_true rfl) dX3_answerFault_26 ⟨(Nat.le_of_ble_eq_true rfl), (Nat.le_of_ble_eq_true rfl)⟩ (fun r6 h => ?_)
      refine lv_iconst (v := (-1 : Int32)) hx hb dX3_answerFault_29 (by decide) ?_
      refine jn_e h (fun J9 e11 h => ?_)
      have w10 : ∀ (x7 : Int32) (ls : Array Slot), bz x7 → lv_has ls 4 [(0, .ref (G 2 0))] → J9 x7 → W p l e rm_X3_answerFault s m args below meth c H0 [] 0 0 Q (F0 m 38 ls [.int x7]) := by
        intro x7 ls b8 hl h
        subst e11
        refine lv_istore_n (lv' := [(3, .int x7), (0, .ref (G 2 0))]) hx hb dX3_answerFault_38 rfl hl (by decide) rfl (fun ls hl => ?_)
        refine lv_iload_n hx hb dX3_answerFault_39 rfl (lv_at hl 0 rfl) ?_
        refine lv_if_eq (tgt := 59) hx hb dX3_answerFault_40 (by decide) (fun c12 => ?_) (fun c12 => ?_)
        · replace h := h.1 c12
          refine lv_iconst (v := (3 : Int32)) hx hb dX3_answerFault_59 (by decide) ?_
          exact hQ h dX3_answerFault_60
        · replace h := h.2 c12
          refine lv_aload_n hx hb dX3_answerFault_43 rfl (lv_at hl 1 rfl) ?_
          refine va_get (D := D) (ci := 3) (v := .ref (G 0 0)) (C := RX3) (T := TX3) (N := 3) hx hb hts inT3 hown hK.k hP 0 rfl rfl 0 (by decide) (hts _ q_132) (fun _ h9 => h9) rfl dX3_answerFault_44 ?_
          refine va_get (D := D) (ci := 2) (v := .int (S_envelopeCount (N_now u))) (C := RX2) (T := TX2) (N := 12) hx hb hts inT2 hown hK.k hP 1 rfl rfl 6 (by decide) (hts _ q_64) (fun _ h9 => h9) rfl dX3_answerFault_47 ?_
          refine lv_bipush (v := (12 : Int32)) hx hb dX3_answerFault_50 (by decide) ?_
          refine lv_icmp_ge (tgt := 59) hx hb dX3_answerFault_52 (by decide) (fun c13 => ?_) (fun c13 => ?_)
          · replace h := h.1 c13
            refine lv_iconst (v := (3 : Int32)) hx hb dX3_answerFault_59 (by decide) ?_
            exact hQ h dX3_answerFault_60
          · replace h := h.2 c13
            refine lv_iconst (v := (0 : Int32)) hx hb dX3_answerFault_55 (by decide) ?_
            refine lv_goto (tgt := 60) hx hb dX3_answerFault_56 (by decide) ?_
            exact hQ h dX3_answerFault_60
      clear e11
      refine lv_icmp_eq (tgt := 37) hx hb dX3_answerFault_30 (by decide) (fun c14 => ?_) (fun c14 => ?_)
      · replace h := h.1 c14
        refine lv_iconst (v := (0 : Int32)) hx hb dX3_answerFault_37 (by decide) ?_
        exact w10 (0 : Int32) _ bz0 (lv_sub hl [0] rfl) h
      · replace h := h.2 c14
        refine lv_iconst (v := (1 : Int32)) hx hb dX3_answerFault_33 (by decide) ?_
        refine lv_goto (tgt := 38) hx hb dX3_answerFault_34 (by decide) ?_
        exact w10 (1 : Int32) _ bz1 (lv_sub hl [0] rfl) h
    · replace h := h.2 c5
      refine lv_iconst (v := (2 : Int32)) hx hb dX3_answerFault_16 (by decide) ?_
      exact hQ h dX3_answerFault_17
  · replace h := h.2 c2
    refine lv_iconst (v := (1 : Int32)) hx hb dX3_answerFault_7 (by decide) ?_
    exact hQ h dX3_answerFault_8
