def wp_law_22 (xs : Nat → Int32) (i : Int32) (N : Ne) (O : Nat → Int64) (M : Md) (post : Ne → (Nat → Int64) → Md → Prop) : Prop :=
  wp_X3_deliveredShare N (fun r1 u2 => wp_X4_deliveredShare M (fun r3 u4 => ((Op.cmpValue (FP.dcmp r1 r3) CmpOp.l) = 0 → post u2 O u4) ∧ (¬ (Op.cmpValue (FP.dcmp r1 r3) CmpOp.l) = 0 → ((Op.cmpValue (FP.dcmp r1 r1) CmpOp.l) = 0 → False) ∧ (¬ (Op.cmpValue (FP.dcmp r1 r1) CmpOp.l) = 0 → (¬ (Op.cmpValue (FP.dcmp r3 r3) CmpOp.l) = 0 → post u2 O u4) ∧ ((Op.cmpValue (FP.dcmp r3 r3) CmpOp.l) = 0 → False)))))
set_option maxHeartbeats 4000000 in
set_option maxRecDepth 100000 in
theorem c_law_22 {p : Program} {l : Launch} {e : Env} {s : State} {m : MethodId} {args : Array Value} {below : List Frame} {meth : Method} {c : Code} {Q : State → Prop} {A : Nat → Prop} {D : va_G} {cI cS cJ : ClassId} {G : Nat → Nat → Nat} {o : Nat} {bm : Nat → Nat} {b L cs ss : Nat} {xs : Nat → Int32} {i : Int32} {N : Ne} {O : Nat → Int64} {M : Md} {H : Heap} {locs : List Loc} {ls : Array Slot} (C : lwC p l s m args c A D cI cS cJ b L xs) (hi0 : vp_in i L) (hi1 : vp_in (i + 1) L) (hi2 : vp_in (i + 2) L) (hi3 : vp_in (i + 3) L) (hi4 : vp_in (i + 4) L) (hcs : cs + 2 ≤ 601024) (hss : ss + 12 ≤ 7293034) (hl : lv_has ls 9 [(0, .ref b), (1, .ref (G 2 0)), (2, .ref (bm 0)), (3, .ref o), (4, .int i)]) (hP : va_P D vwCl (lwW cI cS cJ G o bm (N, O, M)) H) (hD : va_D A (lwW cI cS cJ G o bm (N, O, M))) (hS : va_S A s.heap H locs) {post : Ne → (Nat → Int64) → Md → Prop} (h : wp_law_22 xs i N O M post)
    (cont : ∀ (d' : Drawn) (N : Ne) (O : Nat → Int64) (M : Md) (H : Heap) (locs : List Loc) (ls : Array Slot), s.drawn.sameBut d' lw_cs → lv_has ls 9 [(0, .ref b), (1, .ref (G 2 0)), (2, .ref (bm 0)), (3, .ref o), (4, .int i)] → va_P D vwCl (lwW cI cS cJ G o bm (N, O, M)) H → va_D A (lwW cI cS cJ G o bm (N, O, M)) → va_S A s.heap H locs → post N O M → W p l e room_1 (s.setDrawn d') m args below meth c H locs (cs + 2) (ss + 12) Q (F0 m 1874 ls [])) :
    W p l e room_1 s m args below meth c H locs cs ss Q (F0 m 1468 ls []) := by
  obtain ⟨hst, FC, hK0, hV, hH, hX, hbl, hbA, hA⟩ := C
  have hx := FC.1
  have hb := FC.2.1
  have hown := FC.2.2.2.1
  have hts := FC.2.2.2.2
  have F := FC
  have hK := hK0
  unfold wp_law_22 at h
  refine lv_aload_n hx hb dL_law_1468 rfl (lv_at hl 1 rfl) ?_
  refine W.base ?_
  have hd0 := Drawn.sameBut.refl s.drawn lw_cs
  refine rwVd hd0 (wr := lwNr cI cJ o bm (O, M)) (As := []) (rest := []) lwN_f F (c_X3_deliveredShare l D cI cS cJ G N H.size  h) (cw_L_181 hts (Nat.le_of_ble_eq_true rfl) (Nat.le_of_ble_eq_true rfl)) hK hP hD hS hA (recv (ci := 3) (k0 := 1) hK hP rfl rfl) rfl hl.1 rfl (Nat.le_of_ble_eq_true rfl) dL_law_1469 ⟨show cs + 0 ≤ 601024 by omega, show ss + 0 ≤ 7293034 by omega⟩ (fun r1 u2 H locs d1 hd1 h hP hD hS => ?_)
  have F : CallFix p m c code 9 (s.setDrawn d1) args wsT RL := ⟨FC.1, FC.2.1, FC.2.2.1, FC.2.2.2.1, dr_words FC.2.2.2.2 _⟩
  have hts : ∀ w ∈ wsT, w.before args (s.setDrawn d1) = true := dr_words FC.2.2.2.2 _
  have hK : KK D (tysA cI cS cJ) (s.setDrawn d1) := KK.drawn hK0 _
  have hP : va_P D vwCl (lwW cI cS cJ G o bm (u2, O, M)) H := vP_perm (lwN_b u2) hP
  have hD : va_D A (lwW cI cS cJ G o bm (u2, O, M)) := vD_perm (lwN_b u2) hD
  refine lv_dstore (lv' := [(5, .double r1), (0, .ref b), (1, .ref (G 2 0)), (2, .ref (bm 0)), (3, .ref o), (4, .int i)]) hx hb dL_law_1472 hl (by decide) rfl (fun ls hl => ?_)
  refine lv_aload_n hx hb dL_law_1474 rfl (lv_at hl 3 rfl) ?_
  refine rwVd hd1 (wr := lwMr cI cS cJ G o (u2, O)) (As := []) (rest := []) lwM_f F (c_X4_deliveredShare l D cI cS cJ bm M H.size  h) (cw_L_185 hts (Nat.le_of_ble_eq_true rfl) (Nat.le_of_ble_eq_true rfl)) hK hP hD hS hA (recv (ci := 4) (k0 := 69) hK hP rfl rfl) rfl hl.1 rfl (Nat.le_of_ble_eq_true rfl) dL_law_1475 ⟨show (cs + 0) + 0 ≤ 601024 by omega, show (ss + 0) + 0 ≤ 7293034 by omega⟩ (fun r3 u4 H locs d2 hd2 h hP hD hS => ?_)
  have F : CallFix p m c code 9 (s.setDrawn d2) args wsT RL := ⟨FC.1, FC.2.1, FC.2.2.1, FC.2.2.2.1, dr_words FC.2.2.2.2 _⟩
  have hts : ∀ w ∈ wsT, w.before args (s.setDrawn d2) = true := dr_words FC.2.2.2.2 _
  have hK : KK D (tysA cI cS cJ) (s.setDrawn d2) := KK.drawn hK0 _
  have hP : va_P D vwCl (lwW cI cS cJ G o bm (u2, O, u4)) H := vP_perm (lwM_b u4) hP
  have hD : va_D A (lwW cI cS cJ G o bm (u2, O, u4)) := vD_perm (lwM_b u4) hD
  refine lv_dstore (lv' := [(7, .double r3), (5, .double r1), (0, .ref b), (1, .ref (G 2 0)), (2, .ref (bm 0)), (3, .ref o), (4, .int i)]) hx hb dL_law_1478 hl (by decide) rfl (fun ls hl => ?_)
  refine lv_dload hx hb dL_law_1480 (lv_at hl 1 rfl) ?_
  refine lv_dload hx hb dL_law_1482 (lv_at hl 0 rfl) ?_
  refine lv_dcmp hx hb dL_law_1484 ?_
  refine lv_if_eq (tgt := 1506) hx hb dL_law_1485 (by decide) (fun c5 => ?_) (fun c5 => ?_)
  · replace h := h.1 c5
    refine lv_goto (tgt := 1874) hx hb dL_law_1506 (by decide) ?_
    refine W.widen (k := cs + 2) (n := ss + 12) (by omega) (by omega) ?_
    exact cont d2 _ _ _ _ _ _ hd2 (lv_sub hl [2, 3, 4, 5, 6] rfl) hP hD hS h
  · replace h := h.2 c5
    refine lv_dload hx hb dL_law_1488 (lv_at hl 1 rfl) ?_
    refine lv_dload hx hb dL_law_1490 (lv_at hl 1 rfl) ?_
    refine lv_dcmp hx hb dL_law_1492 ?_
    refine lv_if_eq (tgt := 1504) hx hb dL_law_1493 (by decide) (fun c6 => ?_) (fun c6 => ?_)
    · replace h := h.1 c6
      refine lv_iconst (v := (0 : Int32)) hx hb dL_law_1504 (by decide) ?_
      exact h.elim
    · replace h := h.2 c6
      refine lv_dload hx hb dL_law_1496 (lv_at hl 0 rfl) ?_
      refine lv_dload hx hb dL_law_1498 (lv_at hl 0 rfl) ?_
      refine lv_dcmp hx hb dL_law_1500 ?_
      refine lv_if_ne (tgt := 1506) hx hb dL_law_1501 (by decide) (fun c7 => ?_) (fun c7 => ?_)
      · replace h := h.1 c7
        refine lv_goto (tgt := 1874) hx hb dL_law_1506 (by decide) ?_
        refine W.widen (k := cs + 2) (n := ss + 12) (by omega) (by omega) ?_
        exact cont d2 _ _ _ _ _ _ hd2 (lv_sub hl [2, 3, 4, 5, 6] rfl) hP hD hS h
      · replace h := h.2 c7
        refine lv_iconst (v := (0 : Int32)) hx hb dL_law_1504 (by decide) ?_
        exact h.elim

def wp_law_23 (xs : Nat → Int32) (i : Int32) (N : Ne) (O : Nat → Int64) (M : Md) (post : Ne → (Nat → Int64) → Md → Prop) : Prop :=
  wp_L_lostIfClosed (N, O) (xs (Int32.toNatClampNeg (i + (1 : Int32)))) (fun r1 u2 => wp_X4_lostIfClosed M (xs (Int32.toNatClampNeg (i + (1 : Int32)))) (fun r3 u4 => wp_X4_thrown u4 (fun r5 => (r5 = r1 → (¬ r1 = 0 → post u2.1 u2.2 u4) ∧ (r1 = 0 → ((lg_cmp (u2.2 (Int32.toNatClampNeg (0 : Int32))) (Int32.toInt64 r3)) = 0 → post u2.1 u2.2 u4) ∧ (¬ (lg_cmp (u2.2 (Int32.toNatClampNeg (0 : Int32))) (Int32.toInt64 r3)) = 0 → False))) ∧ (¬ r5 = r1 → False))))
set_option maxHeartbeats 4000000 in
set_option maxRecDepth 100000 in
theorem c_law_23 {p : Program} {l : Launch} {e : Env} {s : State} {m : MethodId} {args : Array Value} {below : List Frame} {meth : Method} {c : Code} {Q : State → Prop} {A : Nat → Prop} {D : va_G} {cI cS cJ : ClassId} {G : Nat → Nat → Nat} {o : Nat} {bm : Nat → Nat} {b L cs ss : Nat} {xs : Nat → Int32} {i : Int32} {N : Ne} {O : Nat → Int64} {M : Md} {H : Heap} {locs : List Loc} {ls : Array Slot} (C : lwC p l s m args c A D cI cS cJ b L xs) (hi0 : vp_in i L) (hi1 : vp_in (i + 1) L) (hi2 : vp_in (i + 2) L) (hi3 : vp_in (i + 3) L) (hi4 : vp_in (i + 4) L) (hcs : cs + 2 ≤ 601024) (hss : ss + 12 ≤ 7293034) (hl : lv_has ls 9 [(0, .ref b), (1, .ref (G 2 0)), (2, .ref (bm 0)), (3, .ref o), (4, .int i)]) (hP : va_P D vwCl (lwW cI cS cJ G o bm (N, O, M)) H) (hD : va_D A (lwW cI cS cJ G o bm (N, O, M))) (hS : va_S A s.heap H locs) {post : Ne → (Nat → Int64) → Md → Prop} (h : wp_law_23 xs i N O M post)
    (cont : ∀ (d' : Drawn) (N : Ne) (O : Nat → Int64) (M : Md) (H : Heap) (locs : List Loc) (ls : Array Slot), s.drawn.sameBut d' lw_cs → lv_has ls 9 [(0, .ref b), (1, .ref (G 2 0)), (2, .ref (bm 0)), (3, .ref o), (4, .int i)] → va_P D vwCl (lwW cI cS cJ G o bm (N, O, M)) H → va_D A (lwW cI cS cJ G o bm (N, O, M)) → va_S A s.heap H locs → post N O M → W p l e room_1 (s.setDrawn d') m args below meth c H locs (cs + 2) (ss + 12) Q (F0 m 1874 ls [])) :
    W p l e room_1 s m args below meth c H locs cs ss Q (F0 m 1509 ls []) := by
  obtain ⟨hst, FC, hK0, hV, hH, hX, hbl, hbA, hA⟩ := C
  have hx := FC.1
  have hb := FC.2.1
  have hown := FC.2.2.2.1
  have hts := FC.2.2.2.2
  have F := FC
  have hK := hK0
  unfold wp_law_23 at h
  refine lv_aload_n hx hb dL_law_1509 rfl (lv_at hl 1 rfl) ?_
  refine lv_aload_n hx hb dL_law_1510 rfl (lv_at hl 0 rfl) ?_
  refine lv_iload hx hb dL_law_1511 (lv_at hl 4 rfl) ?_
  refine lv_iconst (v := (1 : Int32)) hx hb dL_law_1513 (by decide) ?_
  refine lv_iadd hx hb dL_law_1514 ?_
  refine va_sld hx hb hX hbl hbA hS hi1 dL_law_1515 ?_
  refine lv_aload_n hx hb dL_law_1516 rfl (lv_at hl 3 rfl) ?_
  refine rwHi (wr := mdW cI bm M) (As := [.ref (G 2 0), .int (xs (Int32.toNatClampNeg (i + (1 : Int32)))), .ref o]) (rest := []) lwH_f F (c_L_lostIfClosed l hst D cI cS cJ G o (N, O) H.size (xs (Int32.toNatClampNeg (i + (1 : Int32)))) h) (cwH_lostIfClosed hts (Nat.le_of_ble_eq_true rfl) (Nat.le_of_ble_eq_true rfl)) hK hV hH hP hD hS hA rfl hl.1 rfl (Nat.le_of_ble_eq_true rfl) dL_law_1517 ⟨show cs + 1 ≤ 601024 by omega, show ss + 6 ≤ 7293034 by omega⟩ (fun r1 u2 H locs h hP hD hS => ?_)
  have hP : va_P D vwCl (lwW cI cS cJ G o bm (u2.1, u2.2, M)) H := vP_perm lwH_b hP
  have hD : va_D A (lwW cI cS cJ G o bm (u2.1, u2.2, M)) := vD_perm lwH_b hD
  refine lv_istore (lv' := [(5, .int r1), (0, .ref b), (1, .ref (G 2 0)), (2, .ref (bm 0)), (3, .ref o), (4, .int i)]) hx hb dL_law_1520 hl (by decide) rfl (fun ls hl => ?_)
  refine lv_aload_n hx hb dL_law_1522 rfl (lv_at hl 3 rfl) ?_
  refine lv_aload_n hx hb dL_law_1523 rfl (lv_at hl 1 rfl) ?_
  refine lv_iload hx hb dL_law_1524 (lv_at hl 5 rfl) ?_
  refine lv_iconst (v := (1 : Int32)) hx hb dL_law_1526 (by decide) ?_
  refine lv_iadd hx hb dL_law_1527 ?_
  refine va_sld hx hb hX hbl hbA hS hi1 dL_law_1528 ?_
  refine rwVi (wr := lwMr cI cS cJ G o (u2.1, u2.2)) (As := [.int (xs (Int32.toNatClampNeg (i + (1 : Int32))))]) (rest := []) lwM_f F (c_X4_lostIfClosed l D cI cS cJ bm M H.size (xs (Int32.toNatClampNeg (i + (1 : Int32)))) h) (cw_L_188 hts (Nat.le_of_ble_eq_true rfl) (Nat.le_of_ble_eq_true rfl)) hK hP hD hS hA (recv (ci := 4) (k0 := 69) hK hP rfl rfl) rfl hl.1 rfl (Nat.le_of_ble_eq_true rfl) dL_law_1529 ⟨show (cs + 1) + 0 ≤ 601024 by omega, show (ss + 6) + 0 ≤ 7293034 by omega⟩ (fun r3 u4 H locs h hP hD hS => ?_)
  have hP : va_P D vwCl (lwW cI cS cJ G o bm (u2.1, u2.2, u4)) H := vP_perm (lwM_b u4) hP
  have hD : va_D A (lwW cI cS cJ G o bm (u2.1, u2.2, u4)) := vD_perm (lwM_b u4) hD
  refine lv_istore (lv' := [(6, .int r3), (5, .int r1), (0, .ref b), (1, .ref (G 2 0)), (2, .ref (bm 0)), (3, .ref o), (4, .int i)]) hx hb dL_law_1532 hl (by decide) rfl (fun ls hl => ?_)
  refine lv_aload_n hx hb dL_law_1534 rfl (lv_at hl 4 rfl) ?_
  refine roVi (As := []) (rest := []) F (c_X4_thrown l D cI cS cJ bm u4 H  h) (cw_L_107 hts (Nat.le_of_ble_eq_true rfl) (Nat.le_of_ble_eq_true rfl)) hK (vP_L (vP_perm lwM_f hP)) (recv (ci := 4) (k0 := 69) hK hP rfl rfl) rfl hl.1 rfl (Nat.le_of_ble_eq_true rfl) dL_law_1535 ⟨show ((cs + 1) + 0) + 0 ≤ 601024 by omega, show ((ss + 6) + 0) + 0 ≤ 7293034 by omega⟩ (fun r5 h => ?_)
  refine lv_iload hx hb dL_law_1538 (lv_at hl 1 rfl) ?_
  refine lv_icmp_eq (tgt := 1545) hx hb dL_law_1540 (by decide) (fun c6 => ?_) (fun c6 => ?_)
  · replace h := h.1 c6
    refine lv_iload hx hb dL_law_1545 (lv_at hl 1 rfl) ?_
    refine lv_if_ne (tgt := 1562) hx hb dL_law_1547 (by decide) (fun c7 => ?_) (fun c7 => ?_)
    · replace h := h.1 c7
      refine lv_goto (tgt := 1874) hx hb dL_law_1562 (by decide) ?_
      refine W.widen (k := cs + 2) (n := ss + 12) (by omega) (by omega) ?_
      exact cont s.drawn _ _ _ _ _ _ (Drawn.sameBut.refl _ _) (lv_sub hl [2, 3, 4, 5, 6] rfl) hP hD hS h
    · replace h := h.2 c7
      refine lv_aload_n hx hb dL_law_1550 rfl (lv_at hl 5 rfl) ?_
      refine lv_iconst (v := (0 : Int32)) hx hb dL_law_1551 (by decide) ?_
      refine va_lald hx hb hK.k hP 0 2 rfl rfl in01 dL_law_1552 ?_
      refine lv_iload hx hb dL_law_1553 (lv_at hl 0 rfl) ?_
      refine lv_i2l (v := (Int32.toInt64 r3)) hx hb dL_law_1555 rfl ?_
      refine W.lcmp hx hb dL_law_1556 ?_
      refine lv_if_eq (tgt := 1562) hx hb dL_law_1557 (by decide) (fun c8 => ?_) (fun c8 => ?_)
      · replace h := h.1 c8
        refine lv_goto (tgt := 1874) hx hb dL_law_1562 (by decide) ?_
        refine W.widen (k := cs + 2) (n := ss + 12) (by omega) (by omega) ?_
        exact cont s.drawn _ _ _ _ _ _ (Drawn.sameBut.refl _ _) (lv_sub hl [2, 3, 4, 5, 6] rfl) hP hD hS h
      · replace h := h.2 c8
        refine lv_iconst (v := (0 : Int32)) hx hb dL_law_1560 (by decide) ?_
        exact h.elim
  · replace h := h.2 c6
    refine lv_iconst (v := (0 : Int32)) hx hb dL_law_1543 (by decide) ?_
    exact h.elim

def wp_law_24 (xs : Nat → Int32) (i : Int32) (N : Ne) (O : Nat → Int64) (M : Md) (post : Ne → (Nat → Int64) → Md → Prop) : Prop :=
  wp_L_ticksTo (N, O) (xs (Int32.toNatClampNeg (i + (1 : Int32)))) (fun r1 u2 => wp_X4_ticksTo M (xs (Int32.toNatClampNeg (i + (1 : Int32)))) (fun r3 u4 => wp_X4_thrown u4 (fun r5 => (r5 = r1 → (¬ r1 = 0 → post u2.1 u2.2 u4) ∧ (r1 = 0 → ((lg_cmp (u2.2 (Int32.toNatClampNeg (0 : Int32))) (Int32.toInt64 r3)) = 0 → post u2.1 u2.2 u4) ∧ (¬ (lg_cmp (u2.2 (Int32.toNatClampNeg (0 : Int32))) (Int32.toInt64 r3)) = 0 → False))) ∧ (¬ r5 = r1 → False))))
set_option maxHeartbeats 4000000 in
set_option maxRecDepth 100000 in
theorem c_law_24 {p : Program} {l : Launch} {e : Env} {s : State} {m : MethodId} {args : Array Value} {below : List Frame} {meth : Method} {c : Code} {Q : State → Prop} {A : Nat → Prop} {D : va_G} {cI cS cJ : ClassId} {G : Nat → Nat → Nat} {o : Nat} {bm : Nat → Nat} {b L cs ss : Nat} {xs : Nat → Int32} {i : Int32} {N : Ne} {O : Nat → Int64} {M : Md} {H : Heap} {locs : List Loc} {ls : Array Slot} (C : lwC p l s m args c A D cI cS cJ b L xs) (hi0 : vp_in i L) (hi1 : vp_in (i + 1) L) (hi2 : vp_in (i + 2) L) (hi3 : vp_in (i + 3) L) (hi4 : vp_in (i + 4) L) (hcs : cs + 2 ≤ 601024) (hss : ss + 12 ≤ 7293034) (hl : lv_has ls 9 [(0, .ref b), (1, .ref (G 2 0)), (2, .ref (bm 0)), (3, .ref o), (4, .int i)]) (hP : va_P D vwCl (lwW cI cS cJ G o bm (N, O, M)) H) (hD : va_D A (lwW cI cS cJ G o bm (N, O, M))) (hS : va_S A s.heap H locs) {post : Ne → (Nat → Int64) → Md → Prop} (h : wp_law_24 xs i N O M post)
    (cont : ∀ (d' : Drawn) (N : Ne) (O : Nat → Int64) (M : Md) (H : Heap) (locs : List Loc) (ls : Array Slot), s.drawn.sameBut d' lw_cs → lv_has ls 9 [(0, .ref b), (1, .ref (G 2 0)), (2, .ref (bm 0)), (3, .ref o), (4, .int i)] → va_P D vwCl (lwW cI cS cJ G o bm (N, O, M)) H → va_D A (lwW cI cS cJ G o bm (N, O, M)) → va_S A s.heap H locs → post N O M → W p l e room_1 (s.setDrawn d') m args below meth c H locs (cs + 2) (ss + 12) Q (F0 m 1874 ls [])) :
    W p l e room_1 s m args below meth c H locs cs ss Q (F0 m 1565 ls []) := by
  obtain ⟨hst, FC, hK0, hV, hH, hX, hbl, hbA, hA⟩ := C
  have hx := FC.1
  have hb := FC.2.1
  have hown := FC.2.2.2.1
  have hts := FC.2.2.2.2
  have F := FC
  have hK := hK0
  unfold wp_law_24 at h
  refine lv_aload_n hx hb dL_law_1565 rfl (lv_at hl 1 rfl) ?_
  refine lv_aload_n hx hb dL_law_1566 rfl (lv_at hl 0 rfl) ?_
  refine lv_iload hx hb dL_law_1567 (lv_at hl 4 rfl) ?_
  refine lv_iconst (v := (1 : Int32)) hx hb dL_law_1569 (by decide) ?_
  refine lv_iadd hx hb dL_law_1570 ?_
  refine va_sld hx hb hX hbl hbA hS hi1 dL_law_1571 ?_
  refine lv_aload_n hx hb dL_law_1572 rfl (lv_at hl 3 rfl) ?_
  refine rwHi (wr := mdW cI bm M) (As := [.ref (G 2 0), .int (xs (Int32.toNatClampNeg (i + (1 : Int32)))), .ref o]) (rest := []) lwH_f F (c_L_ticksTo l hst D cI cS cJ G o (N, O) H.size (xs (Int32.toNatClampNeg (i + (1 : Int32)))) h) (cwH_ticksTo hts (Nat.le_of_ble_eq_true rfl) (Nat.le_of_ble_eq_true rfl)) hK hV hH hP hD hS hA rfl hl.1 rfl (Nat.le_of_ble_eq_true rfl) dL_law_1573 ⟨show cs + 1 ≤ 601024 by omega, show ss + 6 ≤ 7293034 by omega⟩ (fun r1 u2 H locs h hP hD hS => ?_)
  have hP : va_P D vwCl (lwW cI cS cJ G o bm (u2.1, u2.2, M)) H := vP_perm lwH_b hP
  have hD : va_D A (lwW cI cS cJ G o bm (u2.1, u2.2, M)) := vD_perm lwH_b hD
  refine lv_istore (lv' := [(5, .int r1), (0, .ref b), (1, .ref (G 2 0)), (2, .ref (bm 0)), (3, .ref o), (4, .int i)]) hx hb dL_law_1576 hl (by decide) rfl (fun ls hl => ?_)
  refine lv_aload_n hx hb dL_law_1578 rfl (lv_at hl 3 rfl) ?_
  refine lv_aload_n hx hb dL_law_1579 rfl (lv_at hl 1 rfl) ?_
  refine lv_iload hx hb dL_law_1580 (lv_at hl 5 rfl) ?_
  refine lv_iconst (v := (1 : Int32)) hx hb dL_law_1582 (by decide) ?_
  refine lv_iadd hx hb dL_law_1583 ?_
  refine va_sld hx hb hX hbl hbA hS hi1 dL_law_1584 ?_
  refine rwVi (wr := lwMr cI cS cJ G o (u2.1, u2.2)) (As := [.int (xs (Int32.toNatClampNeg (i + (1 : Int32))))]) (rest := []) lwM_f F (c_X4_ticksTo l D cI cS cJ bm M H.size (xs (Int32.toNatClampNeg (i + (1 : Int32)))) h) (cw_L_191 hts (Nat.le_of_ble_eq_true rfl) (Nat.le_of_ble_eq_true rfl)) hK hP hD hS hA (recv (ci := 4) (k0 := 69) hK hP rfl rfl) rfl hl.1 rfl (Nat.le_of_ble_eq_true rfl) dL_law_1585 ⟨show (cs + 1) + 0 ≤ 601024 by omega, show (ss + 6) + 0 ≤ 7293034 by omega⟩ (fun r3 u4 H locs h hP hD hS => ?_)
  have hP : va_P D vwCl (lwW cI cS cJ G o bm (u2.1, u2.2, u4)) H := vP_perm (lwM_b u4) hP
  have hD : va_D A (lwW cI cS cJ G o bm (u2.1, u2.2, u4)) := vD_perm (lwM_b u4) hD
  refine lv_istore (lv' := [(6, .int r3), (5, .int r1), (0, .ref b), (1, .ref (G 2 0)), (2, .ref (bm 0)), (3, .ref o), (4, .int i)]) hx hb dL_law_1588 hl (by decide) rfl (fun ls hl => ?_)
  refine lv_aload_n hx hb dL_law_1590 rfl (lv_at hl 4 rfl) ?_
  refine roVi (As := []) (rest := []) F (c_X4_thrown l D cI cS cJ bm u4 H  h) (cw_L_107 hts (Nat.le_of_ble_eq_true rfl) (Nat.le_of_ble_eq_true rfl)) hK (vP_L (vP_perm lwM_f hP)) (recv (ci := 4) (k0 := 69) hK hP rfl rfl) rfl hl.1 rfl (Nat.le_of_ble_eq_true rfl) dL_law_1591 ⟨show ((cs + 1) + 0) + 0 ≤ 601024 by omega, show ((ss + 6) + 0) + 0 ≤ 7293034 by omega⟩ (fun r5 h => ?_)
  refine lv_iload hx hb dL_law_1594 (lv_at hl 1 rfl) ?_
  refine lv_icmp_eq (tgt := 1601) hx hb dL_law_1596 (by decide) (fun c6 => ?_) (fun c6 => ?_)
  · replace h := h.1 c6
    refine lv_iload hx hb dL_law_1601 (lv_at hl 1 rfl) ?_
    refine lv_if_ne (tgt := 1618) hx hb dL_law_1603 (by decide) (fun c7 => ?_) (fun c7 => ?_)
    · replace h := h.1 c7
      refine lv_goto (tgt := 1874) hx hb dL_law_1618 (by decide) ?_
      refine W.widen (k := cs + 2) (n := ss + 12) (by omega) (by omega) ?_
      exact cont s.drawn _ _ _ _ _ _ (Drawn.sameBut.refl _ _) (lv_sub hl [2, 3, 4, 5, 6] rfl) hP hD hS h
    · replace h := h.2 c7
      refine lv_aload_n hx hb dL_law_1606 rfl (lv_at hl 5 rfl) ?_
      refine lv_iconst (v := (0 : Int32)) hx hb dL_law_1607 (by decide) ?_
      refine va_lald hx hb hK.k hP 0 2 rfl rfl in01 dL_law_1608 ?_
      refine lv_iload hx hb dL_law_1609 (lv_at hl 0 rfl) ?_
      refine lv_i2l (v := (Int32.toInt64 r3)) hx hb dL_law_1611 rfl ?_
      refine W.lcmp hx hb dL_law_1612 ?_
      refine lv_if_eq (tgt := 1618) hx hb dL_law_1613 (by decide) (fun c8 => ?_) (fun c8 => ?_)
      · replace h := h.1 c8
        refine lv_goto (tgt := 1874) hx hb dL_law_1618 (by decide) ?_
        refine W.widen (k := cs + 2) (n := ss + 12) (by omega) (by omega) ?_
        exact cont s.drawn _ _ _ _ _ _ (Drawn.sameBut.refl _ _) (lv_sub hl [2, 3, 4, 5, 6] rfl) hP hD hS h
      · replace h := h.2 c8
        refine lv_iconst (v := (0 : Int32)) hx hb dL_law_1616 (by decide) ?_
        exact h.elim
  · replace h := h.2 c6
    refine lv_iconst (v := (0 : Int32)) hx hb dL_law_1599 (by decide) ?_
    exact h.elim

def wp_law_25 (xs : Nat → Int32) (i : Int32) (N : Ne) (O : Nat → Int64) (M : Md) (post : Ne → (Nat → Int64) → Md → Prop) : Prop :=
  wp_L_leastWork (N, O) (xs (Int32.toNatClampNeg (i + (1 : Int32)))) (fun r1 u2 => wp_X4_leastWork M (xs (Int32.toNatClampNeg (i + (1 : Int32)))) (fun r3 u4 => wp_X4_thrown u4 (fun r5 => (r5 = r1 → (¬ r1 = 0 → post u2.1 u2.2 u4) ∧ (r1 = 0 → ((lg_cmp (u2.2 (Int32.toNatClampNeg (0 : Int32))) (Int32.toInt64 r3)) = 0 → post u2.1 u2.2 u4) ∧ (¬ (lg_cmp (u2.2 (Int32.toNatClampNeg (0 : Int32))) (Int32.toInt64 r3)) = 0 → False))) ∧ (¬ r5 = r1 → False))))
set_option maxHeartbeats 4000000 in
set_option maxRecDepth 100000 in
theorem c_law_25 {p : Program} {l : Launch} {e : Env} {s : State} {m : MethodId} {args : Array Value} {below : List Frame} {meth : Method} {c : Code} {Q : State → Prop} {A : Nat → Prop} {D : va_G} {cI cS cJ : ClassId} {G : Nat → Nat → Nat} {o : Nat} {bm : Nat → Nat} {b L cs ss : Nat} {xs : Nat → Int32} {i : Int32} {N : Ne} {O : Nat → Int64} {M : Md} {H : Heap} {locs : List Loc} {ls : Array Slot} (C : lwC p l s m args c A D cI cS cJ b L xs) (hi0 : vp_in i L) (hi1 : vp_in (i + 1) L) (hi2 : vp_in (i + 2) L) (hi3 : vp_in (i + 3) L) (hi4 : vp_in (i + 4) L) (hcs : cs + 2 ≤ 601024) (hss : ss + 12 ≤ 7293034) (hl : lv_has ls 9 [(0, .ref b), (1, .ref (G 2 0)), (2, .ref (bm 0)), (3, .ref o), (4, .int i)]) (hP : va_P D vwCl (lwW cI cS cJ G o bm (N, O, M)) H) (hD : va_D A (lwW cI cS cJ G o bm (N, O, M))) (hS : va_S A s.heap H locs) {post : Ne → (Nat → Int64) → Md → Prop} (h : wp_law_25 xs i N O M post)
    (cont : ∀ (d' : Drawn) (N : Ne) (O : Nat → Int64) (M : Md) (H : Heap) (locs : List Loc) (ls : Array Slot), s.drawn.sameBut d' lw_cs → lv_has ls 9 [(0, .ref b), (1, .ref (G 2 0)), (2, .ref (bm 0)), (3, .ref o), (4, .int i)] → va_P D vwCl (lwW cI cS cJ G o bm (N, O, M)) H → va_D A (lwW cI cS cJ G o bm (N, O, M)) → va_S A s.heap H locs → post N O M → W p l e room_1 (s.setDrawn d') m args below meth c H locs (cs + 2) (ss + 12) Q (F0 m 1874 ls [])) :
    W p l e room_1 s m args below meth c H locs cs ss Q (F0 m 1621 ls []) := by
  obtain ⟨hst, FC, hK0, hV, hH, hX, hbl, hbA, hA⟩ := C
  have hx := FC.1
  have hb := FC.2.1
  have hown := FC.2.2.2.1
  have hts := FC.2.2.2.2
  have F := FC
  have hK := hK0
  unfold wp_law_25 at h
  refine lv_aload_n hx hb dL_law_1621 rfl (lv_at hl 1 rfl) ?_
  refine lv_aload_n hx hb dL_law_1622 rfl (lv_at hl 0 rfl) ?_
  refine lv_iload hx hb dL_law_1623 (lv_at hl 4 rfl) ?_
  refine lv_iconst (v := (1 : Int32)) hx hb dL_law_1625 (by decide) ?_
  refine lv_iadd hx hb dL_law_1626 ?_
  refine va_sld hx hb hX hbl hbA hS hi1 dL_law_1627 ?_
  refine lv_aload_n hx hb dL_law_1628 rfl (lv_at hl 3 rfl) ?_
  refine rwHi (wr := mdW cI bm M) (As := [.ref (G 2 0), .int (xs (Int32.toNatClampNeg (i + (1 : Int32)))), .ref o]) (rest := []) lwH_f F (c_L_leastWork l hst D cI cS cJ G o (N, O) H.size (xs (Int32.toNatClampNeg (i + (1 : Int32)))) h) (cwH_leastWork hts (Nat.le_of_ble_eq_true rfl) (Nat.le_of_ble_eq_true rfl)) hK hV hH hP hD hS hA rfl hl.1 rfl (Nat.le_of_ble_eq_true rfl) dL_law_1629 ⟨show cs + 1 ≤ 601024 by omega, show ss + 6 ≤ 7293034 by omega⟩ (fun r1 u2 H locs h hP hD hS => ?_)
  have hP : va_P D vwCl (lwW cI cS cJ G o bm (u2.1, u2.2, M)) H := vP_perm lwH_b hP
  have hD : va_D A (lwW cI cS cJ G o bm (u2.1, u2.2, M)) := vD_perm lwH_b hD
  refine lv_istore (lv' := [(5, .int r1), (0, .ref b), (1, .ref (G 2 0)), (2, .ref (bm 0)), (3, .ref o), (4, .int i)]) hx hb dL_law_1632 hl (by decide) rfl (fun ls hl => ?_)
  refine lv_aload_n hx hb dL_law_1634 rfl (lv_at hl 3 rfl) ?_
  refine lv_aload_n hx hb dL_law_1635 rfl (lv_at hl 1 rfl) ?_
  refine lv_iload hx hb dL_law_1636 (lv_at hl 5 rfl) ?_
  refine lv_iconst (v := (1 : Int32)) hx hb dL_law_1638 (by decide) ?_
  refine lv_iadd hx hb dL_law_1639 ?_
  refine va_sld hx hb hX hbl hbA hS hi1 dL_law_1640 ?_
  refine rwVi (wr := lwMr cI cS cJ G o (u2.1, u2.2)) (As := [.int (xs (Int32.toNatClampNeg (i + (1 : Int32))))]) (rest := []) lwM_f F (c_X4_leastWork l D cI cS cJ bm M H.size (xs (Int32.toNatClampNeg (i + (1 : Int32)))) h) (cw_L_194 hts (Nat.le_of_ble_eq_true rfl) (Nat.le_of_ble_eq_true rfl)) hK hP hD hS hA (recv (ci := 4) (k0 := 69) hK hP rfl rfl) rfl hl.1 rfl (Nat.le_of_ble_eq_true rfl) dL_law_1641 ⟨show (cs + 1) + 0 ≤ 601024 by omega, show (ss + 6) + 0 ≤ 7293034 by omega⟩ (fun r3 u4 H locs h hP hD hS => ?_)
  have hP : va_P D vwCl (lwW cI cS cJ G o bm (u2.1, u2.2, u4)) H := vP_perm (lwM_b u4) hP
  have hD : va_D A (lwW cI cS cJ G o bm (u2.1, u2.2, u4)) := vD_perm (lwM_b u4) hD
  refine lv_istore (lv' := [(6, .int r3), (5, .int r1), (0, .ref b), (1, .ref (G 2 0)), (2, .ref (bm 0)), (3, .ref o), (4, .int i)]) hx hb dL_law_1644 hl (by decide) rfl (fun ls hl => ?_)
  refine lv_aload_n hx hb dL_law_1646 rfl (lv_at hl 4 rfl) ?_
  refine roVi (As := []) (rest := []) F (c_X4_thrown l D cI cS cJ bm u4 H  h) (cw_L_107 hts (Nat.le_of_ble_eq_true rfl) (Nat.le_of_ble_eq_true rfl)) hK (vP_L (vP_perm lwM_f hP)) (recv (ci := 4) (k0 := 69) hK hP rfl rfl) rfl hl.1 rfl (Nat.le_of_ble_eq_true rfl) dL_law_1647 ⟨show ((cs + 1) + 0) + 0 ≤ 601024 by omega, show ((ss + 6) + 0) + 0 ≤ 7293034 by omega⟩ (fun r5 h => ?_)
  refine lv_iload hx hb dL_law_1650 (lv_at hl 1 rfl) ?_
  refine lv_icmp_eq (tgt := 1657) hx hb dL_law_1652 (by decide) (fun c6 => ?_) (fun c6 => ?_)
  · replace h := h.1 c6
    refine lv_iload hx hb dL_law_1657 (lv_at hl 1 rfl) ?_
    refine lv_if_ne (tgt := 1674) hx hb dL_law_1659 (by decide) (fun c7 => ?_) (fun c7 => ?_)
    · replace h := h.1 c7
      refine lv_goto (tgt := 1874) hx hb dL_law_1674 (by decide) ?_
      refine W.widen (k := cs + 2) (n := ss + 12) (by omega) (by omega) ?_
      exact cont s.drawn _ _ _ _ _ _ (Drawn.sameBut.refl _ _) (lv_sub hl [2, 3, 4, 5, 6] rfl) hP hD hS h
    · replace h := h.2 c7
      refine lv_aload_n hx hb dL_law_1662 rfl (lv_at hl 5 rfl) ?_
      refine lv_iconst (v := (0 : Int32)) hx hb dL_law_1663 (by decide) ?_
      refine va_lald hx hb hK.k hP 0 2 rfl rfl in01 dL_law_1664 ?_
      refine lv_iload hx hb dL_law_1665 (lv_at hl 0 rfl) ?_
      refine lv_i2l (v := (Int32.toInt64 r3)) hx hb dL_law_1667 rfl ?_
      refine W.lcmp hx hb dL_law_1668 ?_
      refine lv_if_eq (tgt := 1674) hx hb dL_law_1669 (by decide) (fun c8 => ?_) (fun c8 => ?_)
      · replace h := h.1 c8
        refine lv_goto (tgt := 1874) hx hb dL_law_1674 (by decide) ?_
        refine W.widen (k := cs + 2) (n := ss + 12) (by omega) (by omega) ?_
        exact cont s.drawn _ _ _ _ _ _ (Drawn.sameBut.refl _ _) (lv_sub hl [2, 3, 4, 5, 6] rfl) hP hD hS h
      · replace h := h.2 c8
        refine lv_iconst (v := (0 : Int32)) hx hb dL_law_1672 (by decide) ?_
        exact h.elim
  · replace h := h.2 c6
    refine lv_iconst (v := (0 : Int32)) hx hb dL_law_1655 (by decide) ?_
    exact h.elim

def wp_law_26 (xs : Nat → Int32) (i : Int32) (N : Ne) (O : Nat → Int64) (M : Md) (post : Ne → (Nat → Int64) → Md → Prop) : Prop :=
  wp_L_append (N, O) (xs (Int32.toNatClampNeg (i + (1 : Int32)))) (fun r1 u2 => wp_X4_append M (xs (Int32.toNatClampNeg (i + (1 : Int32)))) (fun r3 u4 => wp_X4_thrown u4 (fun r5 => (r5 = r1 → (¬ r1 = 0 → post u2.1 u2.2 u4) ∧ (r1 = 0 → ((lg_cmp (u2.2 (Int32.toNatClampNeg (0 : Int32))) (Int32.toInt64 r3)) = 0 → post u2.1 u2.2 u4) ∧ (¬ (lg_cmp (u2.2 (Int32.toNatClampNeg (0 : Int32))) (Int32.toInt64 r3)) = 0 → False))) ∧ (¬ r5 = r1 → False))))
set_option maxHeartbeats 4000000 in
set_option maxRecDepth 100000 in
theorem c_law_26 {p : Program} {l : Launch} {e : Env} {s : State} {m : MethodId} {args : Array Value} {below : List Frame} {meth : Method} {c : Code} {Q : State → Prop} {A : Nat → Prop} {D : va_G} {cI cS cJ : ClassId} {G : Nat → Nat → Nat} {o : Nat} {bm : Nat → Nat} {b L cs ss : Nat} {xs : Nat → Int32} {i : Int32} {N : Ne} {O : Nat → Int64} {M : Md} {H : Heap} {locs : List Loc} {ls : Array Slot} (C : lwC p l s m args c A D cI cS cJ b L xs) (hi0 : vp_in i L) (hi1 : vp_in (i + 1) L) (hi2 : vp_in (i + 2) L) (hi3 : vp_in (i + 3) L) (hi4 : vp_in (i + 4) L) (hcs : cs + 2 ≤ 601024) (hss : ss + 12 ≤ 7293034) (hl : lv_has ls 9 [(0, .ref b), (1, .ref (G 2 0)), (2, .ref (bm 0)), (3, .ref o), (4, .int i)]) (hP : va_P D vwCl (lwW cI cS cJ G o bm (N, O, M)) H) (hD : va_D A (lwW cI cS cJ G o bm (N, O, M))) (hS : va_S A s.heap H locs) {post : Ne → (Nat → Int64) → Md → Prop} (h : wp_law_26 xs i N O M post)
    (cont : ∀ (d' : Drawn) (N : Ne) (O : Nat → Int64) (M : Md) (H : Heap) (locs : List Loc) (ls : Array Slot), s.drawn.sameBut d' lw_cs → lv_has ls 9 [(0, .ref b), (1, .ref (G 2 0)), (2, .ref (bm 0)), (3, .ref o), (4, .int i)] → va_P D vwCl (lwW cI cS cJ G o bm (N, O, M)) H → va_D A (lwW cI cS cJ G o bm (N, O, M)) → va_S A s.heap H locs → post N O M → W p l e room_1 (s.setDrawn d') m args below meth c H locs (cs + 2) (ss + 12) Q (F0 m 1874 ls [])) :
    W p l e room_1 s m args below meth c H locs cs ss Q (F0 m 1677 ls []) := by
  obtain ⟨hst, FC, hK0, hV, hH, hX, hbl, hbA, hA⟩ := C
  have hx := FC.1
  have hb := FC.2.1
  have hown := FC.2.2.2.1
  have hts := FC.2.2.2.2
  have F := FC
  have hK := hK0
  unfold wp_law_26 at h
  refine lv_aload_n hx hb dL_law_1677 rfl (lv_at hl 1 rfl) ?_
  refine lv_aload_n hx hb dL_law_1678 rfl (lv_at hl 0 rfl) ?_
  refine lv_iload hx hb dL_law_1679 (lv_at hl 4 rfl) ?_
  refine lv_iconst (v := (1 : Int32)) hx hb dL_law_1681 (by decide) ?_
  refine lv_iadd hx hb dL_law_1682 ?_
  refine va_sld hx hb hX hbl hbA hS hi1 dL_law_1683 ?_
  refine lv_aload_n hx hb dL_law_1684 rfl (lv_at hl 3 rfl) ?_
  refine rwHi (wr := mdW cI bm M) (As := [.ref (G 2 0), .int (xs (Int32.toNatClampNeg (i + (1 : Int32)))), .ref o]) (rest := []) lwH_f F (c_L_append l hst D cI cS cJ G o (N, O) H.size (xs (Int32.toNatClampNeg (i + (1 : Int32)))) h) (cwH_append hts (Nat.le_of_ble_eq_true rfl) (Nat.le_of_ble_eq_true rfl)) hK hV hH hP hD hS hA rfl hl.1 rfl (Nat.le_of_ble_eq_true rfl) dL_law_1685 ⟨show cs + 1 ≤ 601024 by omega, show ss + 6 ≤ 7293034 by omega⟩ (fun r1 u2 H locs h hP hD hS => ?_)
  have hP : va_P D vwCl (lwW cI cS cJ G o bm (u2.1, u2.2, M)) H := vP_perm lwH_b hP
  have hD : va_D A (lwW cI cS cJ G o bm (u2.1, u2.2, M)) := vD_perm lwH_b hD
  refine lv_istore (lv' := [(5, .int r1), (0, .ref b), (1, .ref (G 2 0)), (2, .ref (bm 0)), (3, .ref o), (4, .int i)]) hx hb dL_law_1688 hl (by decide) rfl (fun ls hl => ?_)
  refine lv_aload_n hx hb dL_law_1690 rfl (lv_at hl 3 rfl) ?_
  refine lv_aload_n hx hb dL_law_1691 rfl (lv_at hl 1 rfl) ?_
  refine lv_iload hx hb dL_law_1692 (lv_at hl 5 rfl) ?_
  refine lv_iconst (v := (1 : Int32)) hx hb dL_law_1694 (by decide) ?_
  refine lv_iadd hx hb dL_law_1695 ?_
  refine va_sld hx hb hX hbl hbA hS hi1 dL_law_1696 ?_
  refine rwVi (wr := lwMr cI cS cJ G o (u2.1, u2.2)) (As := [.int (xs (Int32.toNatClampNeg (i + (1 : Int32))))]) (rest := []) lwM_f F (c_X4_append l D cI cS cJ bm M H.size (xs (Int32.toNatClampNeg (i + (1 : Int32)))) h) (cw_L_197 hts (Nat.le_of_ble_eq_true rfl) (Nat.le_of_ble_eq_true rfl)) hK hP hD hS hA (recv (ci := 4) (k0 := 69) hK hP rfl rfl) rfl hl.1 rfl (Nat.le_of_ble_eq_true rfl) dL_law_1697 ⟨show (cs + 1) + 0 ≤ 601024 by omega, show (ss + 6) + 0 ≤ 7293034 by omega⟩ (fun r3 u4 H locs h hP hD hS => ?_)
  have hP : va_P D vwCl (lwW cI cS cJ G o bm (u2.1, u2.2, u4)) H := vP_perm (lwM_b u4) hP
  have hD : va_D A (lwW cI cS cJ G o bm (u2.1, u2.2, u4)) := vD_perm (lwM_b u4) hD
  refine lv_istore (lv' := [(6, .int r3), (5, .int r1), (0, .ref b), (1, .ref (G 2 0)), (2, .ref (bm 0)), (3, .ref o), (4, .int i)]) hx hb dL_law_1700 hl (by decide) rfl (fun ls hl => ?_)
  refine lv_aload_n hx hb dL_law_1702 rfl (lv_at hl 4 rfl) ?_
  refine roVi (As := []) (rest := []) F (c_X4_thrown l D cI cS cJ bm u4 H  h) (cw_L_107 hts (Nat.le_of_ble_eq_true rfl) (Nat.le_of_ble_eq_true rfl)) hK (vP_L (vP_perm lwM_f hP)) (recv (ci := 4) (k0 := 69) hK hP rfl rfl) rfl hl.1 rfl (Nat.le_of_ble_eq_true rfl) dL_law_1703 ⟨show ((cs + 1) + 0) + 0 ≤ 601024 by omega, show ((ss + 6) + 0) + 0 ≤ 7293034 by omega⟩ (fun r5 h => ?_)
  refine lv_iload hx hb dL_law_1706 (lv_at hl 1 rfl) ?_
  refine lv_icmp_eq (tgt := 1713) hx hb dL_law_1708 (by decide) (fun c6 => ?_) (fun c6 => ?_)
  · replace h := h.1 c6
    refine lv_iload hx hb dL_law_1713 (lv_at hl 1 rfl) ?_
    refine lv_if_ne (tgt := 1730) hx hb dL_law_1715 (by decide) (fun c7 => ?_) (fun c7 => ?_)
    · replace h := h.1 c7
      refine lv_goto (tgt := 1874) hx hb dL_law_1730 (by decide) ?_
      refine W.widen (k := cs + 2) (n := ss + 12) (by omega) (by omega) ?_
      exact cont s.drawn _ _ _ _ _ _ (Drawn.sameBut.refl _ _) (lv_sub hl [2, 3, 4, 5, 6] rfl) hP hD hS h
    · replace h := h.2 c7
      refine lv_aload_n hx hb dL_law_1718 rfl (lv_at hl 5 rfl) ?_
      refine lv_iconst (v := (0 : Int32)) hx hb dL_law_1719 (by decide) ?_
      refine va_lald hx hb hK.k hP 0 2 rfl rfl in01 dL_law_1720 ?_
      refine lv_iload hx hb dL_law_1721 (lv_at hl 0 rfl) ?_
      refine lv_i2l (v := (Int32.toInt64 r3)) hx hb dL_law_1723 rfl ?_
      refine W.lcmp hx hb dL_law_1724 ?_
      refine lv_if_eq (tgt := 1730) hx hb dL_law_1725 (by decide) (fun c8 => ?_) (fun c8 => ?_)
      · replace h := h.1 c8
        refine lv_goto (tgt := 1874) hx hb dL_law_1730 (by decide) ?_
        refine W.widen (k := cs + 2) (n := ss + 12) (by omega) (by omega) ?_
        exact cont s.drawn _ _ _ _ _ _ (Drawn.sameBut.refl _ _) (lv_sub hl [2, 3, 4, 5, 6] rfl) hP hD hS h
      · replace h := h.2 c8
        refine lv_iconst (v := (0 : Int32)) hx hb dL_law_1728 (by decide) ?_
        exact h.elim
  · replace h := h.2 c6
    refine lv_iconst (v := (0 : Int32)) hx hb dL_law_1711 (by decide) ?_
    exact h.elim

def wp_law_27 (xs : Nat → Int32) (i : Int32) (N : Ne) (O : Nat → Int64) (M : Md) (post : Ne → (Nat → Int64) → Md → Prop) : Prop :=
  wp_X3_clearText N (fun r1 u2 => wp_X4_clearText M (fun r3 u4 => (r1 = r3 → post u2 O u4) ∧ (¬ r1 = r3 → False)))
set_option maxHeartbeats 4000000 in
set_option maxRecDepth 100000 in
theorem c_law_27 {p : Program} {l : Launch} {e : Env} {s : State} {m : MethodId} {args : Array Value} {below : List Frame} {meth : Method} {c : Code} {Q : State → Prop} {A : Nat → Prop} {D : va_G} {cI cS cJ : ClassId} {G : Nat → Nat → Nat} {o : Nat} {bm : Nat → Nat} {b L cs ss : Nat} {xs : Nat → Int32} {i : Int32} {N : Ne} {O : Nat → Int64} {M : Md} {H : Heap} {locs : List Loc} {ls : Array Slot} (C : lwC p l s m args c A D cI cS cJ b L xs) (hi0 : vp_in i L) (hi1 : vp_in (i + 1) L) (hi2 : vp_in (i + 2) L) (hi3 : vp_in (i + 3) L) (hi4 : vp_in (i + 4) L) (hcs : cs + 2 ≤ 601024) (hss : ss + 12 ≤ 7293034) (hl : lv_has ls 9 [(0, .ref b), (1, .ref (G 2 0)), (2, .ref (bm 0)), (3, .ref o), (4, .int i)]) (hP : va_P D vwCl (lwW cI cS cJ G o bm (N, O, M)) H) (hD : va_D A (lwW cI cS cJ G o bm (N, O, M))) (hS : va_S A s.heap H locs) {post : Ne → (Nat → Int64) → Md → Prop} (h : wp_law_27 xs i N O M post)
    (cont : ∀ (d' : Drawn) (N : Ne) (O : Nat → Int64) (M : Md) (H : Heap) (locs : List Loc) (ls : Array Slot), s.drawn.sameBut d' lw_cs → lv_has ls 9 [(0, .ref b), (1, .ref (G 2 0)), (2, .ref (bm 0)), (3, .ref o), (4, .int i)] → va_P D vwCl (lwW cI cS cJ G o bm (N, O, M)) H → va_D A (lwW cI cS cJ G o bm (N, O, M)) → va_S A s.heap H locs → post N O M → W p l e room_1 (s.setDrawn d') m args below meth c H locs (cs + 2) (ss + 12) Q (F0 m 1874 ls [])) :
    W p l e room_1 s m args below meth c H locs cs ss Q (F0 m 1733 ls []) := by
  obtain ⟨hst, FC, hK0, hV, hH, hX, hbl, hbA, hA⟩ := C
  have hx := FC.1
  have hb := FC.2.1
  have hown := FC.2.2.2.1
  have hts := FC.2.2.2.2
  have F := FC
  have hK := hK0
  unfold wp_law_27 at h
  refine lv_aload_n hx hb dL_law_1733 rfl (lv_at hl 1 rfl) ?_
  refine rwVi (wr := lwNr cI cJ o bm (O, M)) (As := []) (rest := []) lwN_f F (c_X3_clearText l D cI cS cJ G N H.size  h) (cw_L_198 hts (Nat.le_of_ble_eq_true rfl) (Nat.le_of_ble_eq_true rfl)) hK hP hD hS hA (recv (ci := 3) (k0 := 1) hK hP rfl rfl) rfl hl.1 rfl (Nat.le_of_ble_eq_true rfl) dL_law_1734 ⟨show cs + 0 ≤ 601024 by omega, show ss + 0 ≤ 7293034 by omega⟩ (fun r1 u2 H locs h hP hD hS => ?_)
  have hP : va_P D vwCl (lwW cI cS cJ G o bm (u2, O, M)) H := vP_perm (lwN_b u2) hP
  have hD : va_D A (lwW cI cS cJ G o bm (u2, O, M)) := vD_perm (lwN_b u2) hD
  refine lv_aload_n hx hb dL_law_1737 rfl (lv_at hl 2 rfl) ?_
  refine rwVi (wr := lwMr cI cS cJ G o (u2, O)) (As := []) (rest := [.int r1]) lwM_f F (c_X4_clearText l D cI cS cJ bm M H.size  h) (cw_L_201 hts (Nat.le_of_ble_eq_true rfl) (Nat.le_of_ble_eq_true rfl)) hK hP hD hS hA (recv (ci := 4) (k0 := 69) hK hP rfl rfl) rfl hl.1 rfl (Nat.le_of_ble_eq_true rfl) dL_law_1738 ⟨show (cs + 0) + 0 ≤ 601024 by omega, show (ss + 0) + 0 ≤ 7293034 by omega⟩ (fun r3 u4 H locs h hP hD hS => ?_)
  have hP : va_P D vwCl (lwW cI cS cJ G o bm (u2, O, u4)) H := vP_perm (lwM_b u4) hP
  have hD : va_D A (lwW cI cS cJ G o bm (u2, O, u4)) := vD_perm (lwM_b u4) hD
  refine lv_icmp_eq (tgt := 1874) hx hb dL_law_1741 (by decide) (fun c5 => ?_) (fun c5 => ?_)
  · replace h := h.1 c5
    refine W.widen (k := cs + 2) (n := ss + 12) (by omega) (by omega) ?_
    exact cont s.drawn _ _ _ _ _ _ (Drawn.sameBut.refl _ _) (lv_sub hl [0, 1, 2, 3, 4] rfl) hP hD hS h
  · replace h := h.2 c5
    refine lv_iconst (v := (0 : Int32)) hx hb dL_law_1744 (by decide) ?_
    exact h.elim

def wp_law_28 (xs : Nat → Int32) (i : Int32) (N : Ne) (O : Nat → Int64) (M : Md) (post : Ne → (Nat → Int64) → Md → Prop) : Prop :=
  wp_X3_firstError N (fun r1 => wp_X4_firstError M (fun r2 u3 => (r1 = r2 → post N O u3) ∧ (¬ r1 = r2 → False)))
set_option maxHeartbeats 4000000 in
set_option maxRecDepth 100000 in
theorem c_law_28 {p : Program} {l : Launch} {e : Env} {s : State} {m : MethodId} {args : Array Value} {below : List Frame} {meth : Method} {c : Code} {Q : State → Prop} {A : Nat → Prop} {D : va_G} {cI cS cJ : ClassId} {G : Nat → Nat → Nat} {o : Nat} {bm : Nat → Nat} {b L cs ss : Nat} {xs : Nat → Int32} {i : Int32} {N : Ne} {O : Nat → Int64} {M : Md} {H : Heap} {locs : List Loc} {ls : Array Slot} (C : lwC p l s m args c A D cI cS cJ b L xs) (hi0 : vp_in i L) (hi1 : vp_in (i + 1) L) (hi2 : vp_in (i + 2) L) (hi3 : vp_in (i + 3) L) (hi4 : vp_in (i + 4) L) (hcs : cs + 2 ≤ 601024) (hss : ss + 12 ≤ 7293034) (hl : lv_has ls 9 [(0, .ref b), (1, .ref (G 2 0)), (2, .ref (bm 0)), (3, .ref o), (4, .int i)]) (hP : va_P D vwCl (lwW cI cS cJ G o bm (N, O, M)) H) (hD : va_D A (lwW cI cS cJ G o bm (N, O, M))) (hS : va_S A s.heap H locs) {post : Ne → (Nat → Int64) → Md → Prop} (h : wp_law_28 xs i N O M post)
    (cont : ∀ (d' : Drawn) (N : Ne) (O : Nat → Int64) (M : Md) (H : Heap) (locs : List Loc) (ls : Array Slot), s.drawn.sameBut d' lw_cs → lv_has ls 9 [(0, .ref b), (1, .ref (G 2 0)), (2, .ref (bm 0)), (3, .ref o), (4, .int i)] → va_P D vwCl (lwW cI cS cJ G o bm (N, O, M)) H → va_D A (lwW cI cS cJ G o bm (N, O, M)) → va_S A s.heap H locs → post N O M → W p l e room_1 (s.setDrawn d') m args below meth c H locs (cs + 2) (ss + 12) Q (F0 m 1874 ls [])) :
    W p l e room_1 s m args below meth c H locs cs ss Q (F0 m 1746 ls []) := by
  obtain ⟨hst, FC, hK0, hV, hH, hX, hbl, hbA, hA⟩ := C
  have hx := FC.1
  have hb := FC.2.1
  have hown := FC.2.2.2.1
  have hts := FC.2.2.2.2
  have F := FC
  have hK := hK0
  unfold wp_law_28 at h
  refine lv_aload_n hx hb dL_law_1746 rfl (lv_at hl 1 rfl) ?_
  refine roVi (As := []) (rest := []) F (c_X3_firstError l D cI cS cJ G N H  h) (cw_L_202 hts (Nat.le_of_ble_eq_true rfl) (Nat.le_of_ble_eq_true rfl)) hK (vP_L (vP_perm lwN_f hP)) (recv (ci := 3) (k0 := 1) hK hP rfl rfl) rfl hl.1 rfl (Nat.le_of_ble_eq_true rfl) dL_law_1747 ⟨show cs + 0 ≤ 601024 by omega, show ss + 0 ≤ 7293034 by omega⟩ (fun r1 h => ?_)
  refine lv_aload_n hx hb dL_law_1750 rfl (lv_at hl 2 rfl) ?_
  refine rwVi (wr := lwMr cI cS cJ G o (N, O)) (As := []) (rest := [.int r1]) lwM_f F (c_X4_firstError l D cI cS cJ bm M H.size  h) (cw_L_205 hts (Nat.le_of_ble_eq_true rfl) (Nat.le_of_ble_eq_true rfl)) hK hP hD hS hA (recv (ci := 4) (k0 := 69) hK hP rfl rfl) rfl hl.1 rfl (Nat.le_of_ble_eq_true rfl) dL_law_1751 ⟨show cs + 0 ≤ 601024 by omega, show ss + 0 ≤ 7293034 by omega⟩ (fun r2 u3 H locs h hP hD hS => ?_)
  have hP : va_P D vwCl (lwW cI cS cJ G o bm (N, O, u3)) H := vP_perm (lwM_b u3) hP
  have hD : va_D A (lwW cI cS cJ G o bm (N, O, u3)) := vD_perm (lwM_b u3) hD
  refine lv_icmp_eq (tgt := 1874) hx hb dL_law_1754 (by decide) (fun c4 => ?_) (fun c4 => ?_)
  · replace h := h.1 c4
    refine W.widen (k := cs + 2) (n := ss + 12) (by omega) (by omega) ?_
    exact cont s.drawn _ _ _ _ _ _ (Drawn.sameBut.refl _ _) (lv_sub hl [0, 1, 2, 3, 4] rfl) hP hD hS h
  · replace h := h.2 c4
    refine lv_iconst (v := (0 : Int32)) hx hb dL_law_1757 (by decide) ?_
    exact h.elim

def wp_law_29 (xs : Nat → Int32) (i : Int32) (N : Ne) (O : Nat → Int64) (M : Md) (post : Ne → (Nat → Int64) → Md → Prop) : Prop :=
  wp_L_run (N, O)  (fun r1 u2 => wp_X4_run M (fun r3 u4 => wp_X4_thrown u4 (fun r5 => (r5 = r1 → (¬ r1 = 0 → post u2.1 u2.2 u4) ∧ (r1 = 0 → ((lg_cmp (u2.2 (Int32.toNatClampNeg (0 : Int32))) (Int32.toInt64 r3)) = 0 → post u2.1 u2.2 u4) ∧ (¬ (lg_cmp (u2.2 (Int32.toNatClampNeg (0 : Int32))) (Int32.toInt64 r3)) = 0 → False))) ∧ (¬ r5 = r1 → False))))
set_option maxHeartbeats 4000000 in
set_option maxRecDepth 100000 in
theorem c_law_29 {p : Program} {l : Launch} {e : Env} {s : State} {m : MethodId} {args : Array Value} {below : List Frame} {meth : Method} {c : Code} {Q : State → Prop} {A : Nat → Prop} {D : va_G} {cI cS cJ : ClassId} {G : Nat → Nat → Nat} {o : Nat} {bm : Nat → Nat} {b L cs ss : Nat} {xs : Nat → Int32} {i : Int32} {N : Ne} {O : Nat → Int64} {M : Md} {H : Heap} {locs : List Loc} {ls : Array Slot} (C : lwC p l s m args c A D cI cS cJ b L xs) (hi0 : vp_in i L) (hi1 : vp_in (i + 1) L) (hi2 : vp_in (i + 2) L) (hi3 : vp_in (i + 3) L) (hi4 : vp_in (i + 4) L) (hcs : cs + 2 ≤ 601024) (hss : ss + 12 ≤ 7293034) (hl : lv_has ls 9 [(0, .ref b), (1, .ref (G 2 0)), (2, .ref (bm 0)), (3, .ref o), (4, .int i)]) (hP : va_P D vwCl (lwW cI cS cJ G o bm (N, O, M)) H) (hD : va_D A (lwW cI cS cJ G o bm (N, O, M))) (hS : va_S A s.heap H locs) {post : Ne → (Nat → Int64) → Md → Prop} (h : wp_law_29 xs i N O M post)
    (cont : ∀ (d' : Drawn) (N : Ne) (O : Nat → Int64) (M : Md) (H : Heap) (locs : List Loc) (ls : Array Slot), s.drawn.sameBut d' lw_cs → lv_has ls 9 [(0, .ref b), (1, .ref (G 2 0)), (2, .ref (bm 0)), (3, .ref o), (4, .int i)] → va_P D vwCl (lwW cI cS cJ G o bm (N, O, M)) H → va_D A (lwW cI cS cJ G o bm (N, O, M)) → va_S A s.heap H locs → post N O M → W p l e room_1 (s.setDrawn d') m args below meth c H locs (cs + 2) (ss + 12) Q (F0 m 1874 ls [])) :
    W p l e room_1 s m args below meth c H locs cs ss Q (F0 m 1759 ls []) := by
  obtain ⟨hst, FC, hK0, hV, hH, hX, hbl, hbA, hA⟩ := C
  have hx := FC.1
  have hb := FC.2.1
  have hown := FC.2.2.2.1
  have hts := FC.2.2.2.2
  have F := FC
  have hK := hK0
  unfold wp_law_29 at h
  refine lv_aload_n hx hb dL_law_1759 rfl (lv_at hl 1 rfl) ?_
  refine lv_aload_n hx hb dL_law_1760 rfl (lv_at hl 3 rfl) ?_
  refine rwHi (wr := mdW cI bm M) (As := [.ref (G 2 0), .ref o]) (rest := []) lwH_f F (c_L_run l hst D cI cS cJ G o (N, O) H.size  h) (cwH_run hts (Nat.le_of_ble_eq_true rfl) (Nat.le_of_ble_eq_true rfl)) hK hV hH hP hD hS hA rfl hl.1 rfl (Nat.le_of_ble_eq_true rfl) dL_law_1761 ⟨show cs + 1 ≤ 601024 by omega, show ss + 6 ≤ 7293034 by omega⟩ (fun r1 u2 H locs h hP hD hS => ?_)
  have hP : va_P D vwCl (lwW cI cS cJ G o bm (u2.1, u2.2, M)) H := vP_perm lwH_b hP
  have hD : va_D A (lwW cI cS cJ G o bm (u2.1, u2.2, M)) := vD_perm lwH_b hD
  refine lv_istore (lv' := [(5, .int r1), (0, .ref b), (1, .ref (G 2 0)), (2, .ref (bm 0)), (3, .ref o), (4, .int i)]) hx hb dL_law_1764 hl (by decide) rfl (fun ls hl => ?_)
  refine lv_aload_n hx hb dL_law_1766 rfl (lv_at hl 3 rfl) ?_
  refine rwVi (wr := lwMr cI cS cJ G o (u2.1, u2.2)) (As := []) (rest := []) lwM_f F (c_X4_run l D cI cS cJ bm M H.size  h) (cw_L_208 hts (Nat.le_of_ble_eq_true rfl) (Nat.le_of_ble_eq_true rfl)) hK hP hD hS hA (recv (ci := 4) (k0 := 69) hK hP rfl rfl) rfl hl.1 rfl (Nat.le_of_ble_eq_true rfl) dL_law_1767 ⟨show (cs + 1) + 0 ≤ 601024 by omega, show (ss + 6) + 0 ≤ 7293034 by omega⟩ (fun r3 u4 H locs h hP hD hS => ?_)
  have hP : va_P D vwCl (lwW cI cS cJ G o bm (u2.1, u2.2, u4)) H := vP_perm (lwM_b u4) hP
  have hD : va_D A (lwW cI cS cJ G o bm (u2.1, u2.2, u4)) := vD_perm (lwM_b u4) hD
  refine lv_istore (lv' := [(6, .int r3), (5, .int r1), (0, .ref b), (1, .ref (G 2 0)), (2, .ref (bm 0)), (3, .ref o), (4, .int i)]) hx hb dL_law_1770 hl (by decide) rfl (fun ls hl => ?_)
  refine lv_aload_n hx hb dL_law_1772 rfl (lv_at hl 4 rfl) ?_
  refine roVi (As := []) (rest := []) F (c_X4_thrown l D cI cS cJ bm u4 H  h) (cw_L_107 hts (Nat.le_of_ble_eq_true rfl) (Nat.le_of_ble_eq_true rfl)) hK (vP_L (vP_perm lwM_f hP)) (recv (ci := 4) (k0 := 69) hK hP rfl rfl) rfl hl.1 rfl (Nat.le_of_ble_eq_true rfl) dL_law_1773 ⟨show ((cs + 1) + 0) + 0 ≤ 601024 by omega, show ((ss + 6) + 0) + 0 ≤ 7293034 by omega⟩ (fun r5 h => ?_)
  refine lv_iload hx hb dL_law_1776 (lv_at hl 1 rfl) ?_
  refine lv_icmp_eq (tgt := 1783) hx hb dL_law_1778 (by decide) (fun c6 => ?_) (fun c6 => ?_)
  · replace h := h.1 c6
    refine lv_iload hx hb dL_law_1783 (lv_at hl 1 rfl) ?_
    refine lv_if_ne (tgt := 1800) hx hb dL_law_1785 (by decide) (fun c7 => ?_) (fun c7 => ?_)
    · replace h := h.1 c7
      refine lv_goto (tgt := 1874) hx hb dL_law_1800 (by decide) ?_
      refine W.widen (k := cs + 2) (n := ss + 12) (by omega) (by omega) ?_
      exact cont s.drawn _ _ _ _ _ _ (Drawn.sameBut.refl _ _) (lv_sub hl [2, 3, 4, 5, 6] rfl) hP hD hS h
    · replace h := h.2 c7
      refine lv_aload_n hx hb dL_law_1788 rfl (lv_at hl 5 rfl) ?_
      refine lv_iconst (v := (0 : Int32)) hx hb dL_law_1789 (by decide) ?_
      refine va_lald hx hb hK.k hP 0 2 rfl rfl in01 dL_law_1790 ?_
      refine lv_iload hx hb dL_law_1791 (lv_at hl 0 rfl) ?_
      refine lv_i2l (v := (Int32.toInt64 r3)) hx hb dL_law_1793 rfl ?_
      refine W.lcmp hx hb dL_law_1794 ?_
      refine lv_if_eq (tgt := 1800) hx hb dL_law_1795 (by decide) (fun c8 => ?_) (fun c8 => ?_)
      · replace h := h.1 c8
        refine lv_goto (tgt := 1874) hx hb dL_law_1800 (by decide) ?_
        refine W.widen (k := cs + 2) (n := ss + 12) (by omega) (by omega) ?_
        exact cont s.drawn _ _ _ _ _ _ (Drawn.sameBut.refl _ _) (lv_sub hl [2, 3, 4, 5, 6] rfl) hP hD hS h
      · replace h := h.2 c8
        refine lv_iconst (v := (0 : Int32)) hx hb dL_law_1798 (by decide) ?_
        exact h.elim
  · replace h := h.2 c6
    refine lv_iconst (v := (0 : Int32)) hx hb dL_law_1781 (by decide) ?_
    exact h.elim

def wp_law_30 (xs : Nat → Int32) (i : Int32) (N : Ne) (O : Nat → Int64) (M : Md) (post : Ne → (Nat → Int64) → Md → Prop) : Prop :=
  wp_L_undo (N, O)  (fun r1 u2 => wp_X4_undo M (fun r3 u4 => wp_X4_thrown u4 (fun r5 => (r5 = r1 → (¬ r1 = 0 → post u2.1 u2.2 u4) ∧ (r1 = 0 → ((lg_cmp (u2.2 (Int32.toNatClampNeg (0 : Int32))) (Int32.toInt64 r3)) = 0 → post u2.1 u2.2 u4) ∧ (¬ (lg_cmp (u2.2 (Int32.toNatClampNeg (0 : Int32))) (Int32.toInt64 r3)) = 0 → False))) ∧ (¬ r5 = r1 → False))))
set_option maxHeartbeats 4000000 in
set_option maxRecDepth 100000 in
theorem c_law_30 {p : Program} {l : Launch} {e : Env} {s : State} {m : MethodId} {args : Array Value} {below : List Frame} {meth : Method} {c : Code} {Q : State → Prop} {A : Nat → Prop} {D : va_G} {cI cS cJ : ClassId} {G : Nat → Nat → Nat} {o : Nat} {bm : Nat → Nat} {b L cs ss : Nat} {xs : Nat → Int32} {i : Int32} {N : Ne} {O : Nat → Int64} {M : Md} {H : Heap} {locs : List Loc} {ls : Array Slot} (C : lwC p l s m args c A D cI cS cJ b L xs) (hi0 : vp_in i L) (hi1 : vp_in (i + 1) L) (hi2 : vp_in (i + 2) L) (hi3 : vp_in (i + 3) L) (hi4 : vp_in (i + 4) L) (hcs : cs + 2 ≤ 601024) (hss : ss + 12 ≤ 7293034) (hl : lv_has ls 9 [(0, .ref b), (1, .ref (G 2 0)), (2, .ref (bm 0)), (3, .ref o), (4, .int i)]) (hP : va_P D vwCl (lwW cI cS cJ G o bm (N, O, M)) H) (hD : va_D A (lwW cI cS cJ G o bm (N, O, M))) (hS : va_S A s.heap H locs) {post : Ne → (Nat → Int64) → Md → Prop} (h : wp_law_30 xs i N O M post)
    (cont : ∀ (d' : Drawn) (N : Ne) (O : Nat → Int64) (M : Md) (H : Heap) (locs : List Loc) (ls : Array Slot), s.drawn.sameBut d' lw_cs → lv_has ls 9 [(0, .ref b), (1, .ref (G 2 0)), (2, .ref (bm 0)), (3, .ref o), (4, .int i)] → va_P D vwCl (lwW cI cS cJ G o bm (N, O, M)) H → va_D A (lwW cI cS cJ G o bm (N, O, M)) → va_S A s.heap H locs → post N O M → W p l e room_1 (s.setDrawn d') m args below meth c H locs (cs + 2) (ss + 12) Q (F0 m 1874 ls [])) :
    W p l e room_1 s m args below meth c H locs cs ss Q (F0 m 1803 ls []) := by
  obtain ⟨hst, FC, hK0, hV, hH, hX, hbl, hbA, hA⟩ := C
  have hx := FC.1
  have hb := FC.2.1
  have hown := FC.2.2.2.1
  have hts := FC.2.2.2.2
  have F := FC
  have hK := hK0
  unfold wp_law_30 at h
  refine lv_aload_n hx hb dL_law_1803 rfl (lv_at hl 1 rfl) ?_
  refine lv_aload_n hx hb dL_law_1804 rfl (lv_at hl 3 rfl) ?_
  refine rwHi (wr := mdW cI bm M) (As := [.ref (G 2 0), .ref o]) (rest := []) lwH_f F (c_L_undo l hst D cI cS cJ G o (N, O) H.size  h) (cwH_undo hts (Nat.le_of_ble_eq_true rfl) (Nat.le_of_ble_eq_true rfl)) hK hV hH hP hD hS hA rfl hl.1 rfl (Nat.le_of_ble_eq_true rfl) dL_law_1805 ⟨show cs + 1 ≤ 601024 by omega, show ss + 6 ≤ 7293034 by omega⟩ (fun r1 u2 H locs h hP hD hS => ?_)
  have hP : va_P D vwCl (lwW cI cS cJ G o bm (u2.1, u2.2, M)) H := vP_perm lwH_b hP
  have hD : va_D A (lwW cI cS cJ G o bm (u2.1, u2.2, M)) := vD_perm lwH_b hD
  refine lv_istore (lv' := [(5, .int r1), (0, .ref b), (1, .ref (G 2 0)), (2, .ref (bm 0)), (3, .ref o), (4, .int i)]) hx hb dL_law_1808 hl (by decide) rfl (fun ls hl => ?_)
  refine lv_aload_n hx hb dL_law_1810 rfl (lv_at hl 3 rfl) ?_
  refine rwVi (wr := lwMr cI cS cJ G o (u2.1, u2.2)) (As := []) (rest := []) lwM_f F (c_X4_undo l D cI cS cJ bm M H.size  h) (cw_L_211 hts (Nat.le_of_ble_eq_true rfl) (Nat.le_of_ble_eq_true rfl)) hK hP hD hS hA (recv (ci := 4) (k0 := 69) hK hP rfl rfl) rfl hl.1 rfl (Nat.le_of_ble_eq_true rfl) dL_law_1811 ⟨show (cs + 1) + 0 ≤ 601024 by omega, show (ss + 6) + 0 ≤ 7293034 by omega⟩ (fun r3 u4 H locs h hP hD hS => ?_)
  have hP : va_P D vwCl (lwW cI cS cJ G o bm (u2.1, u2.2, u4)) H := vP_perm (lwM_b u4) hP
  have hD : va_D A (lwW cI cS cJ G o bm (u2.1, u2.2, u4)) := vD_perm (lwM_b u4) hD
  refine lv_istore (lv' := [(6, .int r3), (5, .int r1), (0, .ref b), (1, .ref (G 2 0)), (2, .ref (bm 0)), (3, .ref o), (4, .int i)]) hx hb dL_law_1814 hl (by decide) rfl (fun ls hl => ?_)
  refine lv_aload_n hx hb dL_law_1816 rfl (lv_at hl 4 rfl) ?_
  refine roVi (As := []) (rest := []) F (c_X4_thrown l D cI cS cJ bm u4 H  h) (cw_L_107 hts (Nat.le_of_ble_eq_true rfl) (Nat.le_of_ble_eq_true rfl)) hK (vP_L (vP_perm lwM_f hP)) (recv (ci := 4) (k0 := 69) hK hP rfl rfl) rfl hl.1 rfl (Nat.le_of_ble_eq_true rfl) dL_law_1817 ⟨show ((cs + 1) + 0) + 0 ≤ 601024 by omega, show ((ss + 6) + 0) + 0 ≤ 7293034 by omega⟩ (fun r5 h => ?_)
  refine lv_iload hx hb dL_law_1820 (lv_at hl 1 rfl) ?_
  refine lv_icmp_eq (tgt := 1827) hx hb dL_law_1822 (by decide) (fun c6 => ?_) (fun c6 => ?_)
  · replace h := h.1 c6
    refine lv_iload hx hb dL_law_1827 (lv_at hl 1 rfl) ?_
    refine lv_if_ne (tgt := 1844) hx hb dL_law_1829 (by decide) (fun c7 => ?_) (fun c7 => ?_)
    · replace h := h.1 c7
      refine lv_goto (tgt := 1874) hx hb dL_law_1844 (by decide) ?_
      refine W.widen (k := cs + 2) (n := ss + 12) (by omega) (by omega) ?_
      exact cont s.drawn _ _ _ _ _ _ (Drawn.sameBut.refl _ _) (lv_sub hl [2, 3, 4, 5, 6] rfl) hP hD hS h
    · replace h := h.2 c7
      refine lv_aload_n hx hb dL_law_1832 rfl (lv_at hl 5 rfl) ?_
      refine lv_iconst (v := (0 : Int32)) hx hb dL_law_1833 (by decide) ?_
      refine va_lald hx hb hK.k hP 0 2 rfl rfl in01 dL_law_1834 ?_
      refine lv_iload hx hb dL_law_1835 (lv_at hl 0 rfl) ?_
      refine lv_i2l (v := (Int32.toInt64 r3)) hx hb dL_law_1837 rfl ?_
      refine W.lcmp hx hb dL_law_1838 ?_
      refine lv_if_eq (tgt := 1844) hx hb dL_law_1839 (by decide) (fun c8 => ?_) (fun c8 => ?_)
      · replace h := h.1 c8
        refine lv_goto (tgt := 1874) hx hb dL_law_1844 (by decide) ?_
        refine W.widen (k := cs + 2) (n := ss + 12) (by omega) (by omega) ?_
        exact cont s.drawn _ _ _ _ _ _ (Drawn.sameBut.refl _ _) (lv_sub hl [2, 3, 4, 5, 6] rfl) hP hD hS h
      · replace h := h.2 c8
        refine lv_iconst (v := (0 : Int32)) hx hb dL_law_1842 (by decide) ?_
        exact h.elim
  · replace h := h.2 c6
    refine lv_iconst (v := (0 : Int32)) hx hb dL_law_1825 (by decide) ?_
    exact h.elim

def wp_law_31 (xs : Nat → Int32) (i : Int32) (N : Ne) (O : Nat → Int64) (M : Md) (post : Ne → (Nat → Int64) → Md → Prop) : Prop :=
  wp_X3_savedStates N (fun r1 => wp_X4_savedStates M (fun r2 u3 => (r1 = r2 → post N O u3) ∧ (¬ r1 = r2 → False)))
set_option maxHeartbeats 4000000 in
set_option maxRecDepth 100000 in
theorem c_law_31 {p : Program} {l : Launch} {e : Env} {s : State} {m : MethodId} {args : Array Value} {below : List Frame} {meth : Method} {c : Code} {Q : State → Prop} {A : Nat → Prop} {D : va_G} {cI cS cJ : ClassId} {G : Nat → Nat → Nat} {o : Nat} {bm : Nat → Nat} {b L cs ss : Nat} {xs : Nat → Int32} {i : Int32} {N : Ne} {O : Nat → Int64} {M : Md} {H : Heap} {locs : List Loc} {ls : Array Slot} (C : lwC p l s m args c A D cI cS cJ b L xs) (hi0 : vp_in i L) (hi1 : vp_in (i + 1) L) (hi2 : vp_in (i + 2) L) (hi3 : vp_in (i + 3) L) (hi4 : vp_in (i + 4) L) (hcs : cs + 2 ≤ 601024) (hss : ss + 12 ≤ 7293034) (hl : lv_has ls 9 [(0, .ref b), (1, .ref (G 2 0)), (2, .ref (bm 0)), (3, .ref o), (4, .int i)]) (hP : va_P D vwCl (lwW cI cS cJ G o bm (N, O, M)) H) (hD : va_D A (lwW cI cS cJ G o bm (N, O, M))) (hS : va_S A s.heap H locs) {post : Ne → (Nat → Int64) → Md → Prop} (h : wp_law_31 xs i N O M post)
    (cont : ∀ (d' : Drawn) (N : Ne) (O : Nat → Int64) (M : Md) (H : Heap) (locs : List Loc) (ls : Array Slot), s.drawn.sameBut d' lw_cs → lv_has ls 9 [(0, .ref b), (1, .ref (G 2 0)), (2, .ref (bm 0)), (3, .ref o), (4, .int i)] → va_P D vwCl (lwW cI cS cJ G o bm (N, O, M)) H → va_D A (lwW cI cS cJ G o bm (N, O, M)) → va_S A s.heap H locs → post N O M → W p l e room_1 (s.setDrawn d') m args below meth c H locs (cs + 2) (ss + 12) Q (F0 m 1874 ls [])) :
    W p l e room_1 s m args below meth c H locs cs ss Q (F0 m 1847 ls []) := by
  obtain ⟨hst, FC, hK0, hV, hH, hX, hbl, hbA, hA⟩ := C
  have hx := FC.1
  have hb := FC.2.1
  have hown := FC.2.2.2.1
  have hts := FC.2.2.2.2
  have F := FC
  have hK := hK0
  unfold wp_law_31 at h
  refine lv_aload_n hx hb dL_law_1847 rfl (lv_at hl 1 rfl) ?_
  refine roVi (As := []) (rest := []) F (c_X3_savedStates l D cI cS cJ G N H  h) (cw_L_212 hts (Nat.le_of_ble_eq_true rfl) (Nat.le_of_ble_eq_true rfl)) hK (vP_L (vP_perm lwN_f hP)) (recv (ci := 3) (k0 := 1) hK hP rfl rfl) rfl hl.1 rfl (Nat.le_of_ble_eq_true rfl) dL_law_1848 ⟨show cs + 0 ≤ 601024 by omega, show ss + 0 ≤ 7293034 by omega⟩ (fun r1 h => ?_)
  refine lv_aload_n hx hb dL_law_1851 rfl (lv_at hl 2 rfl) ?_
  refine rwVi (wr := lwMr cI cS cJ G o (N, O)) (As := []) (rest := [.int r1]) lwM_f F (c_X4_savedStates l D cI cS cJ bm M H.size  h) (cw_L_215 hts (Nat.le_of_ble_eq_true rfl) (Nat.le_of_ble_eq_true rfl)) hK hP hD hS hA (recv (ci := 4) (k0 := 69) hK hP rfl rfl) rfl hl.1 rfl (Nat.le_of_ble_eq_true rfl) dL_law_1852 ⟨show cs + 0 ≤ 601024 by omega, show ss + 0 ≤ 7293034 by omega⟩ (fun r2 u3 H locs h hP hD hS => ?_)
  have hP : va_P D vwCl (lwW cI cS cJ G o bm (N, O, u3)) H := vP_perm (lwM_b u3) hP
  have hD : va_D A (lwW cI cS cJ G o bm (N, O, u3)) := vD_perm (lwM_b u3) hD
  refine lv_icmp_eq (tgt := 1874) hx hb dL_law_1855 (by decide) (fun c4 => ?_) (fun c4 => ?_)
  · replace h := h.1 c4
    refine W.widen (k := cs + 2) (n := ss + 12) (by omega) (by omega) ?_
    exact cont s.drawn _ _ _ _ _ _ (Drawn.sameBut.refl _ _) (lv_sub hl [0, 1, 2, 3, 4] rfl) hP hD hS h
  · replace h := h.2 c4
    refine lv_iconst (v := (0 : Int32)) hx hb dL_law_1858 (by decide) ?_
    exact h.elim

def wp_law_32 (xs : Nat → Int32) (i : Int32) (N : Ne) (O : Nat → Int64) (M : Md) (post : Ne → (Nat → Int64) → Md → Prop) : Prop :=
  wp_X3_digest N (fun r1 => wp_X4_digest M (fun r2 u3 => ((lg_cmp r1 r2) = 0 → post N O u3) ∧ (¬ (lg_cmp r1 r2) = 0 → False)))
set_option maxHeartbeats 4000000 in
set_option maxRecDepth 100000 in
theorem c_law_32 {p : Program} {l : Launch} {e : Env} {s : State} {m : MethodId} {args : Array Value} {below : List Frame} {meth : Method} {c : Code} {Q : State → Prop} {A : Nat → Prop} {D : va_G} {cI cS cJ : ClassId} {G : Nat → Nat → Nat} {o : Nat} {bm : Nat → Nat} {b L cs ss : Nat} {xs : Nat → Int32} {i : Int32} {N : Ne} {O : Nat → Int64} {M : Md} {H : Heap} {locs : List Loc} {ls : Array Slot} (C : lwC p l s m args c A D cI cS cJ b L xs) (hi0 : vp_in i L) (hi1 : vp_in (i + 1) L) (hi2 : vp_in (i + 2) L) (hi3 : vp_in (i + 3) L) (hi4 : vp_in (i + 4) L) (hcs : cs + 2 ≤ 601024) (hss : ss + 12 ≤ 7293034) (hl : lv_has ls 9 [(0, .ref b), (1, .ref (G 2 0)), (2, .ref (bm 0)), (3, .ref o), (4, .int i)]) (hP : va_P D vwCl (lwW cI cS cJ G o bm (N, O, M)) H) (hD : va_D A (lwW cI cS cJ G o bm (N, O, M))) (hS : va_S A s.heap H locs) {post : Ne → (Nat → Int64) → Md → Prop} (h : wp_law_32 xs i N O M post)
    (cont : ∀ (d' : Drawn) (N : Ne) (O : Nat → Int64) (M : Md) (H : Heap) (locs : List Loc) (ls : Array Slot), s.drawn.sameBut d' lw_cs → lv_has ls 9 [(0, .ref b), (1, .ref (G 2 0)), (2, .ref (bm 0)), (3, .ref o), (4, .int i)] → va_P D vwCl (lwW cI cS cJ G o bm (N, O, M)) H → va_D A (lwW cI cS cJ G o bm (N, O, M)) → va_S A s.heap H locs → post N O M → W p l e room_1 (s.setDrawn d') m args below meth c H locs (cs + 2) (ss + 12) Q (F0 m 1874 ls [])) :
    W p l e room_1 s m args below meth c H locs cs ss Q (F0 m 1860 ls []) := by
  obtain ⟨hst, FC, hK0, hV, hH, hX, hbl, hbA, hA⟩ := C
  have hx := FC.1
  have hb := FC.2.1
  have hown := FC.2.2.2.1
  have hts := FC.2.2.2.2
  have F := FC
  have hK := hK0
  unfold wp_law_32 at h
  refine lv_aload_n hx hb dL_law_1860 rfl (lv_at hl 1 rfl) ?_
  refine roVl (As := []) (rest := []) F (c_X3_digest l D cI cS cJ G N H  h) (cw_L_216 hts (Nat.le_of_ble_eq_true rfl) (Nat.le_of_ble_eq_true rfl)) hK (vP_L (vP_perm lwN_f hP)) (recv (ci := 3) (k0 := 1) hK hP rfl rfl) rfl hl.1 rfl (Nat.le_of_ble_eq_true rfl) dL_law_1861 ⟨show cs + 0 ≤ 601024 by omega, show ss + 0 ≤ 7293034 by omega⟩ (fun r1 h => ?_)
  refine lv_aload_n hx hb dL_law_1864 rfl (lv_at hl 2 rfl) ?_
  refine rwVl (wr := lwMr cI cS cJ G o (N, O)) (As := []) (rest := [.long r1]) lwM_f F (c_X4_digest l D cI cS cJ bm M H.size  h) (cw_L_220 hts (Nat.le_of_ble_eq_true rfl) (Nat.le_of_ble_eq_true rfl)) hK hP hD hS hA (recv (ci := 4) (k0 := 69) hK hP rfl rfl) rfl hl.1 rfl (Nat.le_of_ble_eq_true rfl) dL_law_1865 ⟨show cs + 0 ≤ 601024 by omega, show ss + 0 ≤ 7293034 by omega⟩ (fun r2 u3 H locs h hP hD hS => ?_)
  have hP : va_P D vwCl (lwW cI cS cJ G o bm (N, O, u3)) H := vP_perm (lwM_b u3) hP
  have hD : va_D A (lwW cI cS cJ G o bm (N, O, u3)) := vD_perm (lwM_b u3) hD
  refine W.lcmp hx hb dL_law_1868 ?_
  refine lv_if_eq (tgt := 1874) hx hb dL_law_1869 (by decide) (fun c4 => ?_) (fun c4 => ?_)
  · replace h := h.1 c4
    refine W.widen (k := cs + 2) (n := ss + 12) (by omega) (by omega) ?_
    exact cont s.drawn _ _ _ _ _ _ (Drawn.sameBut.refl _ _) (lv_sub hl [0, 1, 2, 3, 4] rfl) hP hD hS h
  · replace h := h.2 c4
    refine lv_iconst (v := (0 : Int32)) hx hb dL_law_1872 (by decide) ?_
    exact h.elim
