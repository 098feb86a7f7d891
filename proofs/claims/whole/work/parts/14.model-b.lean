def wp_X4_arrivesIn (u : Md) (p1 : Int32) (p2 : Int32) (post : Int32 → Prop) : Prop :=
  wp_X4_of u p1 (0 : Int32) (fun r1 => wp_X4_of u p1 (1 : Int32) (fun r2 => wp_X4_of u p1 (3 : Int32) (fun r3 => jn (fun (x4 : Int32) => LP1 (fun (K10 : Int32 → Prop) (x9 : Int32) => ((4 : Int32) ≤ x9 → (x4 = 0 → post ((4 : Int32) - r2)) ∧ (¬ x4 = 0 → post r2)) ∧ (¬ (4 : Int32) ≤ x9 → jn (fun (x14 : Int32) => wp_X4_innOf u r1 x9 (fun r19 => (x14 = 0 → K10 (x9 + 1)) ∧ (¬ x14 = 0 → wp_X4_isOpenNow u r19 (fun r21 => (r21 = 0 → post (-1 : Int32)) ∧ (¬ r21 = 0 → (¬ r19 = p2 → K10 (x9 + 1)) ∧ (r19 = p2 → post (-1 : Int32))))))) (fun (J16 : Int32 → Prop) => (x4 = 0 → (x9 ≤ r2 → J16 (0 : Int32)) ∧ (¬ x9 ≤ r2 → J16 (1 : Int32))) ∧ (¬ x4 = 0 → (r2 ≤ x9 → J16 (0 : Int32)) ∧ (¬ r2 ≤ x9 → J16 (1 : Int32)))))) (1 : Int32)) (fun (J6 : Int32 → Prop) => (¬ r3 = (1 : Int32) → J6 (0 : Int32)) ∧ (r3 = (1 : Int32) → J6 (1 : Int32))))))
set_option maxHeartbeats 4000000 in
set_option maxRecDepth 100000 in
theorem c_X4_arrivesIn (l : Launch) (D : va_G) (cI cS cJ : ClassId) (a : Nat → Nat) (u : Md) (H0 : Heap) (p1 : Int32) (p2 : Int32) {post : Int32 → Prop} (h : wp_X4_arrivesIn u p1 p2 post) : Met l yX4_arrivesIn (wsA yX4_arrivesIn cX4_arrivesIn 9 (some .int)) rm_X4_arrivesIn (va_Pc [.ref (a 0), .int p1, .int p2] (roP D (tysA cI cS cJ) (mdW cI a u) H0)) (va_Qi (fun r (_ : Unit) => post r) (fun _ t => t.heap = H0) nF) 0 0 nF := by
  refine mkROi (by decide +kernel) (Nat.le_of_ble_eq_true rfl) (fun {p e s m args below meth c Q ls} hx hb F hts hown hK hP hl hQ => ?_)
  have hown : s.vm.findClass RX4 = some m.cls := hown
  have F : CallFix p m c cX4_arrivesIn 9 s args wsT RX4 := F
  have hl : lv_has ls 9 [(0, .ref (a 0)), (1, .int p1), (2, .int p2)] := hl
  unfold wp_X4_arrivesIn at h
  refine lv_aload_n hx hb dX4_arrivesIn_0 rfl (lv_at hl 0 rfl) ?_
  refine lv_iload_n hx hb dX4_arrivesIn_1 rfl (lv_at hl 1 rfl) ?_
  refine lv_iconst (v := (0 : Int32)) hx hb dX4_arrivesIn_2 (by decide) ?_
  refine roVi (As := [.int p1, .int (0 : Int32)]) (rest := []) F (c_X4_of l D cI cS cJ a u H0 p1 (0 : Int32) h) (cw_X4_46 hts (Nat.le_of_ble_eq_true rfl) (Nat.le_of_ble_eq_true rfl)) hK hP (recv (ci := 4) (k0 := 0) hK hP rfl rfl) rfl hl.1 rfl (Nat.le_of_ble_eq_true rfl) dX4_arrivesIn_3 ⟨Nat.zero_le _, Nat.zero_le _⟩ (fun r1 h => ?_)
  refine lv_istore_n (lv' := [(3, .int r1), (0, .ref (a 0)), (1, .int p1), (2, .int p2)]) hx hb dX4_arrivesIn_6 rfl hl (by decide) rfl (fun ls hl => ?_)
  refine lv_aload_n hx hb dX4_arrivesIn_7 rfl (lv_at hl 1 rfl) ?_
  refine lv_iload_n hx hb dX4_arrivesIn_8 rfl (lv_at hl 2 rfl) ?_
  refine lv_iconst (v := (1 : Int32)) hx hb dX4_arrivesIn_9 (by decide) ?_
  refine roVi (As := [.int p1, .int (1 : Int32)]) (rest := []) F (c_X4_of l D cI cS cJ a u H0 p1 (1 : Int32) h) (cw_X4_46 hts (Nat.le_of_ble_eq_true rfl) (Nat.le_of_ble_eq_true rfl)) hK hP (recv (ci := 4) (k0 := 0) hK hP rfl rfl) rfl hl.1 rfl (Nat.le_of_ble_eq_true rfl) dX4_arrivesIn_10 ⟨Nat.zero_le _, Nat.zero_le _⟩ (fun r2 h => ?_)
  refine lv_istore (lv' := [(4, .int r2), (3, .int r1), (0, .ref (a 0)), (1, .int p1), (2, .int p2)]) hx hb dX4_arrivesIn_13 hl (by decide) rfl (fun ls hl => ?_)
  refine lv_aload_n hx hb dX4_arrivesIn_15 rfl (lv_at hl 2 rfl) ?_
  refine lv_iload_n hx hb dX4_arrivesIn_16 rfl (lv_at hl 3 rfl) ?_
  refine lv_iconst (v := (3 : Int32)) hx hb dX4_arrivesIn_17 (by decide) ?_
  refine roVi (As := [.int p1, .int (3 : Int32)]) (rest := []) F (c_X4_of l D cI cS cJ a u H0 p1 (3 : Int32) h) (cw_X4_46 hts (Nat.le_of_ble_eq_true rfl) (Nat.le_of_ble_eq_true rfl)) hK hP (recv (ci := 4) (k0 := 0) hK hP rfl rfl) rfl hl.1 rfl (Nat.le_of_ble_eq_true rfl) dX4_arrivesIn_18 ⟨Nat.zero_le _, Nat.zero_le _⟩ (fun r3 h => ?_)
  refine lv_iconst (v := (1 : Int32)) hx hb dX4_arrivesIn_21 (by decide) ?_
  refine jn_e h (fun J6 e8 h => ?_)
  have w7 : ∀ (x4 : Int32) (ls : Array Slot), bz x4 → lv_has ls 9 [(0, .ref (a 0)), (2, .int p2), (3, .int r1), (4, .int r2)] → J6 x4 → W p l e rm_X4_arrivesIn s m args below meth c H0 [] 0 0 Q (F0 m 30 ls [.int x4]) := by
    intro x4 ls b5 hl h
    subst e8
    refine lv_istore (lv' := [(5, .int x4), (0, .ref (a 0)), (2, .int p2), (3, .int r1), (4, .int r2)]) hx hb dX4_arrivesIn_30 hl (by decide) rfl (fun ls hl => ?_)
    refine lv_iconst (v := (1 : Int32)) hx hb dX4_arrivesIn_32 (by decide) ?_
    refine lv_istore (lv' := [(6, .int (1 : Int32)), (5, .int x4), (0, .ref (a 0)), (2, .int p2), (3, .int r1), (4, .int r2)]) hx hb dX4_arrivesIn_33 hl (by decide) rfl (fun ls hl => ?_)
    refine lpu1 h (fun K10 : Int32 → Prop => ∀ (x9 : Int32) (ls : Array Slot), lv_has ls 9 [(0, .ref (a 0)), (2, .int p2), (3, .int r1), (4, .int r2), (5, .int x4), (6, .int x9)] → K10 x9 → W p l e rm_X4_arrivesIn s m args below meth c H0 [] 0 0 Q (F0 m 35 ls [])) ?_ ?_ ?_
    · intro x9 ls hl h
      exact h.elim
    · intro K10
      intro w11 x9 ls hl h
      refine lv_iload hx hb dX4_arrivesIn_35 (lv_at hl 5 rfl) ?_
      refine lv_iconst (v := (4 : Int32)) hx hb dX4_arrivesIn_37 (by decide) ?_
      refine lv_icmp_ge (tgt := 112) hx hb dX4_arrivesIn_38 (by decide) (fun c12 => ?_) (fun c12 => ?_)
      · replace h := h.1 c12
        refine lv_iload hx hb dX4_arrivesIn_112 (lv_at hl 4 rfl) ?_
        refine lv_if_eq (tgt := 122) hx hb dX4_arrivesIn_114 (by decide) (fun c13 => ?_) (fun c13 => ?_)
        · replace h := h.1 c13
          refine lv_iconst (v := (4 : Int32)) hx hb dX4_arrivesIn_122 (by decide) ?_
          refine lv_iload hx hb dX4_arrivesIn_123 (lv_at hl 3 rfl) ?_
          refine lv_isub hx hb dX4_arrivesIn_125 ?_
          exact hQ h dX4_arrivesIn_126
        · replace h := h.2 c13
          refine lv_iload hx hb dX4_arrivesIn_117 (lv_at hl 3 rfl) ?_
          refine lv_goto (tgt := 126) hx hb dX4_arrivesIn_119 (by decide) ?_
          exact hQ h dX4_arrivesIn_126
      · replace h := h.2 c12
        refine lv_iload hx hb dX4_arrivesIn_41 (lv_at hl 4 rfl) ?_
        refine jn_e h (fun J16 e18 h => ?_)
        have w17 : ∀ (x14 : Int32) (ls : Array Slot), bz x14 → lv_has ls 9 [(0, .ref (a 0)), (2, .int p2), (3, .int r1), (4, .int r2), (5, .int x4), (6, .int x9)] → J16 x14 → W p l e rm_X4_arrivesIn s m args below meth c H0 [] 0 0 Q (F0 m 73 ls [.int x14]) := by
          intro x14 ls b15 hl h
          subst e18
          refine lv_istore (lv' := [(7, .int x14), (0, .ref (a 0)), (2, .int p2), (3, .int r1), (4, .int r2), (5, .int x4), (6, .int x9)]) hx hb dX4_arrivesIn_73 hl (by decide) rfl (fun ls hl => ?_)
          refine lv_aload_n hx hb dX4_arrivesIn_75 rfl (lv_at hl 1 rfl) ?_
          refine lv_iload_n hx hb dX4_arrivesIn_76 rfl (lv_at hl 3 rfl) ?_
          refine lv_iload hx hb dX4_arrivesIn_77 (lv_at hl 6 rfl) ?_
          refine roVi (As := [.int r1, .int x9]) (rest := []) F (c_X4_innOf l D cI cS cJ a u H0 r1 x9 h) (cw_X4_24 hts (Nat.le_of_ble_eq_true rfl) (Nat.le_of_ble_eq_true rfl)) hK hP (recv (ci := 4) (k0 := 0) hK hP rfl rfl) rfl hl.1 rfl (Nat.le_of_ble_eq_true rfl) dX4_arrivesIn_79 ⟨Nat.zero_le _, Nat.zero_le _⟩ (fun r19 h => ?_)
          refine lv_istore (lv' := [(8, .int r19), (7, .int x14), (0, .ref (a 0)), (2, .int p2), (3, .int r1), (4, .int r2), (5, .int x4), (6, .int x9)]) hx hb dX4_arrivesIn_82 hl (by decide) rfl (fun ls hl => ?_)
          refine lv_iload hx hb dX4_arrivesIn_84 (lv_at hl 1 rfl) ?_
          refine lv_if_eq (tgt := 106) hx hb dX4_arrivesIn_86 (by decide) (fun c20 => ?_) (fun c20 => ?_)
          · replace h := h.1 c20
            refine lv_iinc (v := (x9 + 1)) (lv' := [(6, .int (x9 + 1)), (8, .int r19), (7, .int x14), (0, .ref (a 0)), (2, .int p2), (3, .int r1), (4, .int r2), (5, .int x4)]) hx hb dX4_arrivesIn_106 hl (k := 7) rfl rfl (by decide) rfl (fun ls hl => ?_)
            refine lv_goto (tgt := 35) hx hb dX4_arrivesIn_109 (by decide) ?_
            exact w11 (x9 + 1) _ (lv_sub hl [3, 4, 5, 6, 7, 0] rfl) h
          · replace h := h.2 c20
            refine lv_aload_n hx hb dX4_arrivesIn_89 rfl (lv_at hl 2 rfl) ?_
            refine lv_iload hx hb dX4_arrivesIn_90 (lv_at hl 0 rfl) ?_
            refine roVi (As := [.int r19]) (rest := []) F (c_X4_isOpenNow l D cI cS cJ a u H0 r19 h) (cw_X4_28 hts (Nat.le_of_ble_eq_true rfl) (Nat.le_of_ble_eq_true rfl)) hK hP (recv (ci := 4) (k0 := 0) hK hP rfl rfl) rfl hl.1 rfl (Nat.le_of_ble_eq_true rfl) dX4_arrivesIn_92 ⟨Nat.zero_le _, Nat.zero_le _⟩ (fun r21 h => ?_)
            obtain ⟨b22, h⟩ := h
            refine lv_if_eq (tgt := 104) hx hb dX4_arrivesIn_95 (by decide) (fun c23 => ?_) (fun c23 => ?_)
            · replace h := h.1 c23
              refine lv_iconst (v := (-1 : Int32)) hx hb dX4_arrivesIn_104 (by decide) ?_
              exact hQ h dX4_arrivesIn_105
            · replace h := h.2 c23
              refine lv_iload hx hb dX4_arrivesIn_98 (lv_at hl 0 rfl) ?_
              refine lv_iload_n hx hb dX4_arrivesIn_100 rfl (lv_at hl 3 rfl) ?_
              refine lv_icmp_ne (tgt := 106) hx hb dX4_arrivesIn_101 (by decide) (fun c24 => ?_) (fun c24 => ?_)
              · replace h := h.1 c24
                refine lv_iinc (v := (x9 + 1)) (lv' := [(6, .int (x9 + 1)), (8, .int r19), (7, .int x14), (0, .ref (a 0)), (2, .int p2), (3, .int r1), (4, .int r2), (5, .int x4)]) hx hb dX4_arrivesIn_106 hl (k := 7) rfl rfl (by decide) rfl (fun ls hl => ?_)
                refine lv_goto (tgt := 35) hx hb dX4_arrivesIn_109 (by decide) ?_
                exact w11 (x9 + 1) _ (lv_sub hl [3, 4, 5, 6, 7, 0] rfl) h
              · replace h := h.2 c24
                refine lv_iconst (v := (-1 : Int32)) hx hb dX4_arrivesIn_104 (by decide) ?_
                exact hQ h dX4_arrivesIn_105
        clear e18
        refine lv_if_eq (tgt := 61) hx hb dX4_arrivesIn_43 (by decide) (fun c25 => ?_) (fun c25 => ?_)
        · replace h := h.1 c25
          refine lv_iload hx hb dX4_arrivesIn_61 (lv_at hl 5 rfl) ?_
          refine lv_iload hx hb dX4_arrivesIn_63 (lv_at hl 3 rfl) ?_
          refine lv_icmp_le (tgt := 72) hx hb dX4_arrivesIn_65 (by decide) (fun c26 => ?_) (fun c26 => ?_)
          · replace h := h.1 c26
            refine lv_iconst (v := (0 : Int32)) hx hb dX4_arrivesIn_72 (by decide) ?_
            exact w17 (0 : Int32) _ bz0 hl h
          · replace h := h.2 c26
            refine lv_iconst (v := (1 : Int32)) hx hb dX4_arrivesIn_68 (by decide) ?_
            refine lv_goto (tgt := 73) hx hb dX4_arrivesIn_69 (by decide) ?_
            exact w17 (1 : Int32) _ bz1 hl h
        · replace h := h.2 c25
          refine lv_iload hx hb dX4_arrivesIn_46 (lv_at hl 5 rfl) ?_
          refine lv_iload hx hb dX4_arrivesIn_48 (lv_at hl 3 rfl) ?_
          refine lv_icmp_ge (tgt := 57) hx hb dX4_arrivesIn_50 (by decide) (fun c27 => ?_) (fun c27 => ?_)
          · replace h := h.1 c27
            refine lv_iconst (v := (0 : Int32)) hx hb dX4_arrivesIn_57 (by decide) ?_
            refine lv_goto (tgt := 73) hx hb dX4_arrivesIn_58 (by decide) ?_
            exact w17 (0 : Int32) _ bz0 hl h
          · replace h := h.2 c27
            refine lv_iconst (v := (1 : Int32)) hx hb dX4_arrivesIn_53 (by decide) ?_
            refine lv_goto (tgt := 73) hx hb dX4_arrivesIn_54 (by decide) ?_
            exact w17 (1 : Int32) _ bz1 hl h
    · intro K10 w11 h
      exact w11 (1 : Int32) _ (lv_sub hl [2, 3, 4, 5, 1, 0] rfl) h
  clear e8
  refine lv_icmp_ne (tgt := 29) hx hb dX4_arrivesIn_22 (by decide) (fun c28 => ?_) (fun c28 => ?_)
  · replace h := h.1 c28
    refine lv_iconst (v := (0 : Int32)) hx hb dX4_arrivesIn_29 (by decide) ?_
    exact w7 (0 : Int32) _ bz0 (lv_sub hl [2, 4, 1, 0] rfl) h
  · replace h := h.2 c28
    refine lv_iconst (v := (1 : Int32)) hx hb dX4_arrivesIn_25 (by decide) ?_
    refine lv_goto (tgt := 30) hx hb dX4_arrivesIn_26 (by decide) ?_
    exact w7 (1 : Int32) _ bz1 (lv_sub hl [2, 4, 1, 0] rfl) h

def wp_X4_lays (u : Md) (p1 : Int32) (p2 : Int32) (p3 : Int32) (p4 : Int32) (post : Int32 → Md → Prop) : Prop :=
  (vp_in (0 : Int32) 854) ∧ ((vp_in ((24 : Int32) + ((7 : Int32) * ((M_s u) (Int32.toNatClampNeg (0 : Int32))))) 854) ∧ ((vp_in (((24 : Int32) + ((7 : Int32) * ((M_s u) (Int32.toNatClampNeg (0 : Int32))))) + (1 : Int32)) 854) ∧ ((vp_in (((24 : Int32) + ((7 : Int32) * ((M_s u) (Int32.toNatClampNeg (0 : Int32))))) + (2 : Int32)) 854) ∧ ((vp_in ((16 : Int32) + p1) 854) ∧ ((vp_in (((24 : Int32) + ((7 : Int32) * ((M_s u) (Int32.toNatClampNeg (0 : Int32))))) + (3 : Int32)) 854) ∧ ((vp_in ((16 : Int32) + p2) 854) ∧ ((vp_in (((24 : Int32) + ((7 : Int32) * ((M_s u) (Int32.toNatClampNeg (0 : Int32))))) + (4 : Int32)) 854) ∧ ((vp_in ((16 : Int32) + p3) 854) ∧ ((vp_in (((24 : Int32) + ((7 : Int32) * ((M_s u) (Int32.toNatClampNeg (0 : Int32))))) + (5 : Int32)) 854) ∧ ((vp_in (((24 : Int32) + ((7 : Int32) * ((M_s u) (Int32.toNatClampNeg (0 : Int32))))) + (6 : Int32)) 854) ∧ ((vp_in (0 : Int32) 854) ∧ ((vp_in (0 : Int32) 854) ∧ ((vp_in (0 : Int32) 854) ∧ (post (((M_s (wM_s (wM_s (wM_s (wM_s (wM_s (wM_s (wM_s (wM_s u (Int32.toNatClampNeg ((24 : Int32) + ((7 : Int32) * ((M_s u) (Int32.toNatClampNeg (0 : Int32)))))) p1) (Int32.toNatClampNeg (((24 : Int32) + ((7 : Int32) * ((M_s u) (Int32.toNatClampNeg (0 : Int32))))) + (1 : Int32))) p2) (Int32.toNatClampNeg (((24 : Int32) + ((7 : Int32) * ((M_s u) (Int32.toNatClampNeg (0 : Int32))))) + (2 : Int32))) p3) (Int32.toNatClampNeg (((24 : Int32) + ((7 : Int32) * ((M_s u) (Int32.toNatClampNeg (0 : Int32))))) + (3 : Int32))) ((M_s (wM_s (wM_s (wM_s u (Int32.toNatClampNeg ((24 : Int32) + ((7 : Int32) * ((M_s u) (Int32.toNatClampNeg (0 : Int32)))))) p1) (Int32.toNatClampNeg (((24 : Int32) + ((7 : Int32) * ((M_s u) (Int32.toNatClampNeg (0 : Int32))))) + (1 : Int32))) p2) (Int32.toNatClampNeg (((24 : Int32) + ((7 : Int32) * ((M_s u) (Int32.toNatClampNeg (0 : Int32))))) + (2 : Int32))) p3)) (Int32.toNatClampNeg ((16 : Int32) + p1)))) (Int32.toNatClampNeg (((24 : Int32) + ((7 : Int32) * ((M_s u) (Int32.toNatClampNeg (0 : Int32))))) + (4 : Int32))) ((M_s (wM_s (wM_s (wM_s (wM_s u (Int32.toNatClampNeg ((24 : Int32) + ((7 : Int32) * ((M_s u) (Int32.toNatClampNeg (0 : Int32)))))) p1) (Int32.toNatClampNeg (((24 : Int32) + ((7 : Int32) * ((M_s u) (Int32.toNatClampNeg (0 : Int32))))) + (1 : Int32))) p2) (Int32.toNatClampNeg (((24 : Int32) + ((7 : Int32) * ((M_s u) (Int32.toNatClampNeg (0 : Int32))))) + (2 : Int32))) p3) (Int32.toNatClampNeg (((24 : Int32) + ((7 : Int32) * ((M_s u) (Int32.toNatClampNeg (0 : Int32))))) + (3 : Int32))) ((M_s (wM_s (wM_s (wM_s u (Int32.toNatClampNeg ((24 : Int32) + ((7 : Int32) * ((M_s u) (Int32.toNatClampNeg (0 : Int32)))))) p1) (Int32.toNatClampNeg (((24 : Int32) + ((7 : Int32) * ((M_s u) (Int32.toNatClampNeg (0 : Int32))))) + (1 : Int32))) p2) (Int32.toNatClampNeg (((24 : Int32) + ((7 : Int32) * ((M_s u) (Int32.toNatClampNeg (0 : Int32))))) + (2 : Int32))) p3)) (Int32.toNatClampNeg ((16 : Int32) + p1))))) (Int32.toNatClampNeg ((16 : Int32) + p2)))) (Int32.toNatClampNeg (((24 : Int32) + ((7 : Int32) * ((M_s u) (Int32.toNatClampNeg (0 : Int32))))) + (5 : Int32))) ((M_s (wM_s (wM_s (wM_s (wM_s (wM_s u (Int32.toNatClampNeg ((24 : Int32) + ((7 : Int32) * ((M_s u) (Int32.toNatClampNeg (0 : Int32)))))) p1) (Int32.toNatClampNeg (((24 : Int32) + ((7 : Int32) * ((M_s u) (Int32.toNatClampNeg (0 : Int32))))) + (1 : Int32))) p2) (Int32.toNatClampNeg (((24 : Int32) + ((7 : Int32) * ((M_s u) (Int32.toNatClampNeg (0 : Int32))))) + (2 : Int32))) p3) (Int32.toNatClampNeg (((24 : Int32) + ((7 : Int32) * ((M_s u) (Int32.toNatClampNeg (0 : Int32))))) + (3 : Int32))) ((M_s (wM_s (wM_s (wM_s u (Int32.toNatClampNeg ((24 : Int32) + ((7 : Int32) * ((M_s u) (Int32.toNatClampNeg (0 : Int32)))))) p1) (Int32.toNatClampNeg (((24 : Int32) + ((7 : Int32) * ((M_s u) (Int32.toNatClampNeg (0 : Int32))))) + (1 : Int32))) p2) (Int32.toNatClampNeg (((24 : Int32) + ((7 : Int32) * ((M_s u) (Int32.toNatClampNeg (0 : Int32))))) + (2 : Int32))) p3)) (Int32.toNatClampNeg ((16 : Int32) + p1)))) (Int32.toNatClampNeg (((24 : Int32) + ((7 : Int32) * ((M_s u) (Int32.toNatClampNeg (0 : Int32))))) + (4 : Int32))) ((M_s (wM_s (wM_s (wM_s (wM_s u (Int32.toNatClampNeg ((24 : Int32) + ((7 : Int32) * ((M_s u) (Int32.toNatClampNeg (0 : Int32)))))) p1) (Int32.toNatClampNeg (((24 : Int32) + ((7 : Int32) * ((M_s u) (Int32.toNatClampNeg (0 : Int32))))) + (1 : Int32))) p2) (Int32.toNatClampNeg (((24 : Int32) + ((7 : Int32) * ((M_s u) (Int32.toNatClampNeg (0 : Int32))))) + (2 : Int32))) p3) (Int32.toNatClampNeg (((24 : Int32) + ((7 : Int32) * ((M_s u) (Int32.toNatClampNeg (0 : Int32))))) + (3 : Int32))) ((M_s (wM_s (wM_s (wM_s u (Int32.toNatClampNeg ((24 : Int32) + ((7 : Int32) * ((M_s u) (Int32.toNatClampNeg (0 : Int32)))))) p1) (Int32.toNatClampNeg (((24 : Int32) + ((7 : Int32) * ((M_s u) (Int32.toNatClampNeg (0 : Int32))))) + (1 : Int32))) p2) (Int32.toNatClampNeg (((24 : Int32) + ((7 : Int32) * ((M_s u) (Int32.toNatClampNeg (0 : Int32))))) + (2 : Int32))) p3)) (Int32.toNatClampNeg ((16 : Int32) + p1))))) (Int32.toNatClampNeg ((16 : Int32) + p2))))) (Int32.toNatClampNeg ((16 : Int32) + p3)))) (Int32.toNatClampNeg (((24 : Int32) + ((7 : Int32) * ((M_s u) (Int32.toNatClampNeg (0 : Int32))))) + (6 : Int32))) p4) (Int32.toNatClampNeg (0 : Int32)) (((M_s (wM_s (wM_s (wM_s (wM_s (wM_s (wM_s (wM_s u (Int32.toNatClampNeg ((24 : Int32) + ((7 : Int32) * ((M_s u) (Int32.toNatClampNeg (0 : Int32)))))) p1) (Int32.toNatClampNeg (((24 : Int32) + ((7 : Int32) * ((M_s u) (Int32.toNatClampNeg (0 : Int32))))) + (1 : Int32))) p2) (Int32.toNatClampNeg (((24 : Int32) + ((7 : Int32) * ((M_s u) (Int32.toNatClampNeg (0 : Int32))))) + (2 : Int32))) p3) (Int32.toNatClampNeg (((24 : Int32) + ((7 : Int32) * ((M_s u) (Int32.toNatClampNeg (0 : Int32))))) + (3 : Int32))) ((M_s (wM_s (wM_s (wM_s u (Int32.toNatClampNeg ((24 : Int32) + ((7 : Int32) * ((M_s u) (Int32.toNatClampNeg (0 : Int32)))))) p1) (Int32.toNatClampNeg (((24 : Int32) + ((7 : Int32) * ((M_s u) (Int32.toNatClampNeg (0 : Int32))))) + (1 : Int32))) p2) (Int32.toNatClampNeg (((24 : Int32) + ((7 : Int32) * ((M_s u) (Int32.toNatClampNeg (0 : Int32))))) + (2 : Int32))) p3)) (Int32.toNatClampNeg ((16 : Int32) + p1)))) (Int32.toNatClampNeg (((24 : Int32) + ((7 : Int32) * ((M_s u) (Int32.toNatClampNeg (0 : Int32))))) + (4 : Int32))) ((M_s (wM_s (wM_s (wM_s (wM_s u (Int32.toNatClampNeg ((24 : Int32) + ((7 : Int32) * ((M_s u) (Int32.toNatClampNeg (0 : Int32)))))) p1) (Int32.toNatClampNeg (((24 : Int32) + ((7 : Int32) * ((M_s u) (Int32.toNatClampNeg (0 : Int32))))) + (1 : Int32))) p2) (Int32.toNatClampNeg (((24 : Int32) + ((7 : Int32) * ((M_s u) (Int32.toNatClampNeg (0 : Int32))))) + (2 : Int32))) p3) (Int32.toNatClampNeg (((24 : Int32) + ((7 : Int32) * ((M_s u) (Int32.toNatClampNeg (0 : Int32))))) + (3 : Int32))) ((M_s (wM_s (wM_s (wM_s u (Int32.toNatClampNeg ((24 : Int32) + ((7 : Int32) * ((M_s u) (Int32.toNatClampNeg (0 : Int32)))))) p1) (Int32.toNatClampNeg (((24 : Int32) + ((7 : Int32) * ((M_s u) (Int32.toNatClampNeg (0 : Int32))))) + (1 : Int32))) p2) (Int32.toNatClampNeg (((24 : Int32) + ((7 : Int32) * ((M_s u) (Int32.toNatClampNeg (0 : Int32))))) + (2 : Int32))) p3)) (Int32.toNatClampNeg ((16 : Int32) + p1))))) (Int32.toNatClampNeg ((16 : Int32) + p2)))) (Int32.toNatClampNeg (((24 : Int32) + ((7 : Int32) * ((M_s u) (Int32.toNatClampNeg (0 : Int32))))) + (5 : Int32))) ((M_s (wM_s (wM_s (wM_s (wM_s (wM_s u (Int32.toNatClampNeg ((24 : Int32) + ((7 : Int32) * ((M_s u) (Int32.toNatClampNeg (0 : Int32)))))) p1) (Int32.toNatClampNeg (((24 : Int32) + ((7 : Int32) * ((M_s u) (Int32.toNatClampNeg (0 : Int32))))) + (1 : Int32))) p2) (Int32.toNatClampNeg (((24 : Int32) + ((7 : Int32) * ((M_s u) (Int32.toNatClampNeg (0 : Int32))))) + (2 : Int32))) p3) (Int32.toNatClampNeg (((24 : Int32) + ((7 : Int32) * ((M_s u) (Int32.toNatClampNeg (0 : Int32))))) + (3 : Int32))) ((M_s (wM_s (wM_s (wM_s u (Int32.toNatClampNeg ((24 : Int32) + ((7 : Int32) * ((M_s u) (Int32.toNatClampNeg (0 : Int32)))))) p1) (Int32.toNatClampNeg (((24 : Int32) + ((7 : Int32) * ((M_s u) (Int32.toNatClampNeg (0 : Int32))))) + (1 : Int32))) p2) (Int32.toNatClampNeg (((24 : Int32) + ((7 : Int32) * ((M_s u) (Int32.toNatClampNeg (0 : Int32))))) + (2 : Int32))) p3)) (Int32.toNatClampNeg ((16 : Int32) + p1)))) (Int32.toNatClampNeg (((24 : Int32) + ((7 : Int32) * ((M_s u) (Int32.toNatClampNeg (0 : Int32))))) + (4 : Int32))) ((M_s (wM_s (wM_s (wM_s (wM_s u (Int32.toNatClampNeg ((24 : Int32) + ((7 : Int32) * ((M_s u) (Int32.toNatClampNeg (0 : Int32)))))) p1) (Int32.toNatClampNeg (((24 : Int32) + ((7 : Int32) * ((M_s u) (Int32.toNatClampNeg (0 : Int32))))) + (1 : Int32))) p2) (Int32.toNatClampNeg (((24 : Int32) + ((7 : Int32) * ((M_s u) (Int32.toNatClampNeg (0 : Int32))))) + (2 : Int32))) p3) (Int32.toNatClampNeg (((24 : Int32) + ((7 : Int32) * ((M_s u) (Int32.toNatClampNeg (0 : Int32))))) + (3 : Int32))) ((M_s (wM_s (wM_s (wM_s u (Int32.toNatClampNeg ((24 : Int32) + ((7 : Int32) * ((M_s u) (Int32.toNatClampNeg (0 : Int32)))))) p1) (Int32.toNatClampNeg (((24 : Int32) + ((7 : Int32) * ((M_s u) (Int32.toNatClampNeg (0 : Int32))))) + (1 : Int32))) p2) (Int32.toNatClampNeg (((24 : Int32) + ((7 : Int32) * ((M_s u) (Int32.toNatClampNeg (0 : Int32))))) + (2 : Int32))) p3)) (Int32.toNatClampNeg ((16 : Int32) + p1))))) (Int32.toNatClampNeg ((16 : Int32) + p2))))) (Int32.toNatClampNeg ((16 : Int32) + p3)))) (Int32.toNatClampNeg (((24 : Int32) + ((7 : Int32) * ((M_s u) (Int32.toNatClampNeg (0 : Int32))))) + (6 : Int32))) p4)) (Int32.toNatClampNeg (0 : Int32))) + (1 : Int32)))) (Int32.toNatClampNeg (0 : Int32))) - (1 : Int32)) (wM_s (wM_s (wM_s (wM_s (wM_s (wM_s (wM_s (wM_s u (Int32.toNatClampNeg ((24 : Int32) + ((7 : Int32) * ((M_s u) (Int32.toNatClampNeg (0 : Int32)))))) p1) (Int32.toNatClampNeg (((24 : Int32) + ((7 : Int32) * ((M_s u) (Int32.toNatClampNeg (0 : Int32))))) + (1 : Int32))) p2) (Int32.toNatClampNeg (((24 : Int32) + ((7 : Int32) * ((M_s u) (Int32.toNatClampNeg (0 : Int32))))) + (2 : Int32))) p3) (Int32.toNatClampNeg (((24 : Int32) + ((7 : Int32) * ((M_s u) (Int32.toNatClampNeg (0 : Int32))))) + (3 : Int32))) ((M_s (wM_s (wM_s (wM_s u (Int32.toNatClampNeg ((24 : Int32) + ((7 : Int32) * ((M_s u) (Int32.toNatClampNeg (0 : Int32)))))) p1) (Int32.toNatClampNeg (((24 : Int32) + ((7 : Int32) * ((M_s u) (Int32.toNatClampNeg (0 : Int32))))) + (1 : Int32))) p2) (Int32.toNatClampNeg (((24 : Int32) + ((7 : Int32) * ((M_s u) (Int32.toNatClampNeg (0 : Int32))))) + (2 : Int32))) p3)) (Int32.toNatClampNeg ((16 : Int32) + p1)))) (Int32.toNatClampNeg (((24 : Int32) + ((7 : Int32) * ((M_s u) (Int32.toNatClampNeg (0 : Int32))))) + (4 : Int32))) ((M_s (wM_s (wM_s (wM_s (wM_s u (Int32.toNatClampNeg ((24 : Int32) + ((7 : Int32) * ((M_s u) (Int32.toNatClampNeg (0 : Int32)))))) p1) (Int32.toNatClampNeg (((24 : Int32) + ((7 : Int32) * ((M_s u) (Int32.toNatClampNeg (0 : Int32))))) + (1 : Int32))) p2) (Int32.toNatClampNeg (((24 : Int32) + ((7 : Int32) * ((M_s u) (Int32.toNatClampNeg (0 : Int32))))) + (2 : Int32))) p3) (Int32.toNatClampNeg (((24 : Int32) + ((7 : Int32) * ((M_s u) (Int32.toNatClampNeg (0 : Int32))))) + (3 : Int32))) ((M_s (wM_s (wM_s (wM_s u (Int32.toNatClampNeg ((24 : Int32) + ((7 : Int32) * ((M_s u) (Int32.toNatClampNeg (0 : Int32)))))) p1) (Int32.toNatClampNeg (((24 : Int32) + ((7 : Int32) * ((M_s u) (Int32.toNatClampNeg (0 : Int32))))) + (1 : Int32))) p2) (Int32.toNatClampNeg (((24 : Int32) + ((7 : Int32) * ((M_s u) (Int32.toNatClampNeg (0 : Int32))))) + (2 : Int32))) p3)) (Int32.toNatClampNeg ((16 : Int32) + p1))))) (Int32.toNatClampNeg ((16 : Int32) + p2)))) (Int32.toNatClampNeg (((24 : Int32) + ((7 : Int32) * ((M_s u) (Int32.toNatClampNeg (0 : Int32))))) + (5 : Int32))) ((M_s (wM_s (wM_s (wM_s (wM_s (wM_s u (Int32.toNatClampNeg ((24 : Int32) + ((7 : Int32) * ((M_s u) (Int32.toNatClampNeg (0 : Int32)))))) p1) (Int32.toNatClampNeg (((24 : Int32) + ((7 : Int32) * ((M_s u) (Int32.toNatClampNeg (0 : Int32))))) + (1 : Int32))) p2) (Int32.toNatClampNeg (((24 : Int32) + ((7 : Int32) * ((M_s u) (Int32.toNatClampNeg (0 : Int32))))) + (2 : Int32))) p3) (Int32.toNatClampNeg (((24 : Int32) + ((7 : Int32) * ((M_s u) (Int32.toNatClampNeg (0 : Int32))))) + (3 : Int32))) ((M_s (wM_s (wM_s (wM_s u (Int32.toNatClampNeg ((24 : Int32) + ((7 : Int32) * ((M_s u) (Int32.toNatClampNeg (0 : Int32)))))) p1) (Int32.toNatClampNeg (((24 : Int32) + ((7 : Int32) * ((M_s u) (Int32.toNatClampNeg (0 : Int32))))) + (1 : Int32))) p2) (Int32.toNatClampNeg (((24 : Int32) + ((7 : Int32) * ((M_s u) (Int32.toNatClampNeg (0 : Int32))))) + (2 : Int32))) p3)) (Int32.toNatClampNeg ((16 : Int32) + p1)))) (Int32.toNatClampNeg (((24 : Int32) + ((7 : Int32) * ((M_s u) (Int32.toNatClampNeg (0 : Int32))))) + (4 : Int32))) ((M_s (wM_s (wM_s (wM_s (wM_s u (Int32.toNatClampNeg ((24 : Int32) + ((7 : Int32) * ((M_s u) (Int32.toNatClampNeg (0 : Int32)))))) p1) (Int32.toNatClampNeg (((24 : Int32) + ((7 : Int32) * ((M_s u) (Int32.toNatClampNeg (0 : Int32))))) + (1 : Int32))) p2) (Int32.toNatClampNeg (((24 : Int32) + ((7 : Int32) * ((M_s u) (Int32.toNatClampNeg (0 : Int32))))) + (2 : Int32))) p3) (Int32.toNatClampNeg (((24 : Int32) + ((7 : Int32) * ((M_s u) (Int32.toNatClampNeg (0 : Int32))))) + (3 : Int32))) ((M_s (wM_s (wM_s (wM_s u (Int32.toNatClampNeg ((24 : Int32) + ((7 : Int32) * ((M_s u) (Int32.toNatClampNeg (0 : Int32)))))) p1) (Int32.toNatClampNeg (((24 : Int32) + ((7 : Int32) * ((M_s u) (Int32.toNatClampNeg (0 : Int32))))) + (1 : Int32))) p2) (Int32.toNatClampNeg (((24 : Int32) + ((7 : Int32) * ((M_s u) (Int32.toNatClampNeg (0 : Int32))))) + (2 : Int32))) p3)) (Int32.toNatClampNeg ((16 : Int32) + p1))))) (Int32.toNatClampNeg ((16 : Int32) + p2))))) (Int32.toNatClampNeg ((16 : Int32) + p3)))) (Int32.toNatClampNeg (((24 : Int32) + ((7 : Int32) * ((M_s u) (Int32.toNatClampNeg (0 : Int32))))) + (6 : Int32))) p4) (Int32.toNatClampNeg (0 : Int32)) (((M_s (wM_s (wM_s (wM_s (wM_s (wM_s (wM_s (wM_s u (Int32.toNatClampNeg ((24 : Int32) + ((7 : Int32) * ((M_s u) (Int32.toNatClampNeg (0 : Int32)))))) p1) (Int32.toNatClampNeg (((24 : Int32) + ((7 : Int32) * ((M_s u) (Int32.toNatClampNeg (0 : Int32))))) + (1 : Int32))) p2) (Int32.toNatClampNeg (((24 : Int32) + ((7 : Int32) * ((M_s u) (Int32.toNatClampNeg (0 : Int32))))) + (2 : Int32))) p3) (Int32.toNatClampNeg (((24 : Int32) + ((7 : Int32) * ((M_s u) (Int32.toNatClampNeg (0 : Int32))))) + (3 : Int32))) ((M_s (wM_s (wM_s (wM_s u (Int32.toNatClampNeg ((24 : Int32) + ((7 : Int32) * ((M_s u) (Int32.toNatClampNeg (0 : Int32)))))) p1) (Int32.toNatClampNeg (((24 : Int32) + ((7 : Int32) * ((M_s u) (Int32.toNatClampNeg (0 : Int32))))) + (1 : Int32))) p2) (Int32.toNatClampNeg (((24 : Int32) + ((7 : Int32) * ((M_s u) (Int32.toNatClampNeg (0 : Int32))))) + (2 : Int32))) p3)) (Int32.toNatClampNeg ((16 : Int32) + p1)))) (Int32.toNatClampNeg (((24 : Int32) + ((7 : Int32) * ((M_s u) (Int32.toNatClampNeg (0 : Int32))))) + (4 : Int32))) ((M_s (wM_s (wM_s (wM_s (wM_s u (Int32.toNatClampNeg ((24 : Int32) + ((7 : Int32) * ((M_s u) (Int32.toNatClampNeg (0 : Int32)))))) p1) (Int32.toNatClampNeg (((24 : Int32) + ((7 : Int32) * ((M_s u) (Int32.toNatClampNeg (0 : Int32))))) + (1 : Int32))) p2) (Int32.toNatClampNeg (((24 : Int32) + ((7 : Int32) * ((M_s u) (Int32.toNatClampNeg (0 : Int32))))) + (2 : Int32))) p3) (Int32.toNatClampNeg (((24 : Int32) + ((7 : Int32) * ((M_s u) (Int32.toNatClampNeg (0 : Int32))))) + (3 : Int32))) ((M_s (wM_s (wM_s (wM_s u (Int32.toNatClampNeg ((24 : Int32) + ((7 : Int32) * ((M_s u) (Int32.toNatClampNeg (0 : Int32)))))) p1) (Int32.toNatClampNeg (((24 : Int32) + ((7 : Int32) * ((M_s u) (Int32.toNatClampNeg (0 : Int32))))) + (1 : Int32))) p2) (Int32.toNatClampNeg (((24 : Int32) + ((7 : Int32) * ((M_s u) (Int32.toNatClampNeg (0 : Int32))))) + (2 : Int32))) p3)) (Int32.toNatClampNeg ((16 : Int32) + p1))))) (Int32.toNatClampNeg ((16 : Int32) + p2)))) (Int32.toNatClampNeg (((24 : Int32) + ((7 : Int32) * ((M_s u) (Int32.toNatClampNeg (0 : Int32))))) + (5 : Int32))) ((M_s (wM_s (wM_s (wM_s (wM_s (wM_s u (Int32.toNatClampNeg ((24 : Int32) + ((7 : Int32) * ((M_s u) (Int32.toNatClampNeg (0 : Int32)))))) p1) (Int32.toNatClampNeg (((24 : Int32) + ((7 : Int32) * ((M_s u) (Int32.toNatClampNeg (0 : Int32))))) + (1 : Int32))) p2) (Int32.toNatClampNeg (((24 : Int32) + ((7 : Int32) * ((M_s u) (Int32.toNatClampNeg (0 : Int32))))) + (2 : Int32))) p3) (Int32.toNatClampNeg (((24 : Int32) + ((7 : Int32) * ((M_s u) (Int32.toNatClampNeg (0 : Int32))))) + (3 : Int32))) ((M_s (wM_s (wM_s (wM_s u (Int32.toNatClampNeg ((24 : Int32) + ((7 : Int32) * ((M_s u) (Int32.toNatClampNeg (0 : Int32)))))) p1) (Int32.toNatClampNeg (((24 : Int32) + ((7 : Int32) * ((M_s u) (Int32.toNatClampNeg (0 : Int32))))) + (1 : Int32))) p2) (Int32.toNatClampNeg (((24 : Int32) + ((7 : Int32) * ((M_s u) (Int32.toNatClampNeg (0 : Int32))))) + (2 : Int32))) p3)) (Int32.toNatClampNeg ((16 : Int32) + p1)))) (Int32.toNatClampNeg (((24 : Int32) + ((7 : Int32) * ((M_s u) (Int32.toNatClampNeg (0 : Int32))))) + (4 : Int32))) ((M_s (wM_s (wM_s (wM_s (wM_s u (Int32.toNatClampNeg ((24 : Int32) + ((7 : Int32) * ((M_s u) (Int32.toNatClampNeg (0 : Int32)))))) p1) (Int32.toNatClampNeg (((24 : Int32) + ((7 : Int32) * ((M_s u) (Int32.toNatClampNeg (0 : Int32))))) + (1 : Int32))) p2) (Int32.toNatClampNeg (((24 : Int32) + ((7 : Int32) * ((M_s u) (Int32.toNatClampNeg (0 : Int32))))) + (2 : Int32))) p3) (Int32.toNatClampNeg (((24 : Int32) + ((7 : Int32) * ((M_s u) (Int32.toNatClampNeg (0 : Int32))))) + (3 : Int32))) ((M_s (wM_s (wM_s (wM_s u (Int32.toNatClampNeg ((24 : Int32) + ((7 : Int32) * ((M_s u) (Int32.toNatClampNeg (0 : Int32)))))) p1) (Int32.toNatClampNeg (((24 : Int32) + ((7 : Int32) * ((M_s u) (Int32.toNatClampNeg (0 : Int32))))) + (1 : Int32))) p2) (Int32.toNatClampNeg (((24 : Int32) + ((7 : Int32) * ((M_s u) (Int32.toNatClampNeg (0 : Int32))))) + (2 : Int32))) p3)) (Int32.toNatClampNeg ((16 : Int32) + p1))))) (Int32.toNatClampNeg ((16 : Int32) + p2))))) (Int32.toNatClampNeg ((16 : Int32) + p3)))) (Int32.toNatClampNeg (((24 : Int32) + ((7 : Int32) * ((M_s u) (Int32.toNatClampNeg (0 : Int32))))) + (6 : Int32))) p4)) (Int32.toNatClampNeg (0 : Int32))) + (1 : Int32)))))))))))))))))
set_option maxHeartbeats 4000000 in
set_option maxRecDepth 100000 in
theorem c_X4_lays (l : Launch) (D : va_G) (cI cS cJ : ClassId) (a : Nat → Nat) (u : Md) (sz : Nat) (p1 : Int32) (p2 : Int32) (p3 : Int32) (p4 : Int32) {post : Int32 → Md → Prop} (h : wp_X4_lays u p1 p2 p3 p4 post) : Met l yX4_lays (wsA yX4_lays cX4_lays 6 (some .int)) rm_X4_lays (va_Pc [.ref (a 0), .int p1, .int p2, .int p3, .int p4] (rwP D (tysA cI cS cJ) (mdW cI a u) sz)) (va_Qi post (fun u9 t => va_P D vwCl ((mdW cI a) u9) t.heap ∧ va_D (va_A (mdW cI a u) sz) ((mdW cI a) u9)) (va_A (mdW cI a u) sz)) 0 0 (va_A (mdW cI a u) sz) := by
  refine mkRWi (wf := (mdW cI a)) (by decide +kernel) (Nat.le_of_ble_eq_true rfl) (fun {p e s m args below meth c Q ls A H0 H locs} hx hb F hts hown hK hP hD hS hA hl hQ => ?_)
  have hown : s.vm.findClass RX4 = some m.cls := hown
  have F : CallFix p m c cX4_lays 6 s args wsT RX4 := F
  have hl : lv_has ls 6 [(0, .ref (a 0)), (1, .int p1), (2, .int p2), (3, .int p3), (4, .int p4)] := hl
  unfold wp_X4_lays at h
  refine lv_bipush (v := (24 : Int32)) hx hb dX4_lays_0 (by decide) ?_
  refine lv_bipush (v := (7 : Int32)) hx hb dX4_lays_2 (by decide) ?_
  refine lv_aload_n hx hb dX4_lays_4 rfl (lv_at hl 0 rfl) ?_
  refine va_get (D := D) (ci := 4) (v := .ref (a 1)) (C := RX4) (T := TX4) (N := 12) hx hb hts inT4 hown hK.k hP 0 rfl rfl 1 (by decide) (hts _ q_820) (fun _ h9 => h9) rfl dX4_lays_5 ?_
  refine lv_iconst (v := (0 : Int32)) hx hb dX4_lays_8 (by decide) ?_
  refine va_iald hx hb hK.k hP 1 0 rfl rfl h.1 dX4_lays_9 ?_
  replace h := h.2
  refine lv_imul hx hb dX4_lays_10 ?_
  refine lv_iadd hx hb dX4_lays_11 ?_
  refine lv_istore (lv' := [(5, .int ((24 : Int32) + ((7 : Int32) * ((M_s u) (Int32.toNatClampNeg (0 : Int32)))))), (0, .ref (a 0)), (1, .int p1), (2, .int p2), (3, .int p3), (4, .int p4)]) hx hb dX4_lays_12 hl (by decide) rfl (fun ls hl => ?_)
  refine lv_aload_n hx hb dX4_lays_14 rfl (lv_at hl 1 rfl) ?_
  refine va_get (D := D) (ci := 4) (v := .ref (a 1)) (C := RX4) (T := TX4) (N := 12) hx hb hts inT4 hown hK.k hP 0 rfl rfl 1 (by decide) (hts _ q_820) (fun _ h9 => h9) rfl dX4_lays_15 ?_
  refine lv_iload hx hb dX4_lays_18 (lv_at hl 0 rfl) ?_
  refine lv_iload_n hx hb dX4_lays_20 rfl (lv_at hl 2 rfl) ?_
  refine va_iast hx hb hK.k hP hD hS 1 0 rfl rfl h.1 dX4_lays_21 (fun H locs hP hD hS => ?_)
  replace h := h.2
  have hP : va_P D vwCl (mdW cI a (wM_s u (Int32.toNatClampNeg ((24 : Int32) + ((7 : Int32) * ((M_s u) (Int32.toNatClampNeg (0 : Int32)))))) p1)) H := hP
  have hD : va_D A (mdW cI a (wM_s u (Int32.toNatClampNeg ((24 : Int32) + ((7 : Int32) * ((M_s u) (Int32.toNatClampNeg (0 : Int32)))))) p1)) := hD
  refine lv_aload_n hx hb dX4_lays_22 rfl (lv_at hl 1 rfl) ?_
  refine va_get (D := D) (ci := 4) (v := .ref (a 1)) (C := RX4) (T := TX4) (N := 12) hx hb hts inT4 hown hK.k hP 0 rfl rfl 1 (by decide) (hts _ q_820) (fun _ h9 => h9) rfl dX4_lays_23 ?_
  refine lv_iload hx hb dX4_lays_26 (lv_at hl 0 rfl) ?_
  refine lv_iconst (v := (1 : Int32)) hx hb dX4_lays_28 (by decide) ?_
  refine lv_iadd hx hb dX4_lays_29 ?_
  refine lv_iload_n hx hb dX4_lays_30 rfl (lv_at hl 3 rfl) ?_
  refine va_iast hx hb hK.k hP hD hS 1 0 rfl rfl h.1 dX4_lays_31 (fun H locs hP hD hS => ?_)
  replace h := h.2
  have hP : va_P D vwCl (mdW cI a (wM_s (wM_s u (Int32.toNatClampNeg ((24 : Int32) + ((7 : Int32) * ((M_s u) (Int32.toNatClampNeg (0 : Int32)))))) p1) (Int32.toNatClampNeg (((24 : Int32) + ((7 : Int32) * ((M_s u) (Int32.toNatClampNeg (0 : Int32))))) + (1 : Int32))) p2)) H := hP
  have hD : va_D A (mdW cI a (wM_s (wM_s u (Int32.toNatClampNeg ((24 : Int32) + ((7 : Int32) * ((M_s u) (Int32.toNatClampNeg (0 : Int32)))))) p1) (Int32.toNatClampNeg (((24 : Int32) + ((7 : Int32) * ((M_s u) (Int32.toNatClampNeg (0 : Int32))))) + (1 : Int32))) p2)) := hD
  refine lv_aload_n hx hb dX4_lays_32 rfl (lv_at hl 1 rfl) ?_
  refine va_get (D := D) (ci := 4) (v := .ref (a 1)) (C := RX4) (T := TX4) (N := 12) hx hb hts inT4 hown hK.k hP 0 rfl rfl 1 (by decide) (hts _ q_820) (fun _ h9 => h9) rfl dX4_lays_33 ?_
  refine lv_iload hx hb dX4_lays_36 (lv_at hl 0 rfl) ?_
  refine lv_iconst (v := (2 : Int32)) hx hb dX4_lays_38 (by decide) ?_
  refine lv_iadd hx hb dX4_lays_39 ?_
  refine lv_iload_n hx hb dX4_lays_40 rfl (lv_at hl 4 rfl) ?_
  refine va_iast hx hb hK.k hP hD hS 1 0 rfl rfl h.1 dX4_lays_41 (fun H locs hP hD hS => ?_)
  replace h := h.2
  have hP : va_P D vwCl (mdW cI a (wM_s (wM_s (wM_s u (Int32.toNatClampNeg ((24 : Int32) + ((7 : Int32) * ((M_s u) (Int32.toNatClampNeg (0 : Int32)))))) p1) (Int32.toNatClampNeg (((24 : Int32) + ((7 : Int32) * ((M_s u) (Int32.toNatClampNeg (0 : Int32))))) + (1 : Int32))) p2) (Int32.toNatClampNeg (((24 : Int32) + ((7 : Int32) * ((M_s u) (Int32.toNatClampNeg (0 : Int32))))) + (2 : Int32))) p3)) H := hP
  have hD : va_D A (mdW cI a (wM_s (wM_s (wM_s u (Int32.toNatClampNeg ((24 : Int32) + ((7 : Int32) * ((M_s u) (Int32.toNatClampNeg (0 : Int32)))))) p1) (Int32.toNatClampNeg (((24 : Int32) + ((7 : Int32) * ((M_s u) (Int32.toNatClampNeg (0 : Int32))))) + (1 : Int32))) p2) (Int32.toNatClampNeg (((24 : Int32) + ((7 : Int32) * ((M_s u) (Int32.toNatClampNeg (0 : Int32))))) + (2 : Int32))) p3)) := hD
  refine lv_aload_n hx hb dX4_lays_42 rfl (lv_at hl 1 rfl) ?_
  refine va_get (D := D) (ci := 4) (v := .ref (a 1)) (C := RX4) (T := TX4) (N := 12) hx hb hts inT4 hown hK.k hP 0 rfl rfl 1 (by decide) (hts _ q_820) (fun _ h9 => h9) rfl dX4_lays_43 ?_
  refine lv_iload hx hb dX4_lays_46 (lv_at hl 0 rfl) ?_
  refine lv_iconst (v := (3 : Int32)) hx hb dX4_lays_48 (by decide) ?_
  refine lv_iadd hx hb dX4_lays_49 ?_
  refine lv_aload_n hx hb dX4_lays_50 rfl (lv_at hl 1 rfl) ?_
  refine va_get (D := D) (ci := 4) (v := .ref (a 1)) (C := RX4) (T := TX4) (N := 12) hx hb hts inT4 hown hK.k hP 0 rfl rfl 1 (by decide) (hts _ q_820) (fun _ h9 => h9) rfl dX4_lays_51 ?_
  refine lv_bipush (v := (16 : Int32)) hx hb dX4_lays_54 (by decide) ?_
  refine lv_iload_n hx hb dX4_lays_56 rfl (lv_at hl 2 rfl) ?_
  refine lv_iadd hx hb dX4_lays_57 ?_
  refine va_iald hx hb hK.k hP 1 0 rfl rfl h.1 dX4_lays_58 ?_
  replace h := h.2
  refine va_iast hx hb hK.k hP hD hS 1 0 rfl rfl h.1 dX4_lays_59 (fun H locs hP hD hS => ?_)
  replace h := h.2
  have hP : va_P D vwCl (mdW cI a (wM_s (wM_s (wM_s (wM_s u (Int32.toNatClampNeg ((24 : Int32) + ((7 : Int32) * ((M_s u) (Int32.toNatClampNeg (0 : Int32)))))) p1) (Int32.toNatClampNeg (((24 : Int32) + ((7 : Int32) * ((M_s u) (Int32.toNatClampNeg (0 : Int32))))) + (1 : Int32))) p2) (Int32.toNatClampNeg (((24 : Int32) + ((7 : Int32) * ((M_s u) (Int32.toNatClampNeg (0 : Int32))))) + (2 : Int32))) p3) (Int32.toNatClampNeg (((24 : Int32) + ((7 : Int32) * ((M_s u) (Int32.toNatClampNeg (0 : Int32))))) + (3 : Int32))) ((M_s (wM_s (wM_s (wM_s u (Int32.toNatClampNeg ((24 : Int32) + ((7 : Int32) * ((M_s u) (Int32.toNatClampNeg (0 : Int32)))))) p1) (Int32.toNatClampNeg (((24 : Int32) + ((7 : Int32) * ((M_s u) (Int32.toNatClampNeg (0 : Int32))))) + (1 : Int32))) p2) (Int32.toNatClampNeg (((24 : Int32) + ((7 : Int32) * ((M_s u) (Int32.toNatClampNeg (0 : Int32))))) + (2 : Int32))) p3)) (Int32.toNatClampNeg ((16 : Int32) + p1))))) H := hP
  have hD : va_D A (mdW cI a (wM_s (wM_s (wM_s (wM_s u (Int32.toNatClampNeg ((24 : Int32) + ((7 : Int32) * ((M_s u) (Int32.toNatClampNeg (0 : Int32)))))) p1) (Int32.toNatClampNeg (((24 : Int32) + ((7 : Int32) * ((M_s u) (Int32.toNatClampNeg (0 : Int32))))) + (1 : Int32))) p2) (Int32.toNatClampNeg (((24 : Int32) + ((7 : Int32) * ((M_s u) (Int32.toNatClampNeg (0 : Int32))))) + (2 : Int32))) p3) (Int32.toNatClampNeg (((24 : Int32) + ((7 : Int32) * ((M_s u) (Int32.toNatClampNeg (0 : Int32))))) + (3 : Int32))) ((M_s (wM_s (wM_s (wM_s u (Int32.toNatClampNeg ((24 : Int32) + ((7 : Int32) * ((M_s u) (Int32.toNatClampNeg (0 : Int32)))))) p1) (Int32.toNatClampNeg (((24 : Int32) + ((7 : Int32) * ((M_s u) (Int32.toNatClampNeg (0 : Int32))))) + (1 : Int32))) p2) (Int32.toNatClampNeg (((24 : Int32) + ((7 : Int32) * ((M_s u) (Int32.toNatClampNeg (0 : Int32))))) + (2 : Int32))) p3)) (Int32.toNatClampNeg ((16 : Int32) + p1))))) := hD
  refine lv_aload_n hx hb dX4_lays_60 rfl (lv_at hl 1 rfl) ?_
  refine va_get (D := D) (ci := 4) (v := .ref (a 1)) (C := RX4) (T := TX4) (N := 12) hx hb hts inT4 hown hK.k hP 0 rfl rfl 1 (by decide) (hts _ q_820) (fun _ h9 => h9) rfl dX4_lays_61 ?_
  refine lv_iload hx hb dX4_lays_64 (lv_at hl 0 rfl) ?_
  refine lv_iconst (v := (4 : Int32)) hx hb dX4_lays_66 (by decide) ?_
  refine lv_iadd hx hb dX4_lays_67 ?_
  refine lv_aload_n hx hb dX4_lays_68 rfl (lv_at hl 1 rfl) ?_
  refine va_get (D := D) (ci := 4) (v := .ref (a 1)) (C := RX4) (T := TX4) (N := 12) hx hb hts inT4 hown hK.k hP 0 rfl rfl 1 (by decide) (hts _ q_820) (fun _ h9 => h9) rfl dX4_lays_69 ?_
  refine lv_bipush (v := (16 : Int32)) hx hb dX4_lays_72 (by decide) ?_
  refine lv_iload_n hx hb dX4_lays_74 rfl (lv_at hl 3 rfl) ?_
  refine lv_iadd hx hb dX4_lays_75 ?_
  refine va_iald hx hb hK.k hP 1 0 rfl rfl h.1 dX4_lays_76 ?_
  replace h := h.2
  refine va_iast hx hb hK.k hP hD hS 1 0 rfl rfl h.1 dX4_lays_77 (fun H locs hP hD hS => ?_)
  replace h := h.2
  have hP : va_P D vwCl (mdW cI a (wM_s (wM_s (wM_s (wM_s (wM_s u (Int32.toNatClampNeg ((24 : Int32) + ((7 : Int32) * ((M_s u) (Int32.toNatClampNeg (0 : Int32)))))) p1) (Int32.toNatClampNeg (((24 : Int32) + ((7 : Int32) * ((M_s u) (Int32.toNatClampNeg (0 : Int32))))) + (1 : Int32))) p2) (Int32.toNatClampNeg (((24 : Int32) + ((7 : Int32) * ((M_s u) (Int32.toNatClampNeg (0 : Int32))))) + (2 : Int32))) p3) (Int32.toNatClampNeg (((24 : Int32) + ((7 : Int32) * ((M_s u) (Int32.toNatClampNeg (0 : Int32))))) + (3 : Int32))) ((M_s (wM_s (wM_s (wM_s u (Int32.toNatClampNeg ((24 : Int32) + ((7 : Int32) * ((M_s u) (Int32.toNatClampNeg (0 : Int32)))))) p1) (Int32.toNatClampNeg (((24 : Int32) + ((7 : Int32) * ((M_s u) (Int32.toNatClampNeg (0 : Int32))))) + (1 : Int32))) p2) (Int32.toNatClampNeg (((24 : Int32) + ((7 : Int32) * ((M_s u) (Int32.toNatClampNeg (0 : Int32))))) + (2 : Int32))) p3)) (Int32.toNatClampNeg ((16 : Int32) + p1)))) (Int32.toNatClampNeg (((24 : Int32) + ((7 : Int32) * ((M_s u) (Int32.toNatClampNeg (0 : Int32))))) + (4 : Int32))) ((M_s (wM_s (wM_s (wM_s (wM_s u (Int32.toNatClampNeg ((24 : Int32) + ((7 : Int32) * ((M_s u) (Int32.toNatClampNeg (0 : Int32)))))) p1) (Int32.toNatClampNeg (((24 : Int32) + ((7 : Int32) * ((M_s u) (Int32.toNatClampNeg (0 : Int32))))) + (1 : Int32))) p2) (Int32.toNatClampNeg (((24 : Int32) + ((7 : Int32) * ((M_s u) (Int32.toNatClampNeg (0 : Int32))))) + (2 : Int32))) p3) (Int32.toNatClampNeg (((24 : Int32) + ((7 : Int32) * ((M_s u) (Int32.toNatClampNeg (0 : Int32))))) + (3 : Int32))) ((M_s (wM_s (wM_s (wM_s u (Int32.toNatClampNeg ((24 : Int32) + ((7 : Int32) * ((M_s u) (Int32.toNatClampNeg (0 : Int32)))))) p1) (Int32.toNatClampNeg (((24 : Int32) + ((7 : Int32) * ((M_s u) (Int32.toNatClampNeg (0 : Int32))))) + (1 : Int32))) p2) (Int32.toNatClampNeg (((24 : Int32) + ((7 : Int32) * ((M_s u) (Int32.toNatClampNeg (0 : Int32))))) + (2 : Int32))) p3)) (Int32.toNatClampNeg ((16 : Int32) + p1))))) (Int32.toNatClampNeg ((16 : Int32) + p2))))) H := hP
  have hD : va_D A (mdW cI a (wM_s (wM_s (wM_s (wM_s (wM_s u (Int32.toNatClampNeg ((24 : Int32) + ((7 : Int32) * ((M_s u) (Int32.toNatClampNeg (0 : Int32)))))) p1) (Int32.toNatClampNeg (((24 : Int32) + ((7 : Int32) * ((M_s u) (Int32.toNatClampNeg (0 : Int32))))) + (1 : Int32))) p2) (Int32.toNatClampNeg (((24 : Int32) + ((7 : Int32) * ((M_s u) (Int32.toNatClampNeg (0 : Int32))))) + (2 : Int32))) p3) (Int32.toNatClampNeg (((24 : Int32) + ((7 : Int32) * ((M_s u) (Int32.toNatClampNeg (0 : Int32))))) + (3 : Int32))) ((M_s (wM_s (wM_s (wM_s u (Int32.toNatClampNeg ((24 : Int32) + ((7 : Int32) * ((M_s u) (Int32.toNatClampNeg (0 : Int32)))))) p1) (Int32.toNatClampNeg (((24 : Int32) + ((7 : Int32) * ((M_s u) (Int32.toNatClampNeg (0 : Int32))))) + (1 : Int32))) p2) (Int32.toNatClampNeg (((24 : Int32) + ((7 : Int32) * ((M_s u) (Int32.toNatClampNeg (0 : Int32))))) + (2 : Int32))) p3)) (Int32.toNatClampNeg ((16 : Int32) + p1)))) (Int32.toNatClampNeg (((24 : Int32) + ((7 : Int32) * ((M_s u) (Int32.toNatClampNeg (0 : Int32))))) + (4 : Int32))) ((M_s (wM_s (wM_s (wM_s (wM_s u (Int32.toNatClampNeg ((24 : Int32) + ((7 : Int32) * ((M_s u) (Int32.toNatClampNeg (0 : Int32)))))) p1) (Int32.toNatClampNeg (((24 : Int32) + ((7 : Int32) * ((M_s u) (Int32.toNatClampNeg (0 : Int32))))) + (1 : Int32))) p2) (Int32.toNatClampNeg (((24 : Int32) + ((7 : Int32) * ((M_s u) (Int32.toNatClampNeg (0 : Int32))))) + (2 : Int32))) p3) (Int32.toNatClampNeg (((24 : Int32) + ((7 : Int32) * ((M_s u) (Int32.toNatClampNeg (0 : Int32))))) + (3 : Int32))) ((M_s (wM_s (wM_s (wM_s u (Int32.toNatClampNeg ((24 : Int32) + ((7 : Int32) * ((M_s u) (Int32.toNatClampNeg (0 : Int32)))))) p1) (Int32.toNatClampNeg (((24 : Int32) + ((7 : Int32) * ((M_s u) (Int32.toNatClampNeg (0 : Int32))))) + (1 : Int32))) p2) (Int32.toNatClampNeg (((24 : Int32) + ((7 : Int32) * ((M_s u) (Int32.toNatClampNeg (0 : Int32))))) + (2 : Int32))) p3)) (Int32.toNatClampNeg ((16 : Int32) + p1))))) (Int32.toNatClampNeg ((16 : Int32) + p2))))) := hD
  refine lv_aload_n hx hb dX4_lays_78 rfl (lv_at hl 1 rfl) ?_
  refine va_get (D := D) (ci := 4) (v := .ref (a 1)) (C := RX4) (T := TX4) (N := 12) hx hb hts inT4 hown hK.k hP 0 rfl rfl 1 (by decide) (hts _ q_820) (fun _ h9 => h9) rfl dX4_lays_79 ?_
  refine lv_iload hx hb dX4_lays_82 (lv_at hl 0 rfl) ?_
  refine lv_iconst (v := (5 : Int32)) hx hb dX4_lays_84 (by decide) ?_
  refine lv_iadd hx hb dX4_lays_85 ?_
  refine lv_aload_n hx hb dX4_lays_86 rfl (lv_at hl 1 rfl) ?_
  refine va_get (D := D) (ci := 4) (v := .ref (a 1)) (C := RX4) (T := TX4) (N := 12) hx hb hts inT4 hown hK.k hP 0 rfl rfl 1 (by decide) (hts _ q_820) (fun _ h9 => h9) rfl dX4_lays_87 ?_
  refine lv_bipush (v := (16 : Int32)) hx hb dX4_lays_90 (by decide) ?_
  refine lv_iload_n hx hb dX4_lays_92 rfl (lv_at hl 4 rfl) ?_
  refine lv_iadd hx hb dX4_lays_93 ?_
  refine va_iald hx hb hK.k hP 1 0 rfl rfl h.1 dX4_lays_94 ?_
  replace h := h.2
  refine va_iast hx hb hK.k hP hD hS 1 0 rfl rfl h.1 dX4_lays_95 (fun H locs hP hD hS => ?_)
  replace h := h.2
  have hP : va_P D vwCl (mdW cI a (wM_s (wM_s (wM_s (wM_s (wM_s (wM_s u (Int32.toNatClampNeg ((24 : Int32) + ((7 : Int32) * ((M_s u) (Int32.toNatClampNeg (0 : Int32)))))) p1) (Int32.toNatClampNeg (((24 : Int32) + ((7 : Int32) * ((M_s u) (Int32.toNatClampNeg (0 : Int32))))) + (1 : Int32))) p2) (Int32.toNatClampNeg (((24 : Int32) + ((7 : Int32) * ((M_s u) (Int32.toNatClampNeg (0 : Int32))))) + (2 : Int32))) p3) (Int32.toNatClampNeg (((24 : Int32) + ((7 : Int32) * ((M_s u) (Int32.toNatClampNeg (0 : Int32))))) + (3 : Int32))) ((M_s (wM_s (wM_s (wM_s u (Int32.toNatClampNeg ((24 : Int32) + ((7 : Int32) * ((M_s u) (Int32.toNatClampNeg (0 : Int32)))))) p1) (Int32.toNatClampNeg (((24 : Int32) + ((7 : Int32) * ((M_s u) (Int32.toNatClampNeg (0 : Int32))))) + (1 : Int32))) p2) (Int32.toNatClampNeg (((24 : Int32) + ((7 : Int32) * ((M_s u) (Int32.toNatClampNeg (0 : Int32))))) + (2 : Int32))) p3)) (Int32.toNatClampNeg ((16 : Int32) + p1)))) (Int32.toNatClampNeg (((24 : Int32) + ((7 : Int32) * ((M_s u) (Int32.toNatClampNeg (0 : Int32))))) + (4 : Int32))) ((M_s (wM_s (wM_s (wM_s (wM_s u (Int32.toNatClampNeg ((24 : Int32) + ((7 : Int32) * ((M_s u) (Int32.toNatClampNeg (0 : Int32)))))) p1) (Int32.toNatClampNeg (((24 : Int32) + ((7 : Int32) * ((M_s u) (Int32.toNatClampNeg (0 : Int32))))) + (1 : Int32))) p2) (Int32.toNatClampNeg (((24 : Int32) + ((7 : Int32) * ((M_s u) (Int32.toNatClampNeg (0 : Int32))))) + (2 : Int32))) p3) (Int32.toNatClampNeg (((24 : Int32) + ((7 : Int32) * ((M_s u) (Int32.toNatClampNeg (0 : Int32))))) + (3 : Int32))) ((M_s (wM_s (wM_s (wM_s u (Int32.toNatClampNeg ((24 : Int32) + ((7 : Int32) * ((M_s u) (Int32.toNatClampNeg (0 : Int32)))))) p1) (Int32.toNatClampNeg (((24 : Int32) + ((7 : Int32) * ((M_s u) (Int32.toNatClampNeg (0 : Int32))))) + (1 : Int32))) p2) (Int32.toNatClampNeg (((24 : Int32) + ((7 : Int32) * ((M_s u) (Int32.toNatClampNeg (0 : Int32))))) + (2 : Int32))) p3)) (Int32.toNatClampNeg ((16 : Int32) + p1))))) (Int32.toNatClampNeg ((16 : Int32) + p2)))) (Int32.toNatClampNeg (((24 : Int32) + ((7 : Int32) * ((M_s u) (Int32.toNatClampNeg (0 : Int32))))) + (5 : Int32))) ((M_s (wM_s (wM_s (wM_s (wM_s (wM_s u (Int32.toNatClampNeg ((24 : Int32) + ((7 : Int32) * ((M_s u) (Int32.toNatClampNeg (0 : Int32)))))) p1) (Int32.toNatClampNeg (((24 : Int32) + ((7 : Int32) * ((M_s u) (Int32.toNatClampNeg (0 : Int32))))) + (1 : Int32))) p2) (Int32.toNatClampNeg (((24 : Int32) + ((7 : Int32) * ((M_s u) (Int32.toNatClampNeg (0 : Int32))))) + (2 : Int32))) p3) (Int32.toNatClampNeg (((24 : Int32) + ((7 : Int32) * ((M_s u) (Int32.toNatClampNeg (0 : Int32))))) + (3 : Int32))) ((M_s (wM_s (wM_s (wM_s u (Int32.toNatClampNeg ((24 : Int32) + ((7 : Int32) * ((M_s u) (Int32.toNatClampNeg (0 : Int32)))))) p1) (Int32.toNatClampNeg (((24 : Int32) + ((7 : Int32) * ((M_s u) (Int32.toNatClampNeg (0 : Int32))))) + (1 : Int32))) p2) (Int32.toNatClampNeg (((24 : Int32) + ((7 : Int32) * ((M_s u) (Int32.toNatClampNeg (0 : Int32))))) + (2 : Int32))) p3)) (Int32.toNatClampNeg ((16 : Int32) + p1)))) (Int32.toNatClampNeg (((24 : Int32) + ((7 : Int32) * ((M_s u) (Int32.toNatClampNeg (0 : Int32))))) + (4 : Int32))) ((M_s (wM_s (wM_s (wM_s (wM_s u (Int32.toNatClampNeg ((24 : Int32) + ((7 : Int32) * ((M_s u) (Int32.toNatClampNeg (0 : Int32)))))) p1) (Int32.toNatClampNeg (((24 : Int32) + ((7 : Int32) * ((M_s u) (Int32.toNatClampNeg (0 : Int32))))) + (1 : Int32))) p2) (Int32.toNatClampNeg (((24 : Int32) + ((7 : Int32) * ((M_s u) (Int32.toNatClampNeg (0 : Int32))))) + (2 : Int32))) p3) (Int32.toNatClampNeg (((24 : Int32) + ((7 : Int32) * ((M_s u) (Int32.toNatClampNeg (0 : Int32))))) + (3 : Int32))) ((M_s (wM_s (wM_s (wM_s u (Int32.toNatClampNeg ((24 : Int32) + ((7 : Int32) * ((M_s u) (Int32.toNatClampNeg (0 : Int32)))))) p1) (Int32.toNatClampNeg (((24 : Int32) + ((7 : Int32) * ((M_s u) (Int32.toNatClampNeg (0 : Int32))))) + (1 : Int32))) p2) (Int32.toNatClampNeg (((24 : Int32) + ((7 : Int32) * ((M_s u) (Int32.toNatClampNeg (0 : Int32))))) + (2 : Int32))) p3)) (Int32.toNatClampNeg ((16 : Int32) + p1))))) (Int32.toNatClampNeg ((16 : Int32) + p2))))) (Int32.toNatClampNeg ((16 : Int32) + p3))))) H := hP
  have hD : va_D A (mdW cI a (wM_s (wM_s (wM_s (wM_s (wM_s (wM_s u (Int32.toNatClampNeg ((24 : Int32) + ((7 : Int32) * ((M_s u) (Int32.toNatClampNeg (0 : Int32)))))) p1) (Int32.toNatClampNeg (((24 : Int32) + ((7 : Int32) * ((M_s u) (Int32.toNatClampNeg (0 : Int32))))) + (1 : Int32))) p2) (Int32.toNatClampNeg (((24 : Int32) + ((7 : Int32) * ((M_s u) (Int32.toNatClampNeg (0 : Int32))))) + (2 : Int32))) p3) (Int32.toNatClampNeg (((24 : Int32) + ((7 : Int32) * ((M_s u) (Int32.toNatClampNeg (0 : Int32))))) + (3 : Int32))) ((M_s (wM_s (wM_s (wM_s u (Int32.toNatClampNeg ((24 : Int32) + ((7 : Int32) * ((M_s u) (Int32.toNatClampNeg (0 : Int32)))))) p1) (Int32.toNatClampNeg (((24 : Int32) + ((7 : Int32) * ((M_s u) (Int32.toNatClampNeg (0 : Int32))))) + (1 : Int32))) p2) (Int32.toNatClampNeg (((24 : Int32) + ((7 : Int32) * ((M_s u) (Int32.toNatClampNeg (0 : Int32))))) + (2 : Int32))) p3)) (Int32.toNatClampNeg ((16 : Int32) + p1)))) (Int32.toNatClampNeg (((24 : Int32) + ((7 : Int32) * ((M_s u) (Int32.toNatClampNeg (0 : Int32))))) + (4 : Int32))) ((M_s (wM_s (wM_s (wM_s (wM_s u (Int32.toNatClampNeg ((24 : Int32) + ((7 : Int32) * ((M_s u) (Int32.toNatClampNeg (0 : Int32)))))) p1) (Int32.toNatClampNeg (((24 : Int32) + ((7 : Int32) * ((M_s u) (Int32.toNatClampNeg (0 : Int32))))) + (1 : Int32))) p2) (Int32.toNatClampNeg (((24 : Int32) + ((7 : Int32) * ((M_s u) (Int32.toNatClampNeg (0 : Int32))))) + (2 : Int32))) p3) (Int32.toNatClampNeg (((24 : Int32) + ((7 : Int32) * ((M_s u) (Int32.toNatClampNeg (0 : Int32))))) + (3 : Int32))) ((M_s (wM_s (wM_s (wM_s u (Int32.toNatClampNeg ((24 : Int32) + ((7 : Int32) * ((M_s u) (Int32.toNatClampNeg (0 : Int32)))))) p1) (Int32.toNatClampNeg (((24 : Int32) + ((7 : Int32) * ((M_s u) (Int32.toNatClampNeg (0 : Int32))))) + (1 : Int32))) p2) (Int32.toNatClampNeg (((24 : Int32) + ((7 : Int32) * ((M_s u) (Int32.toNatClampNeg (0 : Int32))))) + (2 : Int32))) p3)) (Int32.toNatClampNeg ((16 : Int32) + p1))))) (Int32.toNatClampNeg ((16 : Int32) + p2)))) (Int32.toNatClampNeg (((24 : Int32) + ((7 : Int32) * ((M_s u) (Int32.toNatClampNeg (0 : Int32))))) + (5 : Int32))) ((M_s (wM_s (wM_s (wM_s (wM_s (wM_s u (Int32.toNatClampNeg ((24 : Int32) + ((7 : Int32) * ((M_s u) (Int32.toNatClampNeg (0 : Int32)))))) p1) (Int32.toNatClampNeg (((24 : Int32) + ((7 : Int32) * ((M_s u) (Int32.toNatClampNeg (0 : Int32))))) + (1 : Int32))) p2) (Int32.toNatClampNeg (((24 : Int32) + ((7 : Int32) * ((M_s u) (Int32.toNatClampNeg (0 : Int32))))) + (2 : Int32))) p3) (Int32.toNatClampNeg (((24 : Int32) + ((7 : Int32) * ((M_s u) (Int32.toNatClampNeg (0 : Int32))))) + (3 : Int32))) ((M_s (wM_s (wM_s (wM_s u (Int32.toNatClampNeg ((24 : Int32) + ((7 : Int32) * ((M_s u) (Int32.toNatClampNeg (0 : Int32)))))) p1) (Int32.toNatClampNeg (((24 : Int32) + ((7 : Int32) * ((M_s u) (Int32.toNatClampNeg (0 : Int32))))) + (1 : Int32))) p2) (Int32.toNatClampNeg (((24 : Int32) + ((7 : Int32) * ((M_s u) (Int32.toNatClampNeg (0 : Int32))))) + (2 : Int32))) p3)) (Int32.toNatClampNeg ((16 : Int32) + p1)))) (Int32.toNatClampNeg (((24 : Int32) + ((7 : Int32) * ((M_s u) (Int32.toNatClampNeg (0 : Int32))))) + (4 : Int32))) ((M_s (wM_s (wM_s (wM_s (wM_s u (Int32.toNatClampNeg ((24 : Int32) + ((7 : Int32) * ((M_s u) (Int32.toNatClampNeg (0 : Int32)))))) p1) (Int32.toNatClampNeg (((24 : Int32) + ((7 : Int32) * ((M_s u) (Int32.toNatClampNeg (0 : Int32))))) + (1 : Int32))) p2) (Int32.toNatClampNeg (((24 : Int32) + ((7 : Int32) * ((M_s u) (Int32.toNatClampNeg (0 : Int32))))) + (2 : Int32))) p3) (Int32.toNatClampNeg (((24 : Int32) + ((7 : Int32) * ((M_s u) (Int32.toNatClampNeg (0 : Int32))))) + (3 : Int32))) ((M_s (wM_s (wM_s (wM_s u (Int32.toNatClampNeg ((24 : Int32) + ((7 : Int32) * ((M_s u) (Int32.toNatClampNeg (0 : Int32)))))) p1) (Int32.toNatClampNeg (((24 : Int32) + ((7 : Int32) * ((M_s u) (Int32.toNatClampNeg (0 : Int32))))) + (1 : Int32))) p2) (Int32.toNatClampNeg (((24 : Int32) + ((7 : Int32) * ((M_s u) (Int32.toNatClampNeg (0 : Int32))))) + (2 : Int32))) p3)) (Int32.toNatClampNeg ((16 : Int32) + p1))))) (Int32.toNatClampNeg ((16 : Int32) + p2))))) (Int32.toNatClampNeg ((16 : Int32) + p3))))) := hD
  refine lv_aload_n hx hb dX4_lays_96 rfl (lv_at hl 1 rfl) ?_
  refine va_get (D := D) (ci := 4) (v := .ref (a 1)) (C := RX4) (T := TX4) (N := 12) hx hb hts inT4 hown hK.k hP 0 rfl rfl 1 (by decide) (hts _ q_820) (fun _ h9 => h9) rfl dX4_lays_97 ?_
  refine lv_iload hx hb dX4_lays_100 (lv_at hl 0 rfl) ?_
  refine lv_bipush (v := (6 : Int32)) hx hb dX4_lays_102 (by decide) ?_
  refine lv_iadd hx hb dX4_lays_104 ?_
  refine lv_iload hx hb dX4_lays_105 (lv_at hl 5 rfl) ?_
  refine va_iast hx hb hK.k hP hD hS 1 0 rfl rfl h.1 dX4_lays_107 (fun H locs hP hD hS => ?_)
  replace h := h.2
  have hP : va_P D vwCl (mdW cI a (wM_s (wM_s (wM_s (wM_s (wM_s (wM_s (wM_s u (Int32.toNatClampNeg ((24 : Int32) + ((7 : Int32) * ((M_s u) (Int32.toNatClampNeg (0 : Int32)))))) p1) (Int32.toNatClampNeg (((24 : Int32) + ((7 : Int32) * ((M_s u) (Int32.toNatClampNeg (0 : Int32))))) + (1 : Int32))) p2) (Int32.toNatClampNeg (((24 : Int32) + ((7 : Int32) * ((M_s u) (Int32.toNatClampNeg (0 : Int32))))) + (2 : Int32))) p3) (Int32.toNatClampNeg (((24 : Int32) + ((7 : Int32) * ((M_s u) (Int32.toNatClampNeg (0 : Int32))))) + (3 : Int32))) ((M_s (wM_s (wM_s (wM_s u (Int32.toNatClampNeg ((24 : Int32) + ((7 : Int32) * ((M_s u) (Int32.toNatClampNeg (0 : Int32)))))) p1) (Int32.toNatClampNeg (((24 : Int32) + ((7 : Int32) * ((M_s u) (Int32.toNatClampNeg (0 : Int32))))) + (1 : Int32))) p2) (Int32.toNatClampNeg (((24 : Int32) + ((7 : Int32) * ((M_s u) (Int32.toNatClampNeg (0 : Int32))))) + (2 : Int32))) p3)) (Int32.toNatClampNeg ((16 : Int32) + p1)))) (Int32.toNatClampNeg (((24 : Int32) + ((7 : Int32) * ((M_s u) (Int32.toNatClampNeg (0 : Int32))))) + (4 : Int32))) ((M_s (wM_s (wM_s (wM_s (wM_s u (Int32.toNatClampNeg ((24 : Int32) + ((7 : Int32) * ((M_s u) (Int32.toNatClampNeg (0 : Int32)))))) p1) (Int32.toNatClampNeg (((24 : Int32) + ((7 : Int32) * ((M_s u) (Int32.toNatClampNeg (0 : Int32))))) + (1 : Int32))) p2) (Int32.toNatClampNeg (((24 : Int32) + ((7 : Int32) * ((M_s u) (Int32.toNatClampNeg (0 : Int32))))) + (2 : Int32))) p3) (Int32.toNatClampNeg (((24 : Int32) + ((7 : Int32) * ((M_s u) (Int32.toNatClampNeg (0 : Int32))))) + (3 : Int32))) ((M_s (wM_s (wM_s (wM_s u (Int32.toNatClampNeg ((24 : Int32) + ((7 : Int32) * ((M_s u) (Int32.toNatClampNeg (0 : Int32)))))) p1) (Int32.toNatClampNeg (((24 : Int32) + ((7 : Int32) * ((M_s u) (Int32.toNatClampNeg (0 : Int32))))) + (1 : Int32))) p2) (Int32.toNatClampNeg (((24 : Int32) + ((7 : Int32) * ((M_s u) (Int32.toNatClampNeg (0 : Int32))))) + (2 : Int32))) p3)) (Int32.toNatClampNeg ((16 : Int32) + p1))))) (Int32.toNatClampNeg ((16 : Int32) + p2)))) (Int32.toNatClampNeg (((24 : Int32) + ((7 : Int32) * ((M_s u) (Int32.toNatClampNeg (0 : Int32))))) + (5 : Int32))) ((M_s (wM_s (wM_s (wM_s (wM_s (wM_s u (Int32.toNatClampNeg ((24 : Int32) + ((7 : Int32) * ((M_s u) (Int32.toNatClampNeg (0 : Int32)))))) p1) (Int32.toNatClampNeg (((24 : Int32) + ((7 : Int32) * ((M_s u) (Int32.toNatClampNeg (0 : Int32))))) + (1 : Int32))) p2) (Int32.toNatClampNeg (((24 : Int32) + ((7 : Int32) * ((M_s u) (Int32.toNatClampNeg (0 : Int32))))) + (2 : Int32))) p3) (Int32.toNatClampNeg (((24 : Int32) + ((7 : Int32) * ((M_s u) (Int32.toNatClampNeg (0 : Int32))))) + (3 : Int32))) ((M_s (wM_s (wM_s (wM_s u (Int32.toNatClampNeg ((24 : Int32) + ((7 : Int32) * ((M_s u) (Int32.toNatClampNeg (0 : Int32)))))) p1) (Int32.toNatClampNeg (((24 : Int32) + ((7 : Int32) * ((M_s u) (Int32.toNatClampNeg (0 : Int32))))) + (1 : Int32))) p2) (Int32.toNatClampNeg (((24 : Int32) + ((7 : Int32) * ((M_s u) (Int32.toNatClampNeg (0 : Int32))))) + (2 : Int32))) p3)) (Int32.toNatClampNeg ((16 : Int32) + p1)))) (Int32.toNatClampNeg (((24 : Int32) + ((7 : Int32) * ((M_s u) (Int32.toNatClampNeg (0 : Int32))))) + (4 : Int32))) ((M_s (wM_s (wM_s (wM_s (wM_s u (Int32.toNatClampNeg ((24 : Int32) + ((7 : Int32) * ((M_s u) (Int32.toNatClampNeg (0 : Int32)))))) p1) (Int32.toNatClampNeg (((24 : Int32) + ((7 : Int32) * ((M_s u) (Int32.toNatClampNeg (0 : Int32))))) + (1 : Int32))) p2) (Int32.toNatClampNeg (((24 : Int32) + ((7 : Int32) * ((M_s u) (Int32.toNatClampNeg (0 : Int32))))) + (2 : Int32))) p3) (Int32.toNatClampNeg (((24 : Int32) + ((7 : Int32) * ((M_s u) (Int32.toNatClampNeg (0 : Int32))))) + (3 : Int32))) ((M_s (wM_s (wM_s (wM_s u (Int32.toNatClampNeg ((24 : Int32) + ((7 : Int32) * ((M_s u) (Int32.toNatClampNeg (0 : Int32)))))) p1) (Int32.toNatClampNeg (((24 : Int32) + ((7 : Int32) * ((M_s u) (Int32.toNatClampNeg (0 : Int32))))) + (1 : Int32))) p2) (Int32.toNatClampNeg (((24 : Int32) + ((7 : Int32) * ((M_s u) (Int32.toNatClampNeg (0 : Int32))))) + (2 : Int32))) p3)) (Int32.toNatClampNeg ((16 : Int32) + p1))))) (Int32.toNatClampNeg ((16 : Int32) + p2))))) (Int32.toNatClampNeg ((16 : Int32) + p3)))) (Int32.toNatClampNeg (((24 : Int32) + ((7 : Int32) * ((M_s u) (Int32.toNatClampNeg (0 : Int32))))) + (6 : Int32))) p4)) H := hP
  have hD : va_D A (mdW cI a (wM_s (wM_s (wM_s (wM_s (wM_s (wM_s (wM_s u (Int32.toNatClampNeg ((24 : Int32) + ((7 : Int32) * ((M_s u) (Int32.toNatClampNeg (0 : Int32)))))) p1) (Int32.toNatClampNeg (((24 : Int32) + ((7 : Int32) * ((M_s u) (Int32.toNatClampNeg (0 : Int32))))) + (1 : Int32))) p2) (Int32.toNatClampNeg (((24 : Int32) + ((7 : Int32) * ((M_s u) (Int32.toNatClampNeg (0 : Int32))))) + (2 : Int32))) p3) (Int32.toNatClampNeg (((24 : Int32) + ((7 : Int32) * ((M_s u) (Int32.toNatClampNeg (0 : Int32))))) + (3 : Int32))) ((M_s (wM_s (wM_s (wM_s u (Int32.toNatClampNeg ((24 : Int32) + ((7 : Int32) * ((M_s u) (Int32.toNatClampNeg (0 : Int32)))))) p1) (Int32.toNatClampNeg (((24 : Int32) + ((7 : Int32) * ((M_s u) (Int32.toNatClampNeg (0 : Int32))))) + (1 : Int32))) p2) (Int32.toNatClampNeg (((24 : Int32) + ((7 : Int32) * ((M_s u) (Int32.toNatClampNeg (0 : Int32))))) + (2 : Int32))) p3)) (Int32.toNatClampNeg ((16 : Int32) + p1)))) (Int32.toNatClampNeg (((24 : Int32) + ((7 : Int32) * ((M_s u) (Int32.toNatClampNeg (0 : Int32))))) + (4 : Int32))) ((M_s (wM_s (wM_s (wM_s (wM_s u (Int32.toNatClampNeg ((24 : Int32) + ((7 : Int32) * ((M_s u) (Int32.toNatClampNeg (0 : Int32)))))) p1) (Int32.toNatClampNeg (((24 : Int32) + ((7 : Int32) * ((M_s u) (Int32.toNatClampNeg (0 : Int32))))) + (1 : Int32))) p2) (Int32.toNatClampNeg (((24 : Int32) + ((7 : Int32) * ((M_s u) (Int32.toNatClampNeg (0 : Int32))))) + (2 : Int32))) p3) (Int32.toNatClampNeg (((24 : Int32) + ((7 : Int32) * ((M_s u) (Int32.toNatClampNeg (0 : Int32))))) + (3 : Int32))) ((M_s (wM_s (wM_s (wM_s u (Int32.toNatClampNeg ((24 : Int32) + ((7 : Int32) * ((M_s u) (Int32.toNatClampNeg (0 : Int32)))))) p1) (Int32.toNatClampNeg (((24 : Int32) + ((7 : Int32) * ((M_s u) (Int32.toNatClampNeg (0 : Int32))))) + (1 : Int32))) p2) (Int32.toNatClampNeg (((24 : Int32) + ((7 : Int32) * ((M_s u) (Int32.toNatClampNeg (0 : Int32))))) + (2 : Int32))) p3)) (Int32.toNatClampNeg ((16 : Int32) + p1))))) (Int32.toNatClampNeg ((16 : Int32) + p2)))) (Int32.toNatClampNeg (((24 : Int32) + ((7 : Int32) * ((M_s u) (Int32.toNatClampNeg (0 : Int32))))) + (5 : Int32))) ((M_s (wM_s (wM_s (wM_s (wM_s (wM_s u (Int32.toNatClampNeg ((24 : Int32) + ((7 : Int32) * ((M_s u) (Int32.toNatClampNeg (0 : Int32)))))) p1) (Int32.toNatClampNeg (((24 : Int32) + ((7 : Int32) * ((M_s u) (Int32.toNatClampNeg (0 : Int32))))) + (1 : Int32))) p2) (Int32.toNatClampNeg (((24 : Int32) + ((7 : Int32) * ((M_s u) (Int32.toNatClampNeg (0 : Int32))))) + (2 : Int32))) p3) (Int32.toNatClampNeg (((24 : Int32) + ((7 : Int32) * ((M_s u) (Int32.toNatClampNeg (0 : Int32))))) + (3 : Int32))) ((M_s (wM_s (wM_s (wM_s u (Int32.toNatClampNeg ((24 : Int32) + ((7 : Int32) * ((M_s u) (Int32.toNatClampNeg (0 : Int32)))))) p1) (Int32.toNatClampNeg (((24 : Int32) + ((7 : Int32) * ((M_s u) (Int32.toNatClampNeg (0 : Int32))))) + (1 : Int32))) p2) (Int32.toNatClampNeg (((24 : Int32) + ((7 : Int32) * ((M_s u) (Int32.toNatClampNeg (0 : Int32))))) + (2 : Int32))) p3)) (Int32.toNatClampNeg ((16 : Int32) + p1)))) (Int32.toNatClampNeg (((24 : Int32) + ((7 : Int32) * ((M_s u) (Int32.toNatClampNeg (0 : Int32))))) + (4 : Int32))) ((M_s (wM_s (wM_s (wM_s (wM_s u (Int32.toNatClampNeg ((24 : Int32) + ((7 : Int32) * ((M_s u) (Int32.toNatClampNeg (0 : Int32)))))) p1) (Int32.toNatClampNeg (((24 : Int32) + ((7 : Int32) * ((M_s u) (Int32.toNatClampNeg (0 : Int32))))) + (1 : Int32))) p2) (Int32.toNatClampNeg (((24 : Int32) + ((7 : Int32) * ((M_s u) (Int32.toNatClampNeg (0 : Int32))))) + (2 : Int32))) p3) (Int32.toNatClampNeg (((24 : Int32) + ((7 : Int32) * ((M_s u) (Int32.toNatClampNeg (0 : Int32))))) + (3 : Int32))) ((M_s (wM_s (wM_s (wM_s u (Int32.toNatClampNeg ((24 : Int32) + ((7 : Int32) * ((M_s u) (Int32.toNatClampNeg (0 : Int32)))))) p1) (Int32.toNatClampNeg (((24 : Int32) + ((7 : Int32) * ((M_s u) (Int32.toNatClampNeg (0 : Int32))))) + (1 : Int32))) p2) (Int32.toNatClampNeg (((24 : Int32) + ((7 : Int32) * ((M_s u) (Int32.toNatClampNeg (0 : Int32))))) + (2 : Int32))) p3)) (Int32.toNatClampNeg ((16 : Int32) + p1))))) (Int32.toNatClampNeg ((16 : Int32) + p2))))) (Int32.toNatClampNeg ((16 : Int32) + p3)))) (Int32.toNatClampNeg (((24 : Int32) + ((7 : Int32) * ((M_s u) (Int32.toNatClampNeg (0 : Int32))))) + (6 : Int32))) p4)) := hD
  refine lv_aload_n hx hb dX4_lays_108 rfl (lv_at hl 1 rfl) ?_
  refine va_get (D := D) (ci := 4) (v := .ref (a 1)) (C := RX4) (T := TX4) (N := 12) hx hb hts inT4 hown hK.k hP 0 rfl rfl 1 (by decide) (hts _ q_820) (fun _ h9 => h9) rfl dX4_lays_109 ?_
  refine lv_iconst (v := (0 : Int32)) hx hb dX4_lays_112 (by decide) ?_
  refine lv_dup2_11 hx hb dX4_lays_113 rfl rfl ?_
  refine va_iald hx hb hK.k hP 1 0 rfl rfl h.1 dX4_lays_114 ?_
  replace h := h.2
  refine lv_iconst (v := (1 : Int32)) hx hb dX4_lays_115 (by decide) ?_
  refine lv_iadd hx hb dX4_lays_116 ?_
  refine va_iast hx hb hK.k hP hD hS 1 0 rfl rfl h.1 dX4_lays_117 (fun H locs hP hD hS => ?_)
  replace h := h.2
  have hP : va_P D vwCl (mdW cI a (wM_s (wM_s (wM_s (wM_s (wM_s (wM_s (wM_s (wM_s u (Int32.toNatClampNeg ((24 : Int32) + ((7 : Int32) * ((M_s u) (Int32.toNatClampNeg (0 : Int32)))))) p1) (Int32.toNatClampNeg (((24 : Int32) + ((7 : Int32) * ((M_s u) (Int32.toNatClampNeg (0 : Int32))))) + (1 : Int32))) p2) (Int32.toNatClampNeg (((24 : Int32) + ((7 : Int32) * ((M_s u) (Int32.toNatClampNeg (0 : Int32))))) + (2 : Int32))) p3) (Int32.toNatClampNeg (((24 : Int32) + ((7 : Int32) * ((M_s u) (Int32.toNatClampNeg (0 : Int32))))) + (3 : Int32))) ((M_s (wM_s (wM_s (wM_s u (Int32.toNatClampNeg ((24 : Int32) + ((7 : Int32) * ((M_s u) (Int32.toNatClampNeg (0 : Int32)))))) p1) (Int32.toNatClampNeg (((24 : Int32) + ((7 : Int32) * ((M_s u) (Int32.toNatClampNeg (0 : Int32))))) + (1 : Int32))) p2) (Int32.toNatClampNeg (((24 : Int32) + ((7 : Int32) * ((M_s u) (Int32.toNatClampNeg (0 : Int32))))) + (2 : Int32))) p3)) (Int32.toNatClampNeg ((16 : Int32) + p1)))) (Int32.toNatClampNeg (((24 : Int32) + ((7 : Int32) * ((M_s u) (Int32.toNatClampNeg (0 : Int32))))) + (4 : Int32))) ((M_s (wM_s (wM_s (wM_s (wM_s u (Int32.toNatClampNeg ((24 : Int32) + ((7 : Int32) * ((M_s u) (Int32.toNatClampNeg (0 : Int32)))))) p1) (Int32.toNatClampNeg (((24 : Int32) + ((7 : Int32) * ((M_s u) (Int32.toNatClampNeg (0 : Int32))))) + (1 : Int32))) p2) (Int32.toNatClampNeg (((24 : Int32) + ((7 : Int32) * ((M_s u) (Int32.toNatClampNeg (0 : Int32))))) + (2 : Int32))) p3) (Int32.toNatClampNeg (((24 : Int32) + ((7 : Int32) * ((M_s u) (Int32.toNatClampNeg (0 : Int32))))) + (3 : Int32))) ((M_s (wM_s (wM_s (wM_s u (Int32.toNatClampNeg ((24 : Int32) + ((7 : Int32) * ((M_s u) (Int32.toNatClampNeg (0 : Int32)))))) p1) (Int32.toNatClampNeg (((24 : Int32) + ((7 : Int32) * ((M_s u) (Int32.toNatClampNeg (0 : Int32))))) + (1 : Int32))) p2) (Int32.toNatClampNeg (((24 : Int32) + ((7 : Int32) * ((M_s u) (Int32.toNatClampNeg (0 : Int32))))) + (2 : Int32))) p3)) (Int32.toNatClampNeg ((16 : Int32) + p1))))) (Int32.toNatClampNeg ((16 : Int32) + p2)))) (Int32.toNatClampNeg (((24 : Int32) + ((7 : Int32) * ((M_s u) (Int32.toNatClampNeg (0 : Int32))))) + (5 : Int32))) ((M_s (wM_s (wM_s (wM_s (wM_s (wM_s u (Int32.toNatClampNeg ((24 : Int32) + ((7 : Int32) * ((M_s u) (Int32.toNatClampNeg (0 : Int32)))))) p1) (Int32.toNatClampNeg (((24 : Int32) + ((7 : Int32) * ((M_s u) (Int32.toNatClampNeg (0 : Int32))))) + (1 : Int32))) p2) (Int32.toNatClampNeg (((24 : Int32) + ((7 : Int32) * ((M_s u) (Int32.toNatClampNeg (0 : Int32))))) + (2 : Int32))) p3) (Int32.toNatClampNeg (((24 : Int32) + ((7 : Int32) * ((M_s u) (Int32.toNatClampNeg (0 : Int32))))) + (3 : Int32))) ((M_s (wM_s (wM_s (wM_s u (Int32.toNatClampNeg ((24 : Int32) + ((7 : Int32) * ((M_s u) (Int32.toNatClampNeg (0 : Int32)))))) p1) (Int32.toNatClampNeg (((24 : Int32) + ((7 : Int32) * ((M_s u) (Int32.toNatClampNeg (0 : Int32))))) + (1 : Int32))) p2) (Int32.toNatClampNeg (((24 : Int32) + ((7 : Int32) * ((M_s u) (Int32.toNatClampNeg (0 : Int32))))) + (2 : Int32))) p3)) (Int32.toNatClampNeg ((16 : Int32) + p1)))) (Int32.toNatClampNeg (((24 : Int32) + ((7 : Int32) * ((M_s u) (Int32.toNatClampNeg (0 : Int32))))) + (4 : Int32))) ((M_s (wM_s (wM_s (wM_s (wM_s u (Int32.toNatClampNeg ((24 : Int32) + ((7 : Int32) * ((M_s u) (Int32.toNatClampNeg (0 : Int32)))))) p1) (Int32.toNatClampNeg (((24 : Int32) + ((7 : Int32) * ((M_s u) (Int32.toNatClampNeg (0 : Int32))))) + (1 : Int32))) p2) (Int32.toNatClampNeg (((24 : Int32) + ((7 : Int32) * ((M_s u) (Int32.toNatClampNeg (0 : Int32))))) + (2 : Int32))) p3) (Int32.toNatClampNeg (((24 : Int32) + ((7 : Int32) * ((M_s u) (Int32.toNatClampNeg (0 : Int32))))) + (3 : Int32))) ((M_s (wM_s (wM_s (wM_s u (Int32.toNatClampNeg ((24 : Int32) + ((7 : Int32) * ((M_s u) (Int32.toNatClampNeg (0 : Int32)))))) p1) (Int32.toNatClampNeg (((24 : Int32) + ((7 : Int32) * ((M_s u) (Int32.toNatClampNeg (0 : Int32))))) + (1 : Int32))) p2) (Int32.toNatClampNeg (((24 : Int32) + ((7 : Int32) * ((M_s u) (Int32.toNatClampNeg (0 : Int32))))) + (2 : Int32))) p3)) (Int32.toNatClampNeg ((16 : Int32) + p1))))) (Int32.toNatClampNeg ((16 : Int32) + p2))))) (Int32.toNatClampNeg ((16 : Int32) + p3)))) (Int32.toNatClampNeg (((24 : Int32) + ((7 : Int32) * ((M_s u) (Int32.toNatClampNeg (0 : Int32))))) + (6 : Int32))) p4) (Int32.toNatClampNeg (0 : Int32)) (((M_s (wM_s (wM_s (wM_s (wM_s (wM_s (wM_s (wM_s u (Int32.toNatClampNeg ((24 : Int32) + ((7 : Int32) * ((M_s u) (Int32.toNatClampNeg (0 : Int32)))))) p1) (Int32.toNatClampNeg (((24 : Int32) + ((7 : Int32) * ((M_s u) (Int32.toNatClampNeg (0 : Int32))))) + (1 : Int32))) p2) (Int32.toNatClampNeg (((24 : Int32) + ((7 : Int32) * ((M_s u) (Int32.toNatClampNeg (0 : Int32))))) + (2 : Int32))) p3) (Int32.toNatClampNeg (((24 : Int32) + ((7 : Int32) * ((M_s u) (Int32.toNatClampNeg (0 : Int32))))) + (3 : Int32))) ((M_s (wM_s (wM_s (wM_s u (Int32.toNatClampNeg ((24 : Int32) + ((7 : Int32) * ((M_s u) (Int32.toNatClampNeg (0 : Int32)))))) p1) (Int32.toNatClampNeg (((24 : Int32) + ((7 : Int32) * ((M_s u) (Int32.toNatClampNeg (0 : Int32))))) + (1 : Int32))) p2) (Int32.toNatClampNeg (((24 : Int32) + ((7 : Int32) * ((M_s u) (Int32.toNatClampNeg (0 : Int32))))) + (2 : Int32))) p3)) (Int32.toNatClampNeg ((16 : Int32) + p1)))) (Int32.toNatClampNeg (((24 : Int32) + ((7 : Int32) * ((M_s u) (Int32.toNatClampNeg (0 : Int32))))) + (4 : Int32))) ((M_s (wM_s (wM_s (wM_s (wM_s u (Int32.toNatClampNeg ((24 : Int32) + ((7 : Int32) * ((M_s u) (Int32.toNatClampNeg (0 : Int32)))))) p1) (Int32.toNatClampNeg (((24 : Int32) + ((7 : Int32) * ((M_s u) (Int32.toNatClampNeg (0 : Int32))))) + (1 : Int32))) p2) (Int32.toNatClampNeg (((24 : Int32) + ((7 : Int32) * ((M_s u) (Int32.toNatClampNeg (0 : Int32))))) + (2 : Int32))) p3) (Int32.toNatClampNeg (((24 : Int32) + ((7 : Int32) * ((M_s u) (Int32.toNatClampNeg (0 : Int32))))) + (3 : Int32))) ((M_s (wM_s (wM_s (wM_s u (Int32.toNatClampNeg ((24 : Int32) + ((7 : Int32) * ((M_s u) (Int32.toNatClampNeg (0 : Int32)))))) p1) (Int32.toNatClampNeg (((24 : Int32) + ((7 : Int32) * ((M_s u) (Int32.toNatClampNeg (0 : Int32))))) + (1 : Int32))) p2) (Int32.toNatClampNeg (((24 : Int32) + ((7 : Int32) * ((M_s u) (Int32.toNatClampNeg (0 : Int32))))) + (2 : Int32))) p3)) (Int32.toNatClampNeg ((16 : Int32) + p1))))) (Int32.toNatClampNeg ((16 : Int32) + p2)))) (Int32.toNatClampNeg (((24 : Int32) + ((7 : Int32) * ((M_s u) (Int32.toNatClampNeg (0 : Int32))))) + (5 : Int32))) ((M_s (wM_s (wM_s (wM_s (wM_s (wM_s u (Int32.toNatClampNeg ((24 : Int32) + ((7 : Int32) * ((M_s u) (Int32.toNatClampNeg (0 : Int32)))))) p1) (Int32.toNatClampNeg (((24 : Int32) + ((7 : Int32) * ((M_s u) (Int32.toNatClampNeg (0 : Int32))))) + (1 : Int32))) p2) (Int32.toNatClampNeg (((24 : Int32) + ((7 : Int32) * ((M_s u) (Int32.toNatClampNeg (0 : Int32))))) + (2 : Int32))) p3) (Int32.toNatClampNeg (((24 : Int32) + ((7 : Int32) * ((M_s u) (Int32.toNatClampNeg (0 : Int32))))) + (3 : Int32))) ((M_s (wM_s (wM_s (wM_s u (Int32.toNatClampNeg ((24 : Int32) + ((7 : Int32) * ((M_s u) (Int32.toNatClampNeg (0 : Int32)))))) p1) (Int32.toNatClampNeg (((24 : Int32) + ((7 : Int32) * ((M_s u) (Int32.toNatClampNeg (0 : Int32))))) + (1 : Int32))) p2) (Int32.toNatClampNeg (((24 : Int32) + ((7 : Int32) * ((M_s u) (Int32.toNatClampNeg (0 : Int32))))) + (2 : Int32))) p3)) (Int32.toNatClampNeg ((16 : Int32) + p1)))) (Int32.toNatClampNeg (((24 : Int32) + ((7 : Int32) * ((M_s u) (Int32.toNatClampNeg (0 : Int32))))) + (4 : Int32))) ((M_s (wM_s (wM_s (wM_s (wM_s u (Int32.toNatClampNeg ((24 : Int32) + ((7 : Int32) * ((M_s u) (Int32.toNatClampNeg (0 : Int32)))))) p1) (Int32.toNatClampNeg (((24 : Int32) + ((7 : Int32) * ((M_s u) (Int32.toNatClampNeg (0 : Int32))))) + (1 : Int32))) p2) (Int32.toNatClampNeg (((24 : Int32) + ((7 : Int32) * ((M_s u) (Int32.toNatClampNeg (0 : Int32))))) + (2 : Int32))) p3) (Int32.toNatClampNeg (((24 : Int32) + ((7 : Int32) * ((M_s u) (Int32.toNatClampNeg (0 : Int32))))) + (3 : Int32))) ((M_s (wM_s (wM_s (wM_s u (Int32.toNatClampNeg ((24 : Int32) + ((7 : Int32) * ((M_s u) (Int32.toNatClampNeg (0 : Int32)))))) p1) (Int32.toNatClampNeg (((24 : Int32) + ((7 : Int32) * ((M_s u) (Int32.toNatClampNeg (0 : Int32))))) + (1 : Int32))) p2) (Int32.toNatClampNeg (((24 : Int32) + ((7 : Int32) * ((M_s u) (Int32.toNatClampNeg (0 : Int32))))) + (2 : Int32))) p3)) (Int32.toNatClampNeg ((16 : Int32) + p1))))) (Int32.toNatClampNeg ((16 : Int32) + p2))))) (Int32.toNatClampNeg ((16 : Int32) + p3)))) (Int32.toNatClampNeg (((24 : Int32) + ((7 : Int32) * ((M_s u) (Int32.toNatClampNeg (0 : Int32))))) + (6 : Int32))) p4)) (Int32.toNatClampNeg (0 : Int32))) + (1 : Int32)))) H := hP
  have hD : va_D A (mdW cI a (wM_s (wM_s (wM_s (wM_s (wM_s (wM_s (wM_s (wM_s u (Int32.toNatClampNeg ((24 : Int32) + ((7 : Int32) * ((M_s u) (Int32.toNatClampNeg (0 : Int32)))))) p1) (Int32.toNatClampNeg (((24 : Int32) + ((7 : Int32) * ((M_s u) (Int32.toNatClampNeg (0 : Int32))))) + (1 : Int32))) p2) (Int32.toNatClampNeg (((24 : Int32) + ((7 : Int32) * ((M_s u) (Int32.toNatClampNeg (0 : Int32))))) + (2 : Int32))) p3) (Int32.toNatClampNeg (((24 : Int32) + ((7 : Int32) * ((M_s u) (Int32.toNatClampNeg (0 : Int32))))) + (3 : Int32))) ((M_s (wM_s (wM_s (wM_s u (Int32.toNatClampNeg ((24 : Int32) + ((7 : Int32) * ((M_s u) (Int32.toNatClampNeg (0 : Int32)))))) p1) (Int32.toNatClampNeg (((24 : Int32) + ((7 : Int32) * ((M_s u) (Int32.toNatClampNeg (0 : Int32))))) + (1 : Int32))) p2) (Int32.toNatClampNeg (((24 : Int32) + ((7 : Int32) * ((M_s u) (Int32.toNatClampNeg (0 : Int32))))) + (2 : Int32))) p3)) (Int32.toNatClampNeg ((16 : Int32) + p1)))) (Int32.toNatClampNeg (((24 : Int32) + ((7 : Int32) * ((M_s u) (Int32.toNatClampNeg (0 : Int32))))) + (4 : Int32))) ((M_s (wM_s (wM_s (wM_s (wM_s u (Int32.toNatClampNeg ((24 : Int32) + ((7 : Int32) * ((M_s u) (Int32.toNatClampNeg (0 : Int32)))))) p1) (Int32.toNatClampNeg (((24 : Int32) + ((7 : Int32) * ((M_s u) (Int32.toNatClampNeg (0 : Int32))))) + (1 : Int32))) p2) (Int32.toNatClampNeg (((24 : Int32) + ((7 : Int32) * ((M_s u) (Int32.toNatClampNeg (0 : Int32))))) + (2 : Int32))) p3) (Int32.toNatClampNeg (((24 : Int32) + ((7 : Int32) * ((M_s u) (Int32.toNatClampNeg (0 : Int32))))) + (3 : Int32))) ((M_s (wM_s (wM_s (wM_s u (Int32.toNatClampNeg ((24 : Int32) + ((7 : Int32) * ((M_s u) (Int32.toNatClampNeg (0 : Int32)))))) p1) (Int32.toNatClampNeg (((24 : Int32) + ((7 : Int32) * ((M_s u) (Int32.toNatClampNeg (0 : Int32))))) + (1 : Int32))) p2) (Int32.toNatClampNeg (((24 : Int32) + ((7 : Int32) * ((M_s u) (Int32.toNatClampNeg (0 : Int32))))) + (2 : Int32))) p3)) (Int32.toNatClampNeg ((16 : Int32) + p1))))) (Int32.toNatClampNeg ((16 : Int32) + p2)))) (Int32.toNatClampNeg (((24 : Int32) + ((7 : Int32) * ((M_s u) (Int32.toNatClampNeg (0 : Int32))))) + (5 : Int32))) ((M_s (wM_s (wM_s (wM_s (wM_s (wM_s u (Int32.toNatClampNeg ((24 : Int32) + ((7 : Int32) * ((M_s u) (Int32.toNatClampNeg (0 : Int32)))))) p1) (Int32.toNatClampNeg (((24 : Int32) + ((7 : Int32) * ((M_s u) (Int32.toNatClampNeg (0 : Int32))))) + (1 : Int32))) p2) (Int32.toNatClampNeg (((24 : Int32) + ((7 : Int32) * ((M_s u) (Int32.toNatClampNeg (0 : Int32))))) + (2 : Int32))) p3) (Int32.toNatClampNeg (((24 : Int32) + ((7 : Int32) * ((M_s u) (Int32.toNatClampNeg (0 : Int32))))) + (3 : Int32))) ((M_s (wM_s (wM_s (wM_s u (Int32.toNatClampNeg ((24 : Int32) + ((7 : Int32) * ((M_s u) (Int32.toNatClampNeg (0 : Int32)))))) p1) (Int32.toNatClampNeg (((24 : Int32) + ((7 : Int32) * ((M_s u) (Int32.toNatClampNeg (0 : Int32))))) + (1 : Int32))) p2) (Int32.toNatClampNeg (((24 : Int32) + ((7 : Int32) * ((M_s u) (Int32.toNatClampNeg (0 : Int32))))) + (2 : Int32))) p3)) (Int32.toNatClampNeg ((16 : Int32) + p1)))) (Int32.toNatClampNeg (((24 : Int32) + ((7 : Int32) * ((M_s u) (Int32.toNatClampNeg (0 : Int32))))) + (4 : Int32))) ((M_s (wM_s (wM_s (wM_s (wM_s u (Int32.toNatClampNeg ((24 : Int32) + ((7 : Int32) * ((M_s u) (Int32.toNatClampNeg (0 : Int32)))))) p1) (Int32.toNatClampNeg (((24 : Int32) + ((7 : Int32) * ((M_s u) (Int32.toNatClampNeg (0 : Int32))))) + (1 : Int32))) p2) (Int32.toNatClampNeg (((24 : Int32) + ((7 : Int32) * ((M_s u) (Int32.toNatClampNeg (0 : Int32))))) + (2 : Int32))) p3) (Int32.toNatClampNeg (((24 : Int32) + ((7 : Int32) * ((M_s u) (Int32.toNatClampNeg (0 : Int32))))) + (3 : Int32))) ((M_s (wM_s (wM_s (wM_s u (Int32.toNatClampNeg ((24 : Int32) + ((7 : Int32) * ((M_s u) (Int32.toNatClampNeg (0 : Int32)))))) p1) (Int32.toNatClampNeg (((24 : Int32) + ((7 : Int32) * ((M_s u) (Int32.toNatClampNeg (0 : Int32))))) + (1 : Int32))) p2) (Int32.toNatClampNeg (((24 : Int32) + ((7 : Int32) * ((M_s u) (Int32.toNatClampNeg (0 : Int32))))) + (2 : Int32))) p3)) (Int32.toNatClampNeg ((16 : Int32) + p1))))) (Int32.toNatClampNeg ((16 : Int32) + p2))))) (Int32.toNatClampNeg ((16 : Int32) + p3)))) (Int32.toNatClampNeg (((24 : Int32) + ((7 : Int32) * ((M_s u) (Int32.toNatClampNeg (0 : Int32))))) + (6 : Int32))) p4) (Int32.toNatClampNeg (0 : Int32)) (((M_s (wM_s (wM_s (wM_s (wM_s (wM_s (wM_s (wM_s u (Int32.toNatClampNeg ((24 : Int32) + ((7 : Int32) * ((M_s u) (Int32.toNatClampNeg (0 : Int32)))))) p1) (Int32.toNatClampNeg (((24 : Int32) + ((7 : Int32) * ((M_s u) (Int32.toNatClampNeg (0 : Int32))))) + (1 : Int32))) p2) (Int32.toNatClampNeg (((24 : Int32) + ((7 : Int32) * ((M_s u) (Int32.toNatClampNeg (0 : Int32))))) + (2 : Int32))) p3) (Int32.toNatClampNeg (((24 : Int32) + ((7 : Int32) * ((M_s u) (Int32.toNatClampNeg (0 : Int32))))) + (3 : Int32))) ((M_s (wM_s (wM_s (wM_s u (Int32.toNatClampNeg ((24 : Int32) + ((7 : Int32) * ((M_s u) (Int32.toNatClampNeg (0 : Int32)))))) p1) (Int32.toNatClampNeg (((24 : Int32) + ((7 : Int32) * ((M_s u) (Int32.toNatClampNeg (0 : Int32))))) + (1 : Int32))) p2) (Int32.toNatClampNeg (((24 : Int32) + ((7 : Int32) * ((M_s u) (Int32.toNatClampNeg (0 : Int32))))) + (2 : Int32))) p3)) (Int32.toNatClampNeg ((16 : Int32) + p1)))) (Int32.toNatClampNeg (((24 : Int32) + ((7 : Int32) * ((M_s u) (Int32.toNatClampNeg (0 : Int32))))) + (4 : Int32))) ((M_s (wM_s (wM_s (wM_s (wM_s u (Int32.toNatClampNeg ((24 : Int32) + ((7 : Int32) * ((M_s u) (Int32.toNatClampNeg (0 : Int32)))))) p1) (Int32.toNatClampNeg (((24 : Int32) + ((7 : Int32) * ((M_s u) (Int32.toNatClampNeg (0 : Int32))))) + (1 : Int32))) p2) (Int32.toNatClampNeg (((24 : Int32) + ((7 : Int32) * ((M_s u) (Int32.toNatClampNeg (0 : Int32))))) + (2 : Int32))) p3) (Int32.toNatClampNeg (((24 : Int32) + ((7 : Int32) * ((M_s u) (Int32.toNatClampNeg (0 : Int32))))) + (3 : Int32))) ((M_s (wM_s (wM_s (wM_s u (Int32.toNatClampNeg ((24 : Int32) + ((7 : Int32) * ((M_s u) (Int32.toNatClampNeg (0 : Int32)))))) p1) (Int32.toNatClampNeg (((24 : Int32) + ((7 : Int32) * ((M_s u) (Int32.toNatClampNeg (0 : Int32))))) + (1 : Int32))) p2) (Int32.toNatClampNeg (((24 : Int32) + ((7 : Int32) * ((M_s u) (Int32.toNatClampNeg (0 : Int32))))) + (2 : Int32))) p3)) (Int32.toNatClampNeg ((16 : Int32) + p1))))) (Int32.toNatClampNeg ((16 : Int32) + p2)))) (Int32.toNatClampNeg (((24 : Int32) + ((7 : Int32) * ((M_s u) (Int32.toNatClampNeg (0 : Int32))))) + (5 : Int32))) ((M_s (wM_s (wM_s (wM_s (wM_s (wM_s u (Int32.toNatClampNeg ((24 : Int32) + ((7 : Int32) * ((M_s u) (Int32.toNatClampNeg (0 : Int32)))))) p1) (Int32.toNatClampNeg (((24 : Int32) + ((7 : Int32) * ((M_s u) (Int32.toNatClampNeg (0 : Int32))))) + (1 : Int32))) p2) (Int32.toNatClampNeg (((24 : Int32) + ((7 : Int32) * ((M_s u) (Int32.toNatClampNeg (0 : Int32))))) + (2 : Int32))) p3) (Int32.toNatClampNeg (((24 : Int32) + ((7 : Int32) * ((M_s u) (Int32.toNatClampNeg (0 : Int32))))) + (3 : Int32))) ((M_s (wM_s (wM_s (wM_s u (Int32.toNatClampNeg ((24 : Int32) + ((7 : Int32) * ((M_s u) (Int32.toNatClampNeg (0 : Int32)))))) p1) (Int32.toNatClampNeg (((24 : Int32) + ((7 : Int32) * ((M_s u) (Int32.toNatClampNeg (0 : Int32))))) + (1 : Int32))) p2) (Int32.toNatClampNeg (((24 : Int32) + ((7 : Int32) * ((M_s u) (Int32.toNatClampNeg (0 : Int32))))) + (2 : Int32))) p3)) (Int32.toNatClampNeg ((16 : Int32) + p1)))) (Int32.toNatClampNeg (((24 : Int32) + ((7 : Int32) * ((M_s u) (Int32.toNatClampNeg (0 : Int32))))) + (4 : Int32))) ((M_s (wM_s (wM_s (wM_s (wM_s u (Int32.toNatClampNeg ((24 : Int32) + ((7 : Int32) * ((M_s u) (Int32.toNatClampNeg (0 : Int32)))))) p1) (Int32.toNatClampNeg (((24 : Int32) + ((7 : Int32) * ((M_s u) (Int32.toNatClampNeg (0 : Int32))))) + (1 : Int32))) p2) (Int32.toNatClampNeg (((24 : Int32) + ((7 : Int32) * ((M_s u) (Int32.toNatClampNeg (0 : Int32))))) + (2 : Int32))) p3) (Int32.toNatClampNeg (((24 : Int32) + ((7 : Int32) * ((M_s u) (Int32.toNatClampNeg (0 : Int32))))) + (3 : Int32))) ((M_s (wM_s (wM_s (wM_s u (Int32.toNatClampNeg ((24 : Int32) + ((7 : Int32) * ((M_s u) (Int32.toNatClampNeg (0 : Int32)))))) p1) (Int32.toNatClampNeg (((24 : Int32) + ((7 : Int32) * ((M_s u) (Int32.toNatClampNeg (0 : Int32))))) + (1 : Int32))) p2) (Int32.toNatClampNeg (((24 : Int32) + ((7 : Int32) * ((M_s u) (Int32.toNatClampNeg (0 : Int32))))) + (2 : Int32))) p3)) (Int32.toNatClampNeg ((16 : Int32) + p1))))) (Int32.toNatClampNeg ((16 : Int32) + p2))))) (Int32.toNatClampNeg ((16 : Int32) + p3)))) (Int32.toNatClampNeg (((24 : Int32) + ((7 : Int32) * ((M_s u) (Int32.toNatClampNeg (0 : Int32))))) + (6 : Int32))) p4)) (Int32.toNatClampNeg (0 : Int32))) + (1 : Int32)))) := hD
  refine lv_aload_n hx hb dX4_lays_118 rfl (lv_at hl 1 rfl) ?_
  refine va_get (D := D) (ci := 4) (v := .ref (a 1)) (C := RX4) (T := TX4) (N := 12) hx hb hts inT4 hown hK.k hP 0 rfl rfl 1 (by decide) (hts _ q_820) (fun _ h9 => h9) rfl dX4_lays_119 ?_
  refine lv_iconst (v := (0 : Int32)) hx hb dX4_lays_122 (by decide) ?_
  refine va_iald hx hb hK.k hP 1 0 rfl rfl h.1 dX4_lays_123 ?_
  replace h := h.2
  refine lv_iconst (v := (1 : Int32)) hx hb dX4_lays_124 (by decide) ?_
  refine lv_isub hx hb dX4_lays_125 ?_
  exact hQ h hP hD hS dX4_lays_126

def wp_X4_canLay (u : Md) (p1 : Int32) (p2 : Int32) (p3 : Int32) (post : Int32 → Prop) : Prop :=
  (vp_in (0 : Int32) 854) ∧ (((6 : Int32) ≤ ((M_s u) (Int32.toNatClampNeg (0 : Int32))) → post (0 : Int32)) ∧ (¬ (6 : Int32) ≤ ((M_s u) (Int32.toNatClampNeg (0 : Int32))) → wp_X4_isOpenNow u p1 (fun r2 => (r2 = 0 → post (0 : Int32)) ∧ (¬ r2 = 0 → wp_X4_isOpenNow u p2 (fun r5 => (r5 = 0 → post (0 : Int32)) ∧ (¬ r5 = 0 → wp_X4_isOpenNow u p3 (fun r8 => (r8 = 0 → post (0 : Int32)) ∧ (¬ r8 = 0 → post (1 : Int32)))))))))
set_option maxHeartbeats 4000000 in
set_option maxRecDepth 100000 in
theorem c_X4_canLay (l : Launch) (D : va_G) (cI cS cJ : ClassId) (a : Nat → Nat) (u : Md) (H0 : Heap) (p1 : Int32) (p2 : Int32) (p3 : Int32) {post : Int32 → Prop} (h : wp_X4_canLay u p1 p2 p3 post) : Met l yX4_canLay (wsA yX4_canLay cX4_canLay 4 (some .boolean)) rm_X4_canLay (va_Pc [.ref (a 0), .int p1, .int p2, .int p3] (roP D (tysA cI cS cJ) (mdW cI a u) H0)) (va_Qi (fun r (_ : Unit) => bz r ∧ post r) (fun _ t => t.heap = H0) nF) 0 0 nF := by
  refine mkROz (by decide +kernel) (Nat.le_of_ble_eq_true rfl) (fun {p e s m args below meth c Q ls} hx hb F hts hown hK hP hl hQ => ?_)
  have hown : s.vm.findClass RX4 = some m.cls := hown
  have F : CallFix p m c cX4_canLay 4 s args wsT RX4 := F
  have hl : lv_has ls 4 [(0, .ref (a 0)), (1, .int p1), (2, .int p2), (3, .int p3)] := hl
  unfold wp_X4_canLay at h
  refine lv_aload_n hx hb dX4_canLay_0 rfl (lv_at hl 0 rfl) ?_
  refine va_get (D := D) (ci := 4) (v := .ref (a 1)) (C := RX4) (T := TX4) (N := 12) hx hb hts inT4 hown hK.k hP 0 rfl rfl 1 (by decide) (hts _ q_820) (fun _ h9 => h9) rfl dX4_canLay_1 ?_
  refine lv_iconst (v := (0 : Int32)) hx hb dX4_canLay_4 (by decide) ?_
  refine va_iald hx hb hK.k hP 1 0 rfl rfl h.1 dX4_canLay_5 ?_
  replace h := h.2
  refine lv_bipush (v := (6 : Int32)) hx hb dX4_canLay_6 (by decide) ?_
  refine lv_icmp_ge (tgt := 39) hx hb dX4_canLay_8 (by decide) (fun c1 => ?_) (fun c1 => ?_)
  · replace h := h.1 c1
    refine lv_iconst (v := (0 : Int32)) hx hb dX4_canLay_39 (by decide) ?_
    exact hQ bz0 h dX4_canLay_40
  · replace h := h.2 c1
    refine lv_aload_n hx hb dX4_canLay_11 rfl (lv_at hl 0 rfl) ?_
    refine lv_iload_n hx hb dX4_canLay_12 rfl (lv_at hl 1 rfl) ?_
    refine roVi (As := [.int p1]) (rest := []) F (c_X4_isOpenNow l D cI cS cJ a u H0 p1 h) (cw_X4_28 hts (Nat.le_of_ble_eq_true rfl) (Nat.le_of_ble_eq_true rfl)) hK hP (recv (ci := 4) (k0 := 0) hK hP rfl rfl) rfl hl.1 rfl (Nat.le_of_ble_eq_true rfl) dX4_canLay_13 ⟨Nat.zero_le _, Nat.zero_le _⟩ (fun r2 h => ?_)
    obtain ⟨b3, h⟩ := h
    refine lv_if_eq (tgt := 39) hx hb dX4_canLay_16 (by decide) (fun c4 => ?_) (fun c4 => ?_)
    · replace h := h.1 c4
      refine lv_iconst (v := (0 : Int32)) hx hb dX4_canLay_39 (by decide) ?_
      exact hQ bz0 h dX4_canLay_40
    · replace h := h.2 c4
      refine lv_aload_n hx hb dX4_canLay_19 rfl (lv_at hl 0 rfl) ?_
      refine lv_iload_n hx hb dX4_canLay_20 rfl (lv_at hl 2 rfl) ?_
      refine roVi (As := [.int p2]) (rest := []) F (c_X4_isOpenNow l D cI cS cJ a u H0 p2 h) (cw_X4_28 hts (Nat.le_of_ble_eq_true rfl) (Nat.le_of_ble_eq_true rfl)) hK hP (recv (ci := 4) (k0 := 0) hK hP rfl rfl) rfl hl.1 rfl (Nat.le_of_ble_eq_true rfl) dX4_canLay_21 ⟨Nat.zero_le _, Nat.zero_le _⟩ (fun r5 h => ?_)
      obtain ⟨b6, h⟩ := h
      refine lv_if_eq (tgt := 39) hx hb dX4_canLay_24 (by decide) (fun c7 => ?_) (fun c7 => ?_)
      · replace h := h.1 c7
        refine lv_iconst (v := (0 : Int32)) hx hb dX4_canLay_39 (by decide) ?_
        exact hQ bz0 h dX4_canLay_40
      · replace h := h.2 c7
        refine lv_aload_n hx hb dX4_canLay_27 rfl (lv_at hl 0 rfl) ?_
        refine lv_iload_n hx hb dX4_canLay_28 rfl (lv_at hl 3 rfl) ?_
        refine roVi (As := [.int p3]) (rest := []) F (c_X4_isOpenNow l D cI cS cJ a u H0 p3 h) (cw_X4_28 hts (Nat.le_of_ble_eq_true rfl) (Nat.le_of_ble_eq_true rfl)) hK hP (recv (ci := 4) (k0 := 0) hK hP rfl rfl) rfl hl.1 rfl (Nat.le_of_ble_eq_true rfl) dX4_canLay_29 ⟨Nat.zero_le _, Nat.zero_le _⟩ (fun r8 h => ?_)
        obtain ⟨b9, h⟩ := h
        refine lv_if_eq (tgt := 39) hx hb dX4_canLay_32 (by decide) (fun c10 => ?_) (fun c10 => ?_)
        · replace h := h.1 c10
          refine lv_iconst (v := (0 : Int32)) hx hb dX4_canLay_39 (by decide) ?_
          exact hQ bz0 h dX4_canLay_40
        · replace h := h.2 c10
          refine lv_iconst (v := (1 : Int32)) hx hb dX4_canLay_35 (by decide) ?_
          refine lv_goto (tgt := 40) hx hb dX4_canLay_36 (by decide) ?_
          exact hQ bz1 h dX4_canLay_40

def wp_X4_canTakeUp (u : Md)  (post : Int32 → Prop) : Prop :=
  (vp_in (0 : Int32) 854) ∧ (jn (fun (x1 : Int32) => LP2 (fun (K9 : Int32 → Int32 → Prop) (x6 : Int32) (x8 : Int32) => (vp_in (1 : Int32) 854) ∧ ((((M_s u) (Int32.toNatClampNeg (1 : Int32))) ≤ x8 → post x6) ∧ (¬ ((M_s u) (Int32.toNatClampNeg (1 : Int32))) ≤ x8 → jn (fun (x12 : Int32) => K9 x12 (x8 + 1)) (fun (J14 : Int32 → Prop) => jn (J14 (0 : Int32)) (fun (J17 : Prop) => (x6 = 0 → J17) ∧ (¬ x6 = 0 → wp_X4_of u x8 (0 : Int32) (fun r21 => (vp_in (0 : Int32) 854) ∧ ((r21 = (((M_s u) (Int32.toNatClampNeg (0 : Int32))) - (1 : Int32)) → J17) ∧ (¬ r21 = (((M_s u) (Int32.toNatClampNeg (0 : Int32))) - (1 : Int32)) → J14 (1 : Int32)))))))))) x1 (0 : Int32)) (fun (J3 : Int32 → Prop) => (((M_s u) (Int32.toNatClampNeg (0 : Int32))) ≤ 0 → J3 (0 : Int32)) ∧ (¬ ((M_s u) (Int32.toNatClampNeg (0 : Int32))) ≤ 0 → J3 (1 : Int32))))
set_option maxHeartbeats 4000000 in
set_option maxRecDepth 100000 in
theorem c_X4_canTakeUp (l : Launch) (D : va_G) (cI cS cJ : ClassId) (a : Nat → Nat) (u : Md) (H0 : Heap)  {post : Int32 → Prop} (h : wp_X4_canTakeUp u post) : Met l yX4_canTakeUp (wsA yX4_canTakeUp cX4_canTakeUp 3 (some .boolean)) rm_X4_canTakeUp (va_Pc [.ref (a 0)] (roP D (tysA cI cS cJ) (mdW cI a u) H0)) (va_Qi (fun r (_ : Unit) => bz r ∧ post r) (fun _ t => t.heap = H0) nF) 0 0 nF := by
  refine mkROz (by decide +kernel) (Nat.le_of_ble_eq_true rfl) (fun {p e s m args below meth c Q ls} hx hb F hts hown hK hP hl hQ => ?_)
  have hown : s.vm.findClass RX4 = some m.cls := hown
  have F : CallFix p m c cX4_canTakeUp 3 s args wsT RX4 := F
  have hl : lv_has ls 3 [(0, .ref (a 0))] := hl
  unfold wp_X4_canTakeUp at h
  refine lv_aload_n hx hb dX4_canTakeUp_0 rfl (lv_at hl 0 rfl) ?_
  refine va_get (D := D) (ci := 4) (v := .ref (a 1)) (C := RX4) (T := TX4) (N := 12) hx hb hts inT4 hown hK.k hP 0 rfl rfl 1 (by decide) (hts _ q_820) (fun _ h9 => h9) rfl dX4_canTakeUp_1 ?_
  refine lv_iconst (v := (0 : Int32)) hx hb dX4_canTakeUp_4 (by decide) ?_
  refine va_iald hx hb hK.k hP 1 0 rfl rfl h.1 dX4_canTakeUp_5 ?_
  replace h := h.2
  refine jn_e h (fun J3 e5 h => ?_)
  have w4 : ∀ (x1 : Int32) (ls : Array Slot), bz x1 → lv_has ls 3 [(0, .ref (a 0))] → J3 x1 → W p l e rm_X4_canTakeUp s m args below meth c H0 [] 0 0 Q (F0 m 14 ls [.int x1]) := by
    intro x1 ls b2 hl h
    subst e5
    refine lv_istore_n (lv' := [(1, .int x1), (0, .ref (a 0))]) hx hb dX4_canTakeUp_14 rfl hl (by decide) rfl (fun ls hl => ?_)
    refine lv_iconst (v := (0 : Int32)) hx hb dX4_canTakeUp_15 (by decide) ?_
    refine lv_istore_n (lv' := [(2, .int (0 : Int32)), (1, .int x1), (0, .ref (a 0))]) hx hb dX4_canTakeUp_16 rfl hl (by decide) rfl (fun ls hl => ?_)
    refine lpu2 h (fun K9 : Int32 → Int32 → Prop => ∀ (x6 : Int32) (x8 : Int32) (ls : Array Slot), bz x6 → lv_has ls 3 [(0, .ref (a 0)), (1, .int x6), (2, .int x8)] → K9 x6 x8 → W p l e rm_X4_canTakeUp s m args below meth c H0 [] 0 0 Q (F0 m 17 ls [])) ?_ ?_ ?_
    · intro x6 x8 ls b7 hl h
      exact h.elim
    · intro K9
      intro w10 x6 x8 ls b7 hl h
      refine lv_iload_n hx hb dX4_canTakeUp_17 rfl (lv_at hl 2 rfl) ?_
      refine lv_aload_n hx hb dX4_canTakeUp_18 rfl (lv_at hl 0 rfl) ?_
      refine va_get (D := D) (ci := 4) (v := .ref (a 1)) (C := RX4) (T := TX4) (N := 12) hx hb hts inT4 hown hK.k hP 0 rfl rfl 1 (by decide) (hts _ q_820) (fun _ h9 => h9) rfl dX4_canTakeUp_19 ?_
      refine lv_iconst (v := (1 : Int32)) hx hb dX4_canTakeUp_22 (by decide) ?_
      refine va_iald hx hb hK.k hP 1 0 rfl rfl h.1 dX4_canTakeUp_23 ?_
      replace h := h.2
      refine lv_icmp_ge (tgt := 60) hx hb dX4_canTakeUp_24 (by decide) (fun c11 => ?_) (fun c11 => ?_)
      · replace h := h.1 c11
        refine lv_iload_n hx hb dX4_canTakeUp_60 rfl (lv_at hl 1 rfl) ?_
        exact hQ b7 h dX4_canTakeUp_61
      · replace h := h.2 c11
        refine lv_iload_n hx hb dX4_canTakeUp_27 rfl (lv_at hl 1 rfl) ?_
        refine jn_e h (fun J14 e16 h => ?_)
        have w15 : ∀ (x12 : Int32) (ls : Array Slot), bz x12 → lv_has ls 3 [(0, .ref (a 0)), (2, .int x8)] → J14 x12 → W p l e rm_X4_canTakeUp s m args below meth c H0 [] 0 0 Q (F0 m 53 ls [.int x12]) := by
          intro x12 ls b13 hl h
          subst e16
          refine lv_istore_n (lv' := [(1, .int x12), (0, .ref (a 0)), (2, .int x8)]) hx hb dX4_canTakeUp_53 rfl hl (by decide) rfl (fun ls hl => ?_)
          refine lv_iinc (v := (x8 + 1)) (lv' := [(2, .int (x8 + 1)), (1, .int x12), (0, .ref (a 0))]) hx hb dX4_canTakeUp_54 hl (k := 2) rfl rfl (by decide) rfl (fun ls hl => ?_)
          refine lv_goto (tgt := 17) hx hb dX4_canTakeUp_57 (by decide) ?_
          exact w10 x12 (x8 + 1) _ b13 (lv_sub hl [2, 1, 0] rfl) h
        clear e16
        refine jn_e h (fun J17 e19 h => ?_)
        have w18 : ∀  (ls : Array Slot), lv_has ls 3 [(0, .ref (a 0)), (2, .int x8)] → J17 → W p l e rm_X4_canTakeUp s m args below meth c H0 [] 0 0 Q (F0 m 52 ls []) := by
          intro ls hl h
          subst e19
          refine lv_iconst (v := (0 : Int32)) hx hb dX4_canTakeUp_52 (by decide) ?_
          exact w15 (0 : Int32) _ bz0 hl h
        clear e19
        refine lv_if_eq (tgt := 52) hx hb dX4_canTakeUp_28 (by decide) (fun c20 => ?_) (fun c20 => ?_)
        · replace h := h.1 c20
          exact w18 _ (lv_sub hl [0, 2] rfl) h
        · replace h := h.2 c20
          refine lv_aload_n hx hb dX4_canTakeUp_31 rfl (lv_at hl 0 rfl) ?_
          refine lv_iload_n hx hb dX4_canTakeUp_32 rfl (lv_at hl 2 rfl) ?_
          refine lv_iconst (v := (0 : Int32)) hx hb dX4_canTakeUp_33 (by decide) ?_
          refine roVi (As := [.int x8, .int (0 : Int32)]) (rest := []) F (c_X4_of l D cI cS cJ a u H0 x8 (0 : Int32) h) (cw_X4_46 hts (Nat.le_of_ble_eq_true rfl) (Nat.le_of_ble_eq_true rfl)) hK hP (recv (ci := 4) (k0 := 0) hK hP rfl rfl) rfl hl.1 rfl (Nat.le_of_ble_eq_true rfl) dX4_canTakeUp_34 ⟨Nat.zero_le _, Nat.zero_le _⟩ (fun r21 h => ?_)
          refine lv_aload_n hx hb dX4_canTakeUp_37 rfl (lv_at hl 0 rfl) ?_
          refine va_get (D := D) (ci := 4) (v := .ref (a 1)) (C := RX4) (T := TX4) (N := 12) hx hb hts inT4 hown hK.k hP 0 rfl rfl 1 (by decide) (hts _ q_820) (fun _ h9 => h9) rfl dX4_canTakeUp_38 ?_
          refine lv_iconst (v := (0 : Int32)) hx hb dX4_canTakeUp_41 (by decide) ?_
          refine va_iald hx hb hK.k hP 1 0 rfl rfl h.1 dX4_canTakeUp_42 ?_
          replace h := h.2
          refine lv_iconst (v := (1 : Int32)) hx hb dX4_canTakeUp_43 (by decide) ?_
          refine lv_isub hx hb dX4_canTakeUp_44 ?_
          refine lv_icmp_eq (tgt := 52) hx hb dX4_canTakeUp_45 (by decide) (fun c22 => ?_) (fun c22 => ?_)
          · replace h := h.1 c22
            exact w18 _ (lv_sub hl [0, 2] rfl) h
          · replace h := h.2 c22
            refine lv_iconst (v := (1 : Int32)) hx hb dX4_canTakeUp_48 (by decide) ?_
            refine lv_goto (tgt := 53) hx hb dX4_canTakeUp_49 (by decide) ?_
            exact w15 (1 : Int32) _ bz1 (lv_sub hl [0, 2] rfl) h
    · intro K9 w10 h
      exact w10 x1 (0 : Int32) _ b2 (lv_sub hl [2, 1, 0] rfl) h
  clear e5
  refine lv_if_le (tgt := 13) hx hb dX4_canTakeUp_6 (by decide) (fun c23 => ?_) (fun c23 => ?_)
  · replace h := h.1 c23
    refine lv_iconst (v := (0 : Int32)) hx hb dX4_canTakeUp_13 (by decide) ?_
    exact w4 (0 : Int32) _ bz0 hl h
  · replace h := h.2 c23
    refine lv_iconst (v := (1 : Int32)) hx hb dX4_canTakeUp_9 (by decide) ?_
    refine lv_goto (tgt := 14) hx hb dX4_canTakeUp_10 (by decide) ?_
    exact w4 (1 : Int32) _ bz1 hl h

def wp_X4_isRoom (u : Md)  (post : Int32 → Prop) : Prop :=
  (vp_in (1 : Int32) 854) ∧ (((12 : Int32) ≤ ((M_s u) (Int32.toNatClampNeg (1 : Int32))) → post (0 : Int32)) ∧ (¬ (12 : Int32) ≤ ((M_s u) (Int32.toNatClampNeg (1 : Int32))) → post (1 : Int32)))
set_option maxHeartbeats 4000000 in
set_option maxRecDepth 100000 in
theorem c_X4_isRoom (l : Launch) (D : va_G) (cI cS cJ : ClassId) (a : Nat → Nat) (u : Md) (H0 : Heap)  {post : Int32 → Prop} (h : wp_X4_isRoom u post) : Met l yX4_isRoom (wsA yX4_isRoom cX4_isRoom 1 (some .boolean)) rm_X4_isRoom (va_Pc [.ref (a 0)] (roP D (tysA cI cS cJ) (mdW cI a u) H0)) (va_Qi (fun r (_ : Unit) => bz r ∧ post r) (fun _ t => t.heap = H0) nF) 0 0 nF := by
  refine mkROz (by decide +kernel) (Nat.le_of_ble_eq_true rfl) (fun {p e s m args below meth c Q ls} hx hb F hts hown hK hP hl hQ => ?_)
  have hown : s.vm.findClass RX4 = some m.cls := hown
  have F : CallFix p m c cX4_isRoom 1 s args wsT RX4 := F
  have hl : lv_has ls 1 [(0, .ref (a 0))] := hl
  unfold wp_X4_isRoom at h
  refine lv_aload_n hx hb dX4_isRoom_0 rfl (lv_at hl 0 rfl) ?_
  refine va_get (D := D) (ci := 4) (v := .ref (a 1)) (C := RX4) (T := TX4) (N := 12) hx hb hts inT4 hown hK.k hP 0 rfl rfl 1 (by decide) (hts _ q_820) (fun _ h9 => h9) rfl dX4_isRoom_1 ?_
  refine lv_iconst (v := (1 : Int32)) hx hb dX4_isRoom_4 (by decide) ?_
  refine va_iald hx hb hK.k hP 1 0 rfl rfl h.1 dX4_isRoom_5 ?_
  replace h := h.2
  refine lv_bipush (v := (12 : Int32)) hx hb dX4_isRoom_6 (by decide) ?_
  refine lv_icmp_ge (tgt := 15) hx hb dX4_isRoom_8 (by decide) (fun c1 => ?_) (fun c1 => ?_)
  · replace h := h.1 c1
    refine lv_iconst (v := (0 : Int32)) hx hb dX4_isRoom_15 (by decide) ?_
    exact hQ bz0 h dX4_isRoom_16
  · replace h := h.2 c1
    refine lv_iconst (v := (1 : Int32)) hx hb dX4_isRoom_11 (by decide) ?_
    refine lv_goto (tgt := 16) hx hb dX4_isRoom_12 (by decide) ?_
    exact hQ bz1 h dX4_isRoom_16

def wp_X4_canAnswer (u : Md) (p1 : Int32) (post : Int32 → Prop) : Prop :=
  (vp_in ((118 : Int32) + p1) 854) ∧ ((((M_s u) (Int32.toNatClampNeg ((118 : Int32) + p1))) = (-1 : Int32) → post (0 : Int32)) ∧ (¬ ((M_s u) (Int32.toNatClampNeg ((118 : Int32) + p1))) = (-1 : Int32) → wp_X4_isRoom u (fun r2 => (r2 = 0 → post (0 : Int32)) ∧ (¬ r2 = 0 → post (1 : Int32)))))
set_option maxHeartbeats 4000000 in
set_option maxRecDepth 100000 in
theorem c_X4_canAnswer (l : Launch) (D : va_G) (cI cS cJ : ClassId) (a : Nat → Nat) (u : Md) (H0 : Heap) (p1 : Int32) {post : Int32 → Prop} (h : wp_X4_canAnswer u p1 post) : Met l yX4_canAnswer (wsA yX4_canAnswer cX4_canAnswer 2 (some .boolean)) rm_X4_canAnswer (va_Pc [.ref (a 0), .int p1] (roP D (tysA cI cS cJ) (mdW cI a u) H0)) (va_Qi (fun r (_ : Unit) => bz r ∧ post r) (fun _ t => t.heap = H0) nF) 0 0 nF := by
  refine mkROz (by decide +kernel) (Nat.le_of_ble_eq_true rfl) (fun {p e s m args below meth c Q ls} hx hb F hts hown hK hP hl hQ => ?_)
  have hown : s.vm.findClass RX4 = some m.cls := hown
  have F : CallFix p m c cX4_canAnswer 2 s args wsT RX4 := F
  have hl : lv_has ls 2 [(0, .ref (a 0)), (1, .int p1)] := hl
  unfold wp_X4_canAnswer at h
  refine lv_aload_n hx hb dX4_canAnswer_0 rfl (lv_at hl 0 rfl) ?_
  refine va_get (D := D) (ci := 4) (v := .ref (a 1)) (C := RX4) (T := TX4) (N := 12) hx hb hts inT4 hown hK.k hP 0 rfl rfl 1 (by decide) (hts _ q_820) (fun _ h9 => h9) rfl dX4_canAnswer_1 ?_
  refine lv_bipush (v := (118 : Int32)) hx hb dX4_canAnswer_4 (by decide) ?_
  refine lv_iload_n hx hb dX4_canAnswer_6 rfl (lv_at hl 1 rfl) ?_
  refine lv_iadd hx hb dX4_canAnswer_7 ?_
  refine va_iald hx hb hK.k hP 1 0 rfl rfl h.1 dX4_canAnswer_8 ?_
  replace h := h.2
  refine lv_iconst (v := (-1 : Int32)) hx hb dX4_canAnswer_9 (by decide) ?_
  refine lv_icmp_eq (tgt := 24) hx hb dX4_canAnswer_10 (by decide) (fun c1 => ?_) (fun c1 => ?_)
  · replace h := h.1 c1
    refine lv_iconst (v := (0 : Int32)) hx hb dX4_canAnswer_24 (by decide) ?_
    exact hQ bz0 h dX4_canAnswer_25
  · replace h := h.2 c1
    refine lv_aload_n hx hb dX4_canAnswer_13 rfl (lv_at hl 0 rfl) ?_
    refine roVi (As := []) (rest := []) F (c_X4_isRoom l D cI cS cJ a u H0  h) (cw_X4_69 hts (Nat.le_of_ble_eq_true rfl) (Nat.le_of_ble_eq_true rfl)) hK hP (recv (ci := 4) (k0 := 0) hK hP rfl rfl) rfl hl.1 rfl (Nat.le_of_ble_eq_true rfl) dX4_canAnswer_14 ⟨Nat.zero_le _, Nat.zero_le _⟩ (fun r2 h => ?_)
    obtain ⟨b3, h⟩ := h
    refine lv_if_eq (tgt := 24) hx hb dX4_canAnswer_17 (by decide) (fun c4 => ?_) (fun c4 => ?_)
    · replace h := h.1 c4
      refine lv_iconst (v := (0 : Int32)) hx hb dX4_canAnswer_24 (by decide) ?_
      exact hQ bz0 h dX4_canAnswer_25
    · replace h := h.2 c4
      refine lv_iconst (v := (1 : Int32)) hx hb dX4_canAnswer_20 (by decide) ?_
      refine lv_goto (tgt := 25) hx hb dX4_canAnswer_21 (by decide) ?_
      exact hQ bz1 h dX4_canAnswer_25

def wp_X4_copies (u : Md) (p1 : Int32) (p2 : Int32) (post : Md → Prop) : Prop :=
  LP2 (fun (K3 : Int32 → Md → Prop) (x1 : Int32) (u2 : Md) => ((122 : Int32) ≤ x1 → post u2) ∧ (¬ (122 : Int32) ≤ x1 → (vp_in (((122 : Int32) * p1) + x1) 854) ∧ ((vp_in (((122 : Int32) * p2) + x1) 854) ∧ (K3 (x1 + 1) (wM_s u2 (Int32.toNatClampNeg (((122 : Int32) * p2) + x1)) ((M_s u2) (Int32.toNatClampNeg (((122 : Int32) * p1) + x1)))))))) (0 : Int32) u
set_option maxHeartbeats 4000000 in
set_option maxRecDepth 100000 in
theorem c_X4_copies (l : Launch) (D : va_G) (cI cS cJ : ClassId) (a : Nat → Nat) (u : Md) (sz : Nat) (p1 : Int32) (p2 : Int32) {post : Md → Prop} (h : wp_X4_copies u p1 p2 post) : Met l yX4_copies (wsA yX4_copies cX4_copies 4 none) rm_X4_copies (va_Pc [.ref (a 0), .int p1, .int p2] (rwP D (tysA cI cS cJ) (mdW cI a u) sz)) (va_Qv post (fun u9 t => va_P D vwCl ((mdW cI a) u9) t.heap ∧ va_D (va_A (mdW cI a u) sz) ((mdW cI a) u9)) (va_A (mdW cI a u) sz)) 0 0 (va_A (mdW cI a u) sz) := by
  refine mkRWv (wf := (mdW cI a)) (by decide +kernel) (Nat.le_of_ble_eq_true rfl) (fun {p e s m args below meth c Q ls A H0 H locs} hx hb F hts hown hin hK hP hD hS hA hl hQ => ?_)
  have hown : s.vm.findClass RX4 = some m.cls := hown
  have F : CallFix p m c cX4_copies 4 s args wsT RX4 := F
  have hl : lv_has ls 4 [(0, .ref (a 0)), (1, .int p1), (2, .int p2)] := hl
  unfold wp_X4_copies at h
  refine lv_iconst (v := (0 : Int32)) hx hb dX4_copies_0 (by decide) ?_
  refine lv_istore_n (lv' := [(3, .int (0 : Int32)), (0, .ref (a 0)), (1, .int p1), (2, .int p2)]) hx hb dX4_copies_1 rfl hl (by decide) rfl (fun ls hl => ?_)
  refine lpu2 h (fun K3 : Int32 → Md → Prop => ∀ (x1 : Int32) (u2 : Md) (ls : Array Slot) (H : Heap) (locs : List Loc), lv_has ls 4 [(0, .ref (a 0)), (1, .int p1), (2, .int p2), (3, .int x1)] → va_P D vwCl (mdW cI a u2) H → va_D A (mdW cI a u2) → va_S A H0 H locs → K3 x1 u2 → W p l e rm_X4_copies s m args below meth c H locs 0 0 Q (F0 m 2 ls [])) ?_ ?_ ?_
  · intro x1 u2 ls H locs hl hP hD hS h
    exact h.elim
  · intro K3
    intro w4 x1 u2 ls H locs hl hP hD hS h
    refine lv_iload_n hx hb dX4_copies_2 rfl (lv_at hl 3 rfl) ?_
    refine lv_bipush (v := (122 : Int32)) hx hb dX4_copies_3 (by decide) ?_
    refine lv_icmp_ge (tgt := 36) hx hb dX4_copies_5 (by decide) (fun c5 => ?_) (fun c5 => ?_)
    · replace h := h.1 c5
      exact hQ h hP hD hS dX4_copies_36
    · replace h := h.2 c5
      refine lv_aload_n hx hb dX4_copies_8 rfl (lv_at hl 0 rfl) ?_
      refine va_get (D := D) (ci := 4) (v := .ref (a 1)) (C := RX4) (T := TX4) (N := 12) hx hb hts inT4 hown hK.k hP 0 rfl rfl 1 (by decide) (hts _ q_820) (fun _ h9 => h9) rfl dX4_copies_9 ?_
      refine lv_bipush (v := (122 : Int32)) hx hb dX4_copies_12 (by decide) ?_
      refine lv_iload_n hx hb dX4_copies_14 rfl (lv_at hl 2 rfl) ?_
      refine lv_imul hx hb dX4_copies_15 ?_
      refine lv_iload_n hx hb dX4_copies_16 rfl (lv_at hl 3 rfl) ?_
      refine lv_iadd hx hb dX4_copies_17 ?_
      refine lv_aload_n hx hb dX4_copies_18 rfl (lv_at hl 0 rfl) ?_
      refine va_get (D := D) (ci := 4) (v := .ref (a 1)) (C := RX4) (T := TX4) (N := 12) hx hb hts inT4 hown hK.k hP 0 rfl rfl 1 (by decide) (hts _ q_820) (fun _ h9 => h9) rfl dX4_copies_19 ?_
      refine lv_bipush (v := (122 : Int32)) hx hb dX4_copies_22 (by decide) ?_
      refine lv_iload_n hx hb dX4_copies_24 rfl (lv_at hl 1 rfl) ?_
      refine lv_imul hx hb dX4_copies_25 ?_
      refine lv_iload_n hx hb dX4_copies_26 rfl (lv_at hl 3 rfl) ?_
      refine lv_iadd hx hb dX4_copies_27 ?_
      refine va_iald hx hb hK.k hP 1 0 rfl rfl h.1 dX4_copies_28 ?_
      replace h := h.2
      refine va_iast hx hb hK.k hP hD hS 1 0 rfl rfl h.1 dX4_copies_29 (fun H locs hP hD hS => ?_)
      replace h := h.2
      have hP : va_P D vwCl (mdW cI a (wM_s u2 (Int32.toNatClampNeg (((122 : Int32) * p2) + x1)) ((M_s u2) (Int32.toNatClampNeg (((122 : Int32) * p1) + x1))))) H := hP
      have hD : va_D A (mdW cI a (wM_s u2 (Int32.toNatClampNeg (((122 : Int32) * p2) + x1)) ((M_s u2) (Int32.toNatClampNeg (((122 : Int32) * p1) + x1))))) := hD
      refine lv_iinc (v := (x1 + 1)) (lv' := [(3, .int (x1 + 1)), (0, .ref (a 0)), (1, .int p1), (2, .int p2)]) hx hb dX4_copies_30 hl (k := 3) rfl rfl (by decide) rfl (fun ls hl => ?_)
      refine lv_goto (tgt := 2) hx hb dX4_copies_33 (by decide) ?_
      exact w4 (x1 + 1) (wM_s u2 (Int32.toNatClampNeg (((122 : Int32) * p2) + x1)) ((M_s u2) (Int32.toNatClampNeg (((122 : Int32) * p1) + x1)))) _ _ _ (lv_sub hl [1, 2, 3, 0] rfl) hP hD hS h
  · intro K3 w4 h
    exact w4 (0 : Int32) u _ _ _ (lv_sub hl [1, 2, 3, 0] rfl) hP hD hS h

def wp_X4_save (u : Md)  (post : Md → Prop) : Prop :=
  LP2 (fun (K3 : Int32 → Md → Prop) (x1 : Int32) (u2 : Md) => jn (jn (fun (x8 : Int32) => wp_X4_copies (sM_saved u2 ((M_saved u2) + x8)) (0 : Int32) (M_saved (sM_saved u2 ((M_saved u2) + x8))) (fun u14 => post u14)) (fun (J10 : Int32 → Prop) => ((6 : Int32) ≤ (M_saved u2) → J10 (0 : Int32)) ∧ (¬ (6 : Int32) ≤ (M_saved u2) → J10 (1 : Int32)))) (fun (J5 : Prop) => ((6 : Int32) ≤ x1 → J5) ∧ (¬ (6 : Int32) ≤ x1 → (¬ (M_saved u2) = (6 : Int32) → J5) ∧ ((M_saved u2) = (6 : Int32) → wp_X4_copies u2 (x1 + (1 : Int32)) x1 (fun u19 => K3 (x1 + 1) u19))))) (1 : Int32) u
set_option maxHeartbeats 4000000 in
set_option maxRecDepth 100000 in
theorem c_X4_save (l : Launch) (D : va_G) (cI cS cJ : ClassId) (a : Nat → Nat) (u : Md) (sz : Nat)  {post : Md → Prop} (h : wp_X4_save u post) : Met l yX4_save (wsA yX4_save cX4_save 2 none) rm_X4_save (va_Pc [.ref (a 0)] (rwP D (tysA cI cS cJ) (mdW cI a u) sz)) (va_Qv post (fun u9 t => va_P D vwCl ((mdW cI a) u9) t.heap ∧ va_D (va_A (mdW cI a u) sz) ((mdW cI a) u9)) (va_A (mdW cI a u) sz)) 0 0 (va_A (mdW cI a u) sz) := by
  refine mkRWv (wf := (mdW cI a)) (by decide +kernel) (Nat.le_of_ble_eq_true rfl) (fun {p e s m args below meth c Q ls A H0 H locs} hx hb F hts hown hin hK hP hD hS hA hl hQ => ?_)
  have hown : s.vm.findClass RX4 = some m.cls := hown
  have F : CallFix p m c cX4_save 2 s args wsT RX4 := F
  have hl : lv_has ls 2 [(0, .ref (a 0))] := hl
  unfold wp_X4_save at h
  refine lv_iconst (v := (1 : Int32)) hx hb dX4_save_0 (by decide) ?_
  refine lv_istore_n (lv' := [(1, .int (1 : Int32)), (0, .ref (a 0))]) hx hb dX4_save_1 rfl hl (by decide) rfl (fun ls hl => ?_)
  refine lpu2 h (fun K3 : Int32 → Md → Prop => ∀ (x1 : Int32) (u2 : Md) (ls : Array Slot) (H : Heap) (locs : List Loc), lv_has ls 2 [(0, .ref (a 0)), (1, .int x1)] → va_P D vwCl (mdW cI a u2) H → va_D A (mdW cI a u2) → va_S A H0 H locs → K3 x1 u2 → W p l e rm_X4_save s m args below meth c H locs 0 0 Q (F0 m 2 ls [])) ?_ ?_ ?_
  · intro x1 u2 ls H locs hl hP hD hS h
    exact h.elim
  · intro K3
    intro w4 x1 u2 ls H locs hl hP hD hS h
    refine lv_iload_n hx hb dX4_save_2 rfl (lv_at hl 1 rfl) ?_
    refine lv_bipush (v := (6 : Int32)) hx hb dX4_save_3 (by decide) ?_
    refine jn_e h (fun J5 e7 h => ?_)
    have w6 : ∀  (ls : Array Slot) (H : Heap) (locs : List Loc), lv_has ls 2 [(0, .ref (a 0))] → va_P D vwCl (mdW cI a u2) H → va_D A (mdW cI a u2) → va_S A H0 H locs → J5 → W p l e rm_X4_save s m args below meth c H locs 0 0 Q (F0 m 31 ls []) := by
      intro ls H locs hl hP hD hS h
      subst e7
      refine lv_aload_n hx hb dX4_save_31 rfl (lv_at hl 0 rfl) ?_
      refine lv_dup hx hb dX4_save_32 rfl ?_
      refine va_get (D := D) (ci := 4) (v := .int (M_saved u2)) (C := RX4) (T := TX4) (N := 12) hx hb hts inT4 hown hK.k hP 0 rfl rfl 2 (by decide) (hts _ q_821) (fun _ h9 => h9) rfl dX4_save_33 ?_
      refine lv_aload_n hx hb dX4_save_36 rfl (lv_at hl 0 rfl) ?_
      refine va_get (D := D) (ci := 4) (v := .int (M_saved u2)) (C := RX4) (T := TX4) (N := 12) hx hb hts inT4 hown hK.k hP 0 rfl rfl 2 (by decide) (hts _ q_821) (fun _ h9 => h9) rfl dX4_save_37 ?_
      refine lv_bipush (v := (6 : Int32)) hx hb dX4_save_40 (by decide) ?_
      refine jn_e h (fun J10 e12 h => ?_)
      have w11 : ∀ (x8 : Int32) (ls : Array Slot) (H : Heap) (locs : List Loc), bz x8 → lv_has ls 2 [(0, .ref (a 0))] → va_P D vwCl (mdW cI a u2) H → va_D A (mdW cI a u2) → va_S A H0 H locs → J10 x8 → W p l e rm_X4_save s m args below meth c H locs 0 0 Q (F0 m 50 ls [.int x8, .int (M_saved u2), .ref (a 0)]) := by
        intro x8 ls H locs b9 hl hP hD hS h
        subst e12
        refine lv_iadd hx hb dX4_save_50 ?_
        refine va_put (D := D) (ci := 4) (v := .int ((M_saved u2) + x8)) (ty := .int) (C := RX4) (T := TX4) (N := 12) hx hb hts inT4 tyX4 tyX4_ok nmX4 hown hK.k hP hD hS 0 rfl rfl 2 (by decide) (hts _ q_821) (fun _ h9 => h9) rfl (by decide +kernel) rfl rfl (Nat.le_of_ble_eq_true rfl) dX4_save_51 (fun H locs hP hD hS => ?_)
        have hP : va_P D vwCl (mdW cI a (sM_saved u2 ((M_saved u2) + x8))) H := hP
        have hD : va_D A (mdW cI a (sM_saved u2 ((M_saved u2) + x8))) := hD
        refine lv_aload_n hx hb dX4_save_54 rfl (lv_at hl 0 rfl) ?_
        refine lv_iconst (v := (0 : Int32)) hx hb dX4_save_55 (by decide) ?_
        refine lv_aload_n hx hb dX4_save_56 rfl (lv_at hl 0 rfl) ?_
        refine va_get (D := D) (ci := 4) (v := .int (M_saved (sM_saved u2 ((M_saved u2) + x8)))) (C := RX4) (T := TX4) (N := 12) hx hb hts inT4 hown hK.k hP 0 rfl rfl 2 (by decide) (hts _ q_821) (fun _ h9 => h9) rfl dX4_save_57 ?_
        refine rwVv0 (As := [.int (0 : Int32), .int (M_saved (sM_saved u2 ((M_saved u2) + x8)))]) (rest := []) F (c_X4_copies l D cI cS cJ a (sM_saved u2 ((M_saved u2) + x8)) H.size (0 : Int32) (M_saved (sM_saved u2 ((M_saved u2) + x8))) h) (cw_X4_76 hts (Nat.le_of_ble_eq_true rfl) (Nat.le_of_ble_eq_true rfl)) hK hP hD hS hA (recv (ci := 4) (k0 := 0) hK hP rfl rfl) rfl hl.1 rfl (Nat.le_of_ble_eq_true rfl) dX4_save_60 ⟨Nat.zero_le _, Nat.zero_le _⟩ (fun u14 H locs h hP hD hS => ?_)
        exact hQ h hP hD hS dX4_save_63
      clear e12
      refine lv_icmp_ge (tgt := 49) hx hb dX4_save_42 (by decide) (fun c15 => ?_) (fun c15 => ?_)
      · replace h := h.1 c15
        refine lv_iconst (v := (0 : Int32)) hx hb dX4_save_49 (by decide) ?_
        exact w11 (0 : Int32) _ _ _ bz0 hl hP hD hS h
      · replace h := h.2 c15
        refine lv_iconst (v := (1 : Int32)) hx hb dX4_save_45 (by decide) ?_
        refine lv_goto (tgt := 50) hx hb dX4_save_46 (by decide) ?_
        exact w11 (1 : Int32) _ _ _ bz1 hl hP hD hS h
    clear e7
    refine lv_icmp_ge (tgt := 31) hx hb dX4_save_5 (by decide) (fun c16 => ?_) (fun c16 => ?_)
    · replace h := h.1 c16
      exact w6 _ _ _ (lv_sub hl [0] rfl) hP hD hS h
    · replace h := h.2 c16
      refine lv_aload_n hx hb dX4_save_8 rfl (lv_at hl 0 rfl) ?_
      refine va_get (D := D) (ci := 4) (v := .int (M_saved u2)) (C := RX4) (T := TX4) (N := 12) hx hb hts inT4 hown hK.k hP 0 rfl rfl 2 (by decide) (hts _ q_821) (fun _ h9 => h9) rfl dX4_save_9 ?_
      refine lv_bipush (v := (6 : Int32)) hx hb dX4_save_12 (by decide) ?_
      refine lv_icmp_ne (tgt := 31) hx hb dX4_save_14 (by decide) (fun c17 => ?_) (fun c17 => ?_)
      · replace h := h.1 c17
        exact w6 _ _ _ (lv_sub hl [0] rfl) hP hD hS h
      · replace h := h.2 c17
        refine lv_aload_n hx hb dX4_save_17 rfl (lv_at hl 0 rfl) ?_
        refine lv_iload_n hx hb dX4_save_18 rfl (lv_at hl 1 rfl) ?_
        refine lv_iconst (v := (1 : Int32)) hx hb dX4_save_19 (by decide) ?_
        refine lv_iadd hx hb dX4_save_20 ?_
        refine lv_iload_n hx hb dX4_save_21 rfl (lv_at hl 1 rfl) ?_
        refine rwVv0 (As := [.int (x1 + (1 : Int32)), .int x1]) (rest := []) F (c_X4_copies l D cI cS cJ a u2 H.size (x1 + (1 : Int32)) x1 h) (cw_X4_76 hts (Nat.le_of_ble_eq_true rfl) (Nat.le_of_ble_eq_true rfl)) hK hP hD hS hA (recv (ci := 4) (k0 := 0) hK hP rfl rfl) rfl hl.1 rfl (Nat.le_of_ble_eq_true rfl) dX4_save_22 ⟨Nat.zero_le _, Nat.zero_le _⟩ (fun u19 H locs h hP hD hS => ?_)
        refine lv_iinc (v := (x1 + 1)) (lv' := [(1, .int (x1 + 1)), (0, .ref (a 0))]) hx hb dX4_save_25 hl (k := 1) rfl rfl (by decide) rfl (fun ls hl => ?_)
        refine lv_goto (tgt := 2) hx hb dX4_save_28 (by decide) ?_
        exact w4 (x1 + 1) u19 _ _ _ (lv_sub hl [1, 0] rfl) hP hD hS h
  · intro K3 w4 h
    exact w4 (1 : Int32) u _ _ _ (lv_sub hl [1, 0] rfl) hP hD hS h

def wp_X4_changed (u : Md) (p1 : Int32) (p2 : Int32) (post : Int32 → Md → Prop) : Prop :=
  wp_X4_save u (fun u2 => (vp_in p1 854) ∧ ((vp_in p1 854) ∧ (post ((M_s u2) (Int32.toNatClampNeg p1)) (wM_s u2 (Int32.toNatClampNeg p1) p2))))
set_option maxHeartbeats 4000000 in
set_option maxRecDepth 100000 in
theorem c_X4_changed (l : Launch) (D : va_G) (cI cS cJ : ClassId) (a : Nat → Nat) (u : Md) (sz : Nat) (p1 : Int32) (p2 : Int32) {post : Int32 → Md → Prop} (h : wp_X4_changed u p1 p2 post) : Met l yX4_changed (wsA yX4_changed cX4_changed 4 (some .int)) rm_X4_changed (va_Pc [.ref (a 0), .int p1, .int p2] (rwP D (tysA cI cS cJ) (mdW cI a u) sz)) (va_Qi post (fun u9 t => va_P D vwCl ((mdW cI a) u9) t.heap ∧ va_D (va_A (mdW cI a u) sz) ((mdW cI a) u9)) (va_A (mdW cI a u) sz)) 0 0 (va_A (mdW cI a u) sz) := by
  refine mkRWi (wf := (mdW cI a)) (by decide +kernel) (Nat.le_of_ble_eq_true rfl) (fun {p e s m args below meth c Q ls A H0 H locs} hx hb F hts hown hK hP hD hS hA hl hQ => ?_)
  have hown : s.vm.findClass RX4 = some m.cls := hown
  have F : CallFix p m c cX4_changed 4 s args wsT RX4 := F
  have hl : lv_has ls 4 [(0, .ref (a 0)), (1, .int p1), (2, .int p2)] := hl
  unfold wp_X4_changed at h
  refine lv_aload_n hx hb dX4_changed_0 rfl (lv_at hl 0 rfl) ?_
  refine rwVv0 (As := []) (rest := []) F (c_X4_save l D cI cS cJ a u H.size  h) (cw_X4_80 hts (Nat.le_of_ble_eq_true rfl) (Nat.le_of_ble_eq_true rfl)) hK hP hD hS hA (recv (ci := 4) (k0 := 0) hK hP rfl rfl) rfl hl.1 rfl (Nat.le_of_ble_eq_true rfl) dX4_changed_1 ⟨Nat.zero_le _, Nat.zero_le _⟩ (fun u2 H locs h hP hD hS => ?_)
  refine lv_aload_n hx hb dX4_changed_4 rfl (lv_at hl 0 rfl) ?_
  refine va_get (D := D) (ci := 4) (v := .ref (a 1)) (C := RX4) (T := TX4) (N := 12) hx hb hts inT4 hown hK.k hP 0 rfl rfl 1 (by decide) (hts _ q_820) (fun _ h9 => h9) rfl dX4_changed_5 ?_
  refine lv_iload_n hx hb dX4_changed_8 rfl (lv_at hl 1 rfl) ?_
  refine va_iald hx hb hK.k hP 1 0 rfl rfl h.1 dX4_changed_9 ?_
  replace h := h.2
  refine lv_istore_n (lv' := [(3, .int ((M_s u2) (Int32.toNatClampNeg p1))), (0, .ref (a 0)), (1, .int p1), (2, .int p2)]) hx hb dX4_changed_10 rfl hl (by decide) rfl (fun ls hl => ?_)
  refine lv_aload_n hx hb dX4_changed_11 rfl (lv_at hl 1 rfl) ?_
  refine va_get (D := D) (ci := 4) (v := .ref (a 1)) (C := RX4) (T := TX4) (N := 12) hx hb hts inT4 hown hK.k hP 0 rfl rfl 1 (by decide) (hts _ q_820) (fun _ h9 => h9) rfl dX4_changed_12 ?_
  refine lv_iload_n hx hb dX4_changed_15 rfl (lv_at hl 2 rfl) ?_
  refine lv_iload_n hx hb dX4_changed_16 rfl (lv_at hl 3 rfl) ?_
  refine va_iast hx hb hK.k hP hD hS 1 0 rfl rfl h.1 dX4_changed_17 (fun H locs hP hD hS => ?_)
  replace h := h.2
  have hP : va_P D vwCl (mdW cI a (wM_s u2 (Int32.toNatClampNeg p1) p2)) H := hP
  have hD : va_D A (mdW cI a (wM_s u2 (Int32.toNatClampNeg p1) p2)) := hD
  refine lv_iload_n hx hb dX4_changed_18 rfl (lv_at hl 0 rfl) ?_
  exact hQ h hP hD hS dX4_changed_19

def wp_X4_setOpen (u : Md) (p1 : Int32) (p2 : Int32) (post : Int32 → Md → Prop) : Prop :=
  wp_X4_isInn p1 (fun r1 => jn (fun (x3 : Int32) => wp_X4_holds u x3 (fun r8 u10 => (r8 = 0 → post (0 : Int32) u10) ∧ (¬ r8 = 0 → jn (fun (x12 : Int32) => wp_X4_changed u10 ((8 : Int32) + p1) x12 (fun r17 u18 => (¬ r17 = (1 : Int32) → post (0 : Int32) u18) ∧ (r17 = (1 : Int32) → post (1 : Int32) u18))) (fun (J14 : Int32 → Prop) => (p2 = 0 → J14 (0 : Int32)) ∧ (¬ p2 = 0 → J14 (1 : Int32)))))) (fun (J5 : Int32 → Prop) => (r1 = 0 → J5 (1 : Int32)) ∧ (¬ r1 = 0 → J5 (0 : Int32))))
set_option maxHeartbeats 4000000 in
set_option maxRecDepth 100000 in
theorem c_X4_setOpen (l : Launch) (D : va_G) (cI cS cJ : ClassId) (a : Nat → Nat) (u : Md) (sz : Nat) (p1 : Int32) (p2 : Int32) {post : Int32 → Md → Prop} (h : wp_X4_setOpen u p1 p2 post) : Met l yX4_setOpen (wsA yX4_setOpen cX4_setOpen 3 (some .boolean)) rm_X4_setOpen (va_Pc [.ref (a 0), .int p1, .int p2] (rwP D (tysA cI cS cJ) (mdW cI a u) sz)) (va_Qi (fun r u9 => bz r ∧ post r u9) (fun u9 t => va_P D vwCl ((mdW cI a) u9) t.heap ∧ va_D (va_A (mdW cI a u) sz) ((mdW cI a) u9)) (va_A (mdW cI a u) sz)) 0 0 (va_A (mdW cI a u) sz) := by
  refine mkRWz (wf := (mdW cI a)) (by decide +kernel) (Nat.le_of_ble_eq_true rfl) (fun {p e s m args below meth c Q ls A H0 H locs} hx hb F hts hown hK hP hD hS hA hl hQ => ?_)
  have hown : s.vm.findClass RX4 = some m.cls := hown
  have F : CallFix p m c cX4_setOpen 3 s args wsT RX4 := F
  have hl : lv_has ls 3 [(0, .ref (a 0)), (1, .int p1), (2, .int p2)] := hl
  unfold wp_X4_setOpen at h
  refine lv_aload_n hx hb dX4_setOpen_0 rfl (lv_at hl 0 rfl) ?_
  refine lv_iload_n hx hb dX4_setOpen_1 rfl (lv_at hl 1 rfl) ?_
  refine roSi (As := [.int p1]) (rest := [.ref (a 0)]) F (c_X4_isInn l D cI cS cJ H p1 h) (cw_X4_83 hts (Nat.le_of_ble_eq_true rfl) (Nat.le_of_ble_eq_true rfl)) hK vP_nil rfl hl.1 rfl (Nat.le_of_ble_eq_true rfl) dX4_setOpen_2 ⟨Nat.zero_le _, Nat.zero_le _⟩ (fun r1 h => ?_)
  obtain ⟨b2, h⟩ := h
  refine jn_e h (fun J5 e7 h => ?_)
  have w6 : ∀ (x3 : Int32) (ls : Array Slot) (H : Heap) (locs : List Loc), bz x3 → lv_has ls 3 [(0, .ref (a 0)), (1, .int p1), (2, .int p2)] → va_P D vwCl (mdW cI a u) H → va_D A (mdW cI a u) → va_S A H0 H locs → J5 x3 → W p l e rm_X4_setOpen s m args below meth c H locs 0 0 Q (F0 m 13 ls [.int x3, .ref (a 0)]) := by
    intro x3 ls H locs b4 hl hP hD hS h
    subst e7
    refine rwVi0 (As := [.int x3]) (rest := []) F (c_X4_holds l D cI cS cJ a u H.size x3 h) (cw_X4_86 hts (Nat.le_of_ble_eq_true rfl) (Nat.le_of_ble_eq_true rfl)) hK hP hD hS hA (recv (ci := 4) (k0 := 0) hK hP rfl rfl) rfl hl.1 rfl (Nat.le_of_ble_eq_true rfl) dX4_setOpen_13 ⟨Nat.zero_le _, Nat.zero_le _⟩ (fun r8 u10 H locs h hP hD hS => ?_)
    obtain ⟨b9, h⟩ := h
    refine lv_if_eq (tgt := 44) hx hb dX4_setOpen_16 (by decide) (fun c11 => ?_) (fun c11 => ?_)
    · replace h := h.1 c11
      refine lv_iconst (v := (0 : Int32)) hx hb dX4_setOpen_44 (by decide) ?_
      exact hQ bz0 h hP hD hS dX4_setOpen_45
    · replace h := h.2 c11
      refine lv_aload_n hx hb dX4_setOpen_19 rfl (lv_at hl 0 rfl) ?_
      refine lv_bipush (v := (8 : Int32)) hx hb dX4_setOpen_20 (by decide) ?_
      refine lv_iload_n hx hb dX4_setOpen_22 rfl (lv_at hl 1 rfl) ?_
      refine lv_iadd hx hb dX4_setOpen_23 ?_
      refine lv_iload_n hx hb dX4_setOpen_24 rfl (lv_at hl 2 rfl) ?_
      refine jn_e h (fun J14 e16 h => ?_)
      have w15 : ∀ (x12 : Int32) (ls : Array Slot) (H : Heap) (locs : List Loc), bz x12 → lv_has ls 3 [] → va_P D vwCl (mdW cI a u10) H → va_D A (mdW cI a u10) → va_S A H0 H locs → J14 x12 → W p l e rm_X4_setOpen s m args below meth c H locs 0 0 Q (F0 m 33 ls [.int x12, .int ((8 : Int32) + p1), .ref (a 0)]) := by
        intro x12 ls H locs b13 hl hP hD hS h
        subst e16
        refine rwVi0 (As := [.int ((8 : Int32) + p1), .int x12]) (rest := []) F (c_X4_changed l D cI cS cJ a u10 H.size ((8 : Int32) + p1) x12 h) (cw_X4_89 hts (Nat.le_of_ble_eq_true rfl) (Nat.le_of_ble_eq_true rfl)) hK hP hD hS hA (recv (ci := 4) (k0 := 0) hK hP rfl rfl) rfl hl.1 rfl (Nat.le_of_ble_eq_true rfl) dX4_setOpen_33 ⟨Nat.zero_le _, Nat.zero_le _⟩ (fun r17 u18 H locs h hP hD hS => ?_)
        refine lv_iconst (v := (1 : Int32)) hx hb dX4_setOpen_36 (by decide) ?_
        refine lv_icmp_ne (tgt := 44) hx hb dX4_setOpen_37 (by decide) (fun c19 => ?_) (fun c19 => ?_)
        · replace h := h.1 c19
          refine lv_iconst (v := (0 : Int32)) hx hb dX4_setOpen_44 (by decide) ?_
          exact hQ bz0 h hP hD hS dX4_setOpen_45
        · replace h := h.2 c19
          refine lv_iconst (v := (1 : Int32)) hx hb dX4_setOpen_40 (by decide) ?_
          refine lv_goto (tgt := 45) hx hb dX4_setOpen_41 (by decide) ?_
          exact hQ bz1 h hP hD hS dX4_setOpen_45
      clear e16
      refine lv_if_eq (tgt := 32) hx hb dX4_setOpen_25 (by decide) (fun c20 => ?_) (fun c20 => ?_)
      · replace h := h.1 c20
        refine lv_iconst (v := (0 : Int32)) hx hb dX4_setOpen_32 (by decide) ?_
        exact w15 (0 : Int32) _ _ _ bz0 (lv_sub hl [] rfl) hP hD hS h
      · replace h := h.2 c20
        refine lv_iconst (v := (1 : Int32)) hx hb dX4_setOpen_28 (by decide) ?_
        refine lv_goto (tgt := 33) hx hb dX4_setOpen_29 (by decide) ?_
        exact w15 (1 : Int32) _ _ _ bz1 (lv_sub hl [] rfl) hP hD hS h
  clear e7
  refine lv_if_eq (tgt := 12) hx hb dX4_setOpen_5 (by decide) (fun c21 => ?_) (fun c21 => ?_)
  · replace h := h.1 c21
    refine lv_iconst (v := (1 : Int32)) hx hb dX4_setOpen_12 (by decide) ?_
    exact w6 (1 : Int32) _ _ _ bz1 hl hP hD hS h
  · replace h := h.2 c21
    refine lv_iconst (v := (0 : Int32)) hx hb dX4_setOpen_8 (by decide) ?_
    refine lv_goto (tgt := 13) hx hb dX4_setOpen_9 (by decide) ?_
    exact w6 (0 : Int32) _ _ _ bz0 hl hP hD hS h

def wp_X4_setKey (u : Md) (p1 : Int32) (p2 : Int32) (post : Int32 → Md → Prop) : Prop :=
  wp_X4_isInn p1 (fun r1 => jn (fun (x3 : Int32) => wp_X4_holds u x3 (fun r7 u9 => (r7 = 0 → post (0 : Int32) u9) ∧ (¬ r7 = 0 → wp_X4_changed u9 ((16 : Int32) + p1) p2 (fun r11 u12 => post r11 u12)))) (fun (J4 : Int32 → Prop) => (¬ r1 = 0 → wp_X4_isBody p2 (fun r14 => (¬ r14 = 0 → J4 (0 : Int32)) ∧ (r14 = 0 → J4 (2 : Int32)))) ∧ (r1 = 0 → J4 (1 : Int32))))
set_option maxHeartbeats 4000000 in
set_option maxRecDepth 100000 in
theorem c_X4_setKey (l : Launch) (D : va_G) (cI cS cJ : ClassId) (a : Nat → Nat) (u : Md) (sz : Nat) (p1 : Int32) (p2 : Int32) {post : Int32 → Md → Prop} (h : wp_X4_setKey u p1 p2 post) : Met l yX4_setKey (wsA yX4_setKey cX4_setKey 3 (some .int)) rm_X4_setKey (va_Pc [.ref (a 0), .int p1, .int p2] (rwP D (tysA cI cS cJ) (mdW cI a u) sz)) (va_Qi post (fun u9 t => va_P D vwCl ((mdW cI a) u9) t.heap ∧ va_D (va_A (mdW cI a u) sz) ((mdW cI a) u9)) (va_A (mdW cI a u) sz)) 0 0 (va_A (mdW cI a u) sz) := by
  refine mkRWi (wf := (mdW cI a)) (by decide +kernel) (Nat.le_of_ble_eq_true rfl) (fun {p e s m args below meth c Q ls A H0 H locs} hx hb F hts hown hK hP hD hS hA hl hQ => ?_)
  have hown : s.vm.findClass RX4 = some m.cls := hown
  have F : CallFix p m c cX4_setKey 3 s args wsT RX4 := F
  have hl : lv_has ls 3 [(0, .ref (a 0)), (1, .int p1), (2, .int p2)] := hl
  unfold wp_X4_setKey at h
  refine lv_aload_n hx hb dX4_setKey_0 rfl (lv_at hl 0 rfl) ?_
  refine lv_iload_n hx hb dX4_setKey_1 rfl (lv_at hl 1 rfl) ?_
  refine roSi (As := [.int p1]) (rest := [.ref (a 0)]) F (c_X4_isInn l D cI cS cJ H p1 h) (cw_X4_83 hts (Nat.le_of_ble_eq_true rfl) (Nat.le_of_ble_eq_true rfl)) hK vP_nil rfl hl.1 rfl (Nat.le_of_ble_eq_true rfl) dX4_setKey_2 ⟨Nat.zero_le _, Nat.zero_le _⟩ (fun r1 h => ?_)
  obtain ⟨b2, h⟩ := h
  refine jn_e h (fun J4 e6 h => ?_)
  have w5 : ∀ (x3 : Int32) (ls : Array Slot) (H : Heap) (locs : List Loc), lv_has ls 3 [(0, .ref (a 0)), (1, .int p1), (2, .int p2)] → va_P D vwCl (mdW cI a u) H → va_D A (mdW cI a u) → va_S A H0 H locs → J4 x3 → W p l e rm_X4_setKey s m args below meth c H locs 0 0 Q (F0 m 24 ls [.int x3, .ref (a 0)]) := by
    intro x3 ls H locs hl hP hD hS h
    subst e6
    refine rwVi0 (As := [.int x3]) (rest := []) F (c_X4_holds l D cI cS cJ a u H.size x3 h) (cw_X4_86 hts (Nat.le_of_ble_eq_true rfl) (Nat.le_of_ble_eq_true rfl)) hK hP hD hS hA (recv (ci := 4) (k0 := 0) hK hP rfl rfl) rfl hl.1 rfl (Nat.le_of_ble_eq_true rfl) dX4_setKey_24 ⟨Nat.zero_le _, Nat.zero_le _⟩ (fun r7 u9 H locs h hP hD hS => ?_)
    obtain ⟨b8, h⟩ := h
    refine lv_if_eq (tgt := 42) hx hb dX4_setKey_27 (by decide) (fun c10 => ?_) (fun c10 => ?_)
    · replace h := h.1 c10
      refine lv_iconst (v := (0 : Int32)) hx hb dX4_setKey_42 (by decide) ?_
      exact hQ h hP hD hS dX4_setKey_43
    · replace h := h.2 c10
      refine lv_aload_n hx hb dX4_setKey_30 rfl (lv_at hl 0 rfl) ?_
      refine lv_bipush (v := (16 : Int32)) hx hb dX4_setKey_31 (by decide) ?_
      refine lv_iload_n hx hb dX4_setKey_33 rfl (lv_at hl 1 rfl) ?_
      refine lv_iadd hx hb dX4_setKey_34 ?_
      refine lv_iload_n hx hb dX4_setKey_35 rfl (lv_at hl 2 rfl) ?_
      refine rwVi0 (As := [.int ((16 : Int32) + p1), .int p2]) (rest := []) F (c_X4_changed l D cI cS cJ a u9 H.size ((16 : Int32) + p1) p2 h) (cw_X4_89 hts (Nat.le_of_ble_eq_true rfl) (Nat.le_of_ble_eq_true rfl)) hK hP hD hS hA (recv (ci := 4) (k0 := 0) hK hP rfl rfl) rfl hl.1 rfl (Nat.le_of_ble_eq_true rfl) dX4_setKey_36 ⟨Nat.zero_le _, Nat.zero_le _⟩ (fun r11 u12 H locs h hP hD hS => ?_)
      refine lv_goto (tgt := 43) hx hb dX4_setKey_39 (by decide) ?_
      exact hQ h hP hD hS dX4_setKey_43
  clear e6
  refine lv_if_ne (tgt := 12) hx hb dX4_setKey_5 (by decide) (fun c13 => ?_) (fun c13 => ?_)
  · replace h := h.1 c13
    refine lv_iload_n hx hb dX4_setKey_12 rfl (lv_at hl 2 rfl) ?_
    refine roSi (As := [.int p2]) (rest := [.ref (a 0)]) F (c_X4_isBody l D cI cS cJ H p2 h) (cw_X4_92 hts (Nat.le_of_ble_eq_true rfl) (Nat.le_of_ble_eq_true rfl)) hK vP_nil rfl hl.1 rfl (Nat.le_of_ble_eq_true rfl) dX4_setKey_13 ⟨Nat.zero_le _, Nat.zero_le _⟩ (fun r14 h => ?_)
    obtain ⟨b15, h⟩ := h
    refine lv_if_ne (tgt := 23) hx hb dX4_setKey_16 (by decide) (fun c16 => ?_) (fun c16 => ?_)
    · replace h := h.1 c16
      refine lv_iconst (v := (0 : Int32)) hx hb dX4_setKey_23 (by decide) ?_
      exact w5 (0 : Int32) _ _ _ hl hP hD hS h
    · replace h := h.2 c16
      refine lv_iconst (v := (2 : Int32)) hx hb dX4_setKey_19 (by decide) ?_
      refine lv_goto (tgt := 24) hx hb dX4_setKey_20 (by decide) ?_
      exact w5 (2 : Int32) _ _ _ hl hP hD hS h
  · replace h := h.2 c13
    refine lv_iconst (v := (1 : Int32)) hx hb dX4_setKey_8 (by decide) ?_
    refine lv_goto (tgt := 24) hx hb dX4_setKey_9 (by decide) ?_
    exact w5 (1 : Int32) _ _ _ hl hP hD hS h

def wp_X4_isOpen (u : Md) (p1 : Int32) (post : Int32 → Md → Prop) : Prop :=
  wp_X4_isInn p1 (fun r1 => jn (fun (x3 : Int32) => wp_X4_holds u x3 (fun r8 u10 => (r8 = 0 → post (0 : Int32) u10) ∧ (¬ r8 = 0 → wp_X4_isOpenNow u10 p1 (fun r12 => (r12 = 0 → post (0 : Int32) u10) ∧ (¬ r12 = 0 → post (1 : Int32) u10))))) (fun (J5 : Int32 → Prop) => (r1 = 0 → J5 (1 : Int32)) ∧ (¬ r1 = 0 → J5 (0 : Int32))))
set_option maxHeartbeats 4000000 in
set_option maxRecDepth 100000 in
theorem c_X4_isOpen (l : Launch) (D : va_G) (cI cS cJ : ClassId) (a : Nat → Nat) (u : Md) (sz : Nat) (p1 : Int32) {post : Int32 → Md → Prop} (h : wp_X4_isOpen u p1 post) : Met l yX4_isOpen (wsA yX4_isOpen cX4_isOpen 2 (some .boolean)) rm_X4_isOpen (va_Pc [.ref (a 0), .int p1] (rwP D (tysA cI cS cJ) (mdW cI a u) sz)) (va_Qi (fun r u9 => bz r ∧ post r u9) (fun u9 t => va_P D vwCl ((mdW cI a) u9) t.heap ∧ va_D (va_A (mdW cI a u) sz) ((mdW cI a) u9)) (va_A (mdW cI a u) sz)) 0 0 (va_A (mdW cI a u) sz) := by
  refine mkRWz (wf := (mdW cI a)) (by decide +kernel) (Nat.le_of_ble_eq_true rfl) (fun {p e s m args below meth c Q ls A H0 H locs} hx hb F hts hown hK hP hD hS hA hl hQ => ?_)
  have hown : s.vm.findClass RX4 = some m.cls := hown
  have F : CallFix p m c cX4_isOpen 2 s args wsT RX4 := F
  have hl : lv_has ls 2 [(0, .ref (a 0)), (1, .int p1)] := hl
  unfold wp_X4_isOpen at h
  refine lv_aload_n hx hb dX4_isOpen_0 rfl (lv_at hl 0 rfl) ?_
  refine lv_iload_n hx hb dX4_isOpen_1 rfl (lv_at hl 1 rfl) ?_
  refine roSi (As := [.int p1]) (rest := [.ref (a 0)]) F (c_X4_isInn l D cI cS cJ H p1 h) (cw_X4_83 hts (Nat.le_of_ble_eq_true rfl) (Nat.le_of_ble_eq_true rfl)) hK vP_nil rfl hl.1 rfl (Nat.le_of_ble_eq_true rfl) dX4_isOpen_2 ⟨Nat.zero_le _, Nat.zero_le _⟩ (fun r1 h => ?_)
  obtain ⟨b2, h⟩ := h
  refine jn_e h (fun J5 e7 h => ?_)
  have w6 : ∀ (x3 : Int32) (ls : Array Slot) (H : Heap) (locs : List Loc), bz x3 → lv_has ls 2 [(0, .ref (a 0)), (1, .int p1)] → va_P D vwCl (mdW cI a u) H → va_D A (mdW cI a u) → va_S A H0 H locs → J5 x3 → W p l e rm_X4_isOpen s m args below meth c H locs 0 0 Q (F0 m 13 ls [.int x3, .ref (a 0)]) := by
    intro x3 ls H locs b4 hl hP hD hS h
    subst e7
    refine rwVi0 (As := [.int x3]) (rest := []) F (c_X4_holds l D cI cS cJ a u H.size x3 h) (cw_X4_86 hts (Nat.le_of_ble_eq_true rfl) (Nat.le_of_ble_eq_true rfl)) hK hP hD hS hA (recv (ci := 4) (k0 := 0) hK hP rfl rfl) rfl hl.1 rfl (Nat.le_of_ble_eq_true rfl) dX4_isOpen_13 ⟨Nat.zero_le _, Nat.zero_le _⟩ (fun r8 u10 H locs h hP hD hS => ?_)
    obtain ⟨b9, h⟩ := h
    refine lv_if_eq (tgt := 31) hx hb dX4_isOpen_16 (by decide) (fun c11 => ?_) (fun c11 => ?_)
    · replace h := h.1 c11
      refine lv_iconst (v := (0 : Int32)) hx hb dX4_isOpen_31 (by decide) ?_
      exact hQ bz0 h hP hD hS dX4_isOpen_32
    · replace h := h.2 c11
      refine lv_aload_n hx hb dX4_isOpen_19 rfl (lv_at hl 0 rfl) ?_
      refine lv_iload_n hx hb dX4_isOpen_20 rfl (lv_at hl 1 rfl) ?_
      refine roVi (As := [.int p1]) (rest := []) F (c_X4_isOpenNow l D cI cS cJ a u10 H p1 h) (cw_X4_28 hts (Nat.le_of_ble_eq_true rfl) (Nat.le_of_ble_eq_true rfl)) hK hP (recv (ci := 4) (k0 := 0) hK hP rfl rfl) rfl hl.1 rfl (Nat.le_of_ble_eq_true rfl) dX4_isOpen_21 ⟨Nat.zero_le _, Nat.zero_le _⟩ (fun r12 h => ?_)
      obtain ⟨b13, h⟩ := h
      refine lv_if_eq (tgt := 31) hx hb dX4_isOpen_24 (by decide) (fun c14 => ?_) (fun c14 => ?_)
      · replace h := h.1 c14
        refine lv_iconst (v := (0 : Int32)) hx hb dX4_isOpen_31 (by decide) ?_
        exact hQ bz0 h hP hD hS dX4_isOpen_32
      · replace h := h.2 c14
        refine lv_iconst (v := (1 : Int32)) hx hb dX4_isOpen_27 (by decide) ?_
        refine lv_goto (tgt := 32) hx hb dX4_isOpen_28 (by decide) ?_
        exact hQ bz1 h hP hD hS dX4_isOpen_32
  clear e7
  refine lv_if_eq (tgt := 12) hx hb dX4_isOpen_5 (by decide) (fun c15 => ?_) (fun c15 => ?_)
  · replace h := h.1 c15
    refine lv_iconst (v := (1 : Int32)) hx hb dX4_isOpen_12 (by decide) ?_
    exact w6 (1 : Int32) _ _ _ bz1 hl hP hD hS h
  · replace h := h.2 c15
    refine lv_iconst (v := (0 : Int32)) hx hb dX4_isOpen_8 (by decide) ?_
    refine lv_goto (tgt := 13) hx hb dX4_isOpen_9 (by decide) ?_
    exact w6 (0 : Int32) _ _ _ bz0 hl hP hD hS h

def wp_X4_key (u : Md) (p1 : Int32) (post : Int32 → Md → Prop) : Prop :=
  wp_X4_isInn p1 (fun r1 => jn (fun (x3 : Int32) => wp_X4_holds u x3 (fun r8 u10 => (r8 = 0 → post (0 : Int32) u10) ∧ (¬ r8 = 0 → (vp_in ((16 : Int32) + p1) 854) ∧ (post ((M_s u10) (Int32.toNatClampNeg ((16 : Int32) + p1))) u10)))) (fun (J5 : Int32 → Prop) => (r1 = 0 → J5 (1 : Int32)) ∧ (¬ r1 = 0 → J5 (0 : Int32))))
set_option maxHeartbeats 4000000 in
set_option maxRecDepth 100000 in
theorem c_X4_key (l : Launch) (D : va_G) (cI cS cJ : ClassId) (a : Nat → Nat) (u : Md) (sz : Nat) (p1 : Int32) {post : Int32 → Md → Prop} (h : wp_X4_key u p1 post) : Met l yX4_key (wsA yX4_key cX4_key 2 (some .int)) rm_X4_key (va_Pc [.ref (a 0), .int p1] (rwP D (tysA cI cS cJ) (mdW cI a u) sz)) (va_Qi post (fun u9 t => va_P D vwCl ((mdW cI a) u9) t.heap ∧ va_D (va_A (mdW cI a u) sz) ((mdW cI a) u9)) (va_A (mdW cI a u) sz)) 0 0 (va_A (mdW cI a u) sz) := by
  refine mkRWi (wf := (mdW cI a)) (by decide +kernel) (Nat.le_of_ble_eq_true rfl) (fun {p e s m args below meth c Q ls A H0 H locs} hx hb F hts hown hK hP hD hS hA hl hQ => ?_)
  have hown : s.vm.findClass RX4 = some m.cls := hown
  have F : CallFix p m c cX4_key 2 s args wsT RX4 := F
  have hl : lv_has ls 2 [(0, .ref (a 0)), (1, .int p1)] := hl
  unfold wp_X4_key at h
  refine lv_aload_n hx hb dX4_key_0 rfl (lv_at hl 0 rfl) ?_
  refine lv_iload_n hx hb dX4_key_1 rfl (lv_at hl 1 rfl) ?_
  refine roSi (As := [.int p1]) (rest := [.ref (a 0)]) F (c_X4_isInn l D cI cS cJ H p1 h) (cw_X4_83 hts (Nat.le_of_ble_eq_true rfl) (Nat.le_of_ble_eq_true rfl)) hK vP_nil rfl hl.1 rfl (Nat.le_of_ble_eq_true rfl) dX4_key_2 ⟨Nat.zero_le _, Nat.zero_le _⟩ (fun r1 h => ?_)
  obtain ⟨b2, h⟩ := h
  refine jn_e h (fun J5 e7 h => ?_)
  have w6 : ∀ (x3 : Int32) (ls : Array Slot) (H : Heap) (locs : List Loc), bz x3 → lv_has ls 2 [(0, .ref (a 0)), (1, .int p1)] → va_P D vwCl (mdW cI a u) H → va_D A (mdW cI a u) → va_S A H0 H locs → J5 x3 → W p l e rm_X4_key s m args below meth c H locs 0 0 Q (F0 m 13 ls [.int x3, .ref (a 0)]) := by
    intro x3 ls H locs b4 hl hP hD hS h
    subst e7
    refine rwVi0 (As := [.int x3]) (rest := []) F (c_X4_holds l D cI cS cJ a u H.size x3 h) (cw_X4_86 hts (Nat.le_of_ble_eq_true rfl) (Nat.le_of_ble_eq_true rfl)) hK hP hD hS hA (recv (ci := 4) (k0 := 0) hK hP rfl rfl) rfl hl.1 rfl (Nat.le_of_ble_eq_true rfl) dX4_key_13 ⟨Nat.zero_le _, Nat.zero_le _⟩ (fun r8 u10 H locs h hP hD hS => ?_)
    obtain ⟨b9, h⟩ := h
    refine lv_if_eq (tgt := 31) hx hb dX4_key_16 (by decide) (fun c11 => ?_) (fun c11 => ?_)
    · replace h := h.1 c11
      refine lv_iconst (v := (0 : Int32)) hx hb dX4_key_31 (by decide) ?_
      exact hQ h hP hD hS dX4_key_32
    · replace h := h.2 c11
      refine lv_aload_n hx hb dX4_key_19 rfl (lv_at hl 0 rfl) ?_
      refine va_get (D := D) (ci := 4) (v := .ref (a 1)) (C := RX4) (T := TX4) (N := 12) hx hb hts inT4 hown hK.k hP 0 rfl rfl 1 (by decide) (hts _ q_820) (fun _ h9 => h9) rfl dX4_key_20 ?_
      refine lv_bipush (v := (16 : Int32)) hx hb dX4_key_23 (by decide) ?_
      refine lv_iload_n hx hb dX4_key_25 rfl (lv_at hl 1 rfl) ?_
      refine lv_iadd hx hb dX4_key_26 ?_
      refine va_iald hx hb hK.k hP 1 0 rfl rfl h.1 dX4_key_27 ?_
      replace h := h.2
      refine lv_goto (tgt := 32) hx hb dX4_key_28 (by decide) ?_
      exact hQ h hP hD hS dX4_key_32
  clear e7
  refine lv_if_eq (tgt := 12) hx hb dX4_key_5 (by decide) (fun c12 => ?_) (fun c12 => ?_)
  · replace h := h.1 c12
    refine lv_iconst (v := (1 : Int32)) hx hb dX4_key_12 (by decide) ?_
    exact w6 (1 : Int32) _ _ _ bz1 hl hP hD hS h
  · replace h := h.2 c12
    refine lv_iconst (v := (0 : Int32)) hx hb dX4_key_8 (by decide) ?_
    refine lv_goto (tgt := 13) hx hb dX4_key_9 (by decide) ?_
    exact w6 (0 : Int32) _ _ _ bz0 hl hP hD hS h

def wp_X4_cover (u : Md) (p1 : Int32) (p2 : Int32) (post : Int32 → Md → Prop) : Prop :=
  wp_X4_isInn p1 (fun r1 => jn (fun (x3 : Int32) => wp_X4_holds u x3 (fun r7 u9 => (r7 = 0 → post (0 : Int32) u9) ∧ (¬ r7 = 0 → (vp_in ((16 : Int32) + p1) 854) ∧ (wp_X4_covered p2 ((M_s u9) (Int32.toNatClampNeg ((16 : Int32) + p1))) (fun r11 => post r11 u9))))) (fun (J4 : Int32 → Prop) => (¬ r1 = 0 → wp_X4_isBody p2 (fun r13 => (¬ r13 = 0 → J4 (0 : Int32)) ∧ (r13 = 0 → J4 (2 : Int32)))) ∧ (r1 = 0 → J4 (1 : Int32))))
set_option maxHeartbeats 4000000 in
set_option maxRecDepth 100000 in
theorem c_X4_cover (l : Launch) (D : va_G) (cI cS cJ : ClassId) (a : Nat → Nat) (u : Md) (sz : Nat) (p1 : Int32) (p2 : Int32) {post : Int32 → Md → Prop} (h : wp_X4_cover u p1 p2 post) : Met l yX4_cover (wsA yX4_cover cX4_cover 3 (some .int)) rm_X4_cover (va_Pc [.ref (a 0), .int p1, .int p2] (rwP D (tysA cI cS cJ) (mdW cI a u) sz)) (va_Qi post (fun u9 t => va_P D vwCl ((mdW cI a) u9) t.heap ∧ va_D (va_A (mdW cI a u) sz) ((mdW cI a) u9)) (va_A (mdW cI a u) sz)) 0 0 (va_A (mdW cI a u) sz) := by
  refine mkRWi (wf := (mdW cI a)) (by decide +kernel) (Nat.le_of_ble_eq_true rfl) (fun {p e s m args below meth c Q ls A H0 H locs} hx hb F hts hown hK hP hD hS hA hl hQ => ?_)
  have hown : s.vm.findClass RX4 = some m.cls := hown
  have F : CallFix p m c cX4_cover 3 s args wsT RX4 := F
  have hl : lv_has ls 3 [(0, .ref (a 0)), (1, .int p1), (2, .int p2)] := hl
  unfold wp_X4_cover at h
  refine lv_aload_n hx hb dX4_cover_0 rfl (lv_at hl 0 rfl) ?_
  refine lv_iload_n hx hb dX4_cover_1 rfl (lv_at hl 1 rfl) ?_
  refine roSi (As := [.int p1]) (rest := [.ref (a 0)]) F (c_X4_isInn l D cI cS cJ H p1 h) (cw_X4_83 hts (Nat.le_of_ble_eq_true rfl) (Nat.le_of_ble_eq_true rfl)) hK vP_nil rfl hl.1 rfl (Nat.le_of_ble_eq_true rfl) dX4_cover_2 ⟨Nat.zero_le _, Nat.zero_le _⟩ (fun r1 h => ?_)
  obtain ⟨b2, h⟩ := h
  refine jn_e h (fun J4 e6 h => ?_)
  have w5 : ∀ (x3 : Int32) (ls : Array Slot) (H : Heap) (locs : List Loc), lv_has ls 3 [(0, .ref (a 0)), (1, .int p1), (2, .int p2)] → va_P D vwCl (mdW cI a u) H → va_D A (mdW cI a u) → va_S A H0 H locs → J4 x3 → W p l e rm_X4_cover s m args below meth c H locs 0 0 Q (F0 m 24 ls [.int x3, .ref (a 0)]) := by
    intro x3 ls H locs hl hP hD hS h
    subst e6
    refine rwVi0 (As := [.int x3]) (rest := []) F (c_X4_holds l D cI cS cJ a u H.size x3 h) (cw_X4_86 hts (Nat.le_of_ble_eq_true rfl) (Nat.le_of_ble_eq_true rfl)) hK hP hD hS hA (recv (ci := 4) (k0 := 0) hK hP rfl rfl) rfl hl.1 rfl (Nat.le_of_ble_eq_true rfl) dX4_cover_24 ⟨Nat.zero_le _, Nat.zero_le _⟩ (fun r7 u9 H locs h hP hD hS => ?_)
    obtain ⟨b8, h⟩ := h
    refine lv_if_eq (tgt := 46) hx hb dX4_cover_27 (by decide) (fun c10 => ?_) (fun c10 => ?_)
    · replace h := h.1 c10
      refine lv_iconst (v := (0 : Int32)) hx hb dX4_cover_46 (by decide) ?_
      exact hQ h hP hD hS dX4_cover_47
    · replace h := h.2 c10
      refine lv_iload_n hx hb dX4_cover_30 rfl (lv_at hl 2 rfl) ?_
      refine lv_aload_n hx hb dX4_cover_31 rfl (lv_at hl 0 rfl) ?_
      refine va_get (D := D) (ci := 4) (v := .ref (a 1)) (C := RX4) (T := TX4) (N := 12) hx hb hts inT4 hown hK.k hP 0 rfl rfl 1 (by decide) (hts _ q_820) (fun _ h9 => h9) rfl dX4_cover_32 ?_
      refine lv_bipush (v := (16 : Int32)) hx hb dX4_cover_35 (by decide) ?_
      refine lv_iload_n hx hb dX4_cover_37 rfl (lv_at hl 1 rfl) ?_
      refine lv_iadd hx hb dX4_cover_38 ?_
      refine va_iald hx hb hK.k hP 1 0 rfl rfl h.1 dX4_cover_39 ?_
      replace h := h.2
      refine roSi (As := [.int p2, .int ((M_s u9) (Int32.toNatClampNeg ((16 : Int32) + p1)))]) (rest := []) F (c_X4_covered l D cI cS cJ H p2 ((M_s u9) (Int32.toNatClampNeg ((16 : Int32) + p1))) h) (cw_X4_39 hts (Nat.le_of_ble_eq_true rfl) (Nat.le_of_ble_eq_true rfl)) hK vP_nil rfl hl.1 rfl (Nat.le_of_ble_eq_true rfl) dX4_cover_40 ⟨Nat.zero_le _, Nat.zero_le _⟩ (fun r11 h => ?_)
      refine lv_goto (tgt := 47) hx hb dX4_cover_43 (by decide) ?_
      exact hQ h hP hD hS dX4_cover_47
  clear e6
  refine lv_if_ne (tgt := 12) hx hb dX4_cover_5 (by decide) (fun c12 => ?_) (fun c12 => ?_)
  · replace h := h.1 c12
    refine lv_iload_n hx hb dX4_cover_12 rfl (lv_at hl 2 rfl) ?_
    refine roSi (As := [.int p2]) (rest := [.ref (a 0)]) F (c_X4_isBody l D cI cS cJ H p2 h) (cw_X4_92 hts (Nat.le_of_ble_eq_true rfl) (Nat.le_of_ble_eq_true rfl)) hK vP_nil rfl hl.1 rfl (Nat.le_of_ble_eq_true rfl) dX4_cover_13 ⟨Nat.zero_le _, Nat.zero_le _⟩ (fun r13 h => ?_)
    obtain ⟨b14, h⟩ := h
    refine lv_if_ne (tgt := 23) hx hb dX4_cover_16 (by decide) (fun c15 => ?_) (fun c15 => ?_)
    · replace h := h.1 c15
      refine lv_iconst (v := (0 : Int32)) hx hb dX4_cover_23 (by decide) ?_
      exact w5 (0 : Int32) _ _ _ hl hP hD hS h
    · replace h := h.2 c15
      refine lv_iconst (v := (2 : Int32)) hx hb dX4_cover_19 (by decide) ?_
      refine lv_goto (tgt := 24) hx hb dX4_cover_20 (by decide) ?_
      exact w5 (2 : Int32) _ _ _ hl hP hD hS h
  · replace h := h.2 c12
    refine lv_iconst (v := (1 : Int32)) hx hb dX4_cover_8 (by decide) ?_
    refine lv_goto (tgt := 24) hx hb dX4_cover_9 (by decide) ?_
    exact w5 (1 : Int32) _ _ _ hl hP hD hS h

def wp_X4_uncover (u : Md) (p1 : Int32) (p2 : Int32) (post : Int32 → Md → Prop) : Prop :=
  wp_X4_isInn p1 (fun r1 => jn (fun (x3 : Int32) => wp_X4_holds u x3 (fun r7 u9 => (r7 = 0 → post (0 : Int32) u9) ∧ (¬ r7 = 0 → (vp_in ((16 : Int32) + p1) 854) ∧ (wp_X4_uncovered p2 ((M_s u9) (Int32.toNatClampNeg ((16 : Int32) + p1))) (fun r11 => post r11 u9))))) (fun (J4 : Int32 → Prop) => (¬ r1 = 0 → wp_X4_isBody p2 (fun r13 => (¬ r13 = 0 → J4 (0 : Int32)) ∧ (r13 = 0 → J4 (2 : Int32)))) ∧ (r1 = 0 → J4 (1 : Int32))))
set_option maxHeartbeats 4000000 in
set_option maxRecDepth 100000 in
theorem c_X4_uncover (l : Launch) (D : va_G) (cI cS cJ : ClassId) (a : Nat → Nat) (u : Md) (sz : Nat) (p1 : Int32) (p2 : Int32) {post : Int32 → Md → Prop} (h : wp_X4_uncover u p1 p2 post) : Met l yX4_uncover (wsA yX4_uncover cX4_uncover 3 (some .int)) rm_X4_uncover (va_Pc [.ref (a 0), .int p1, .int p2] (rwP D (tysA cI cS cJ) (mdW cI a u) sz)) (va_Qi post (fun u9 t => va_P D vwCl ((mdW cI a) u9) t.heap ∧ va_D (va_A (mdW cI a u) sz) ((mdW cI a) u9)) (va_A (mdW cI a u) sz)) 0 0 (va_A (mdW cI a u) sz) := by
  refine mkRWi (wf := (mdW cI a)) (by decide +kernel) (Nat.le_of_ble_eq_true rfl) (fun {p e s m args below meth c Q ls A H0 H locs} hx hb F hts hown hK hP hD hS hA hl hQ => ?_)
  have hown : s.vm.findClass RX4 = some m.cls := hown
  have F : CallFix p m c cX4_uncover 3 s args wsT RX4 := F
  have hl : lv_has ls 3 [(0, .ref (a 0)), (1, .int p1), (2, .int p2)] := hl
  unfold wp_X4_uncover at h
  refine lv_aload_n hx hb dX4_uncover_0 rfl (lv_at hl 0 rfl) ?_
  refine lv_iload_n hx hb dX4_uncover_1 rfl (lv_at hl 1 rfl) ?_
  refine roSi (As := [.int p1]) (rest := [.ref (a 0)]) F (c_X4_isInn l D cI cS cJ H p1 h) (cw_X4_83 hts (Nat.le_of_ble_eq_true rfl) (Nat.le_of_ble_eq_true rfl)) hK vP_nil rfl hl.1 rfl (Nat.le_of_ble_eq_true rfl) dX4_uncover_2 ⟨Nat.zero_le _, Nat.zero_le _⟩ (fun r1 h => ?_)
  obtain ⟨b2, h⟩ := h
  refine jn_e h (fun J4 e6 h => ?_)
  have w5 : ∀ (x3 : Int32) (ls : Array Slot) (H : Heap) (locs : List Loc), lv_has ls 3 [(0, .ref (a 0)), (1, .int p1), (2, .int p2)] → va_P D vwCl (mdW cI a u) H → va_D A (mdW cI a u) → va_S A H0 H locs → J4 x3 → W p l e rm_X4_uncover s m args below meth c H locs 0 0 Q (F0 m 24 ls [.int x3, .ref (a 0)]) := by
    intro x3 ls H locs hl hP hD hS h
    subst e6
    refine rwVi0 (As := [.int x3]) (rest := []) F (c_X4_holds l D cI cS cJ a u H.size x3 h) (cw_X4_86 hts (Nat.le_of_ble_eq_true rfl) (Nat.le_of_ble_eq_true rfl)) hK hP hD hS hA (recv (ci := 4) (k0 := 0) hK hP rfl rfl) rfl hl.1 rfl (Nat.le_of_ble_eq_true rfl) dX4_uncover_24 ⟨Nat.zero_le _, Nat.zero_le _⟩ (fun r7 u9 H locs h hP hD hS => ?_)
    obtain ⟨b8, h⟩ := h
    refine lv_if_eq (tgt := 46) hx hb dX4_uncover_27 (by decide) (fun c10 => ?_) (fun c10 => ?_)
    · replace h := h.1 c10
      refine lv_iconst (v := (0 : Int32)) hx hb dX4_uncover_46 (by decide) ?_
      exact hQ h hP hD hS dX4_uncover_47
    · replace h := h.2 c10
      refine lv_iload_n hx hb dX4_uncover_30 rfl (lv_at hl 2 rfl) ?_
      refine lv_aload_n hx hb dX4_uncover_31 rfl (lv_at hl 0 rfl) ?_
      refine va_get (D := D) (ci := 4) (v := .ref (a 1)) (C := RX4) (T := TX4) (N := 12) hx hb hts inT4 hown hK.k hP 0 rfl rfl 1 (by decide) (hts _ q_820) (fun _ h9 => h9) rfl dX4_uncover_32 ?_
      refine lv_bipush (v := (16 : Int32)) hx hb dX4_uncover_35 (by decide) ?_
      refine lv_iload_n hx hb dX4_uncover_37 rfl (lv_at hl 1 rfl) ?_
      refine lv_iadd hx hb dX4_uncover_38 ?_
      refine va_iald hx hb hK.k hP 1 0 rfl rfl h.1 dX4_uncover_39 ?_
      replace h := h.2
      refine roSi (As := [.int p2, .int ((M_s u9) (Int32.toNatClampNeg ((16 : Int32) + p1)))]) (rest := []) F (c_X4_uncovered l D cI cS cJ H p2 ((M_s u9) (Int32.toNatClampNeg ((16 : Int32) + p1))) h) (cw_X4_53 hts (Nat.le_of_ble_eq_true rfl) (Nat.le_of_ble_eq_true rfl)) hK vP_nil rfl hl.1 rfl (Nat.le_of_ble_eq_true rfl) dX4_uncover_40 ⟨Nat.zero_le _, Nat.zero_le _⟩ (fun r11 h => ?_)
      refine lv_goto (tgt := 47) hx hb dX4_uncover_43 (by decide) ?_
      exact hQ h hP hD hS dX4_uncover_47
  clear e6
  refine lv_if_ne (tgt := 12) hx hb dX4_uncover_5 (by decide) (fun c12 => ?_) (fun c12 => ?_)
  · replace h := h.1 c12
    refine lv_iload_n hx hb dX4_uncover_12 rfl (lv_at hl 2 rfl) ?_
    refine roSi (As := [.int p2]) (rest := [.ref (a 0)]) F (c_X4_isBody l D cI cS cJ H p2 h) (cw_X4_92 hts (Nat.le_of_ble_eq_true rfl) (Nat.le_of_ble_eq_true rfl)) hK vP_nil rfl hl.1 rfl (Nat.le_of_ble_eq_true rfl) dX4_uncover_13 ⟨Nat.zero_le _, Nat.zero_le _⟩ (fun r13 h => ?_)
    obtain ⟨b14, h⟩ := h
    refine lv_if_ne (tgt := 23) hx hb dX4_uncover_16 (by decide) (fun c15 => ?_) (fun c15 => ?_)
    · replace h := h.1 c15
      refine lv_iconst (v := (0 : Int32)) hx hb dX4_uncover_23 (by decide) ?_
      exact w5 (0 : Int32) _ _ _ hl hP hD hS h
    · replace h := h.2 c15
      refine lv_iconst (v := (2 : Int32)) hx hb dX4_uncover_19 (by decide) ?_
      refine lv_goto (tgt := 24) hx hb dX4_uncover_20 (by decide) ?_
      exact w5 (2 : Int32) _ _ _ hl hP hD hS h
  · replace h := h.2 c12
    refine lv_iconst (v := (1 : Int32)) hx hb dX4_uncover_8 (by decide) ?_
    refine lv_goto (tgt := 24) hx hb dX4_uncover_9 (by decide) ?_
    exact w5 (1 : Int32) _ _ _ hl hP hD hS h

def wp_X4_lay (u : Md) (p1 : Int32) (p2 : Int32) (p3 : Int32) (p4 : Int32) (post : Int32 → Md → Prop) : Prop :=
  wp_X4_isInn p1 (fun r1 => jn (fun (x3 : Int32) => jn (fun (x8 : Int32) => jn (fun (x13 : Int32) => wp_X4_holds u x13 (fun r17 u19 => (¬ r17 = 0 → wp_X4_save u19 (fun u22 => wp_X4_lays u22 p1 p2 p3 p4 (fun r23 u24 => post r23 u24))) ∧ (r17 = 0 → post (0 : Int32) u19))) (fun (J14 : Int32 → Prop) => (¬ x3 = 0 → (x8 = 0 → wp_X4_canLay u p1 p2 p3 (fun r27 => (¬ r27 = 0 → J14 (0 : Int32)) ∧ (r27 = 0 → J14 (3 : Int32)))) ∧ (¬ x8 = 0 → J14 (2 : Int32))) ∧ (x3 = 0 → J14 (1 : Int32)))) (fun (J10 : Int32 → Prop) => jn (J10 (1 : Int32)) (fun (J30 : Prop) => (p1 = p2 → J30) ∧ (¬ p1 = p2 → (p2 = p3 → J30) ∧ (¬ p2 = p3 → (¬ p1 = p3 → J10 (0 : Int32)) ∧ (p1 = p3 → J30)))))) (fun (J5 : Int32 → Prop) => jn (J5 (0 : Int32)) (fun (J36 : Prop) => (r1 = 0 → J36) ∧ (¬ r1 = 0 → wp_X4_isInn p2 (fun r40 => (r40 = 0 → J36) ∧ (¬ r40 = 0 → wp_X4_isInn p3 (fun r43 => (r43 = 0 → J36) ∧ (¬ r43 = 0 → wp_X4_isHall p4 (fun r46 => (r46 = 0 → J36) ∧ (¬ r46 = 0 → J5 (1 : Int32)))))))))))
set_option maxHeartbeats 4000000 in
set_option maxRecDepth 100000 in
theorem c_X4_lay (l : Launch) (D : va_G) (cI cS cJ : ClassId) (a : Nat → Nat) (u : Md) (sz : Nat) (p1 : Int32) (p2 : Int32) (p3 : Int32) (p4 : Int32) {post : Int32 → Md → Prop} (h : wp_X4_lay u p1 p2 p3 p4 post) : Met l yX4_lay (wsA yX4_lay cX4_lay 7 (some .int)) rm_X4_lay (va_Pc [.ref (a 0), .int p1, .int p2, .int p3, .int p4] (rwP D (tysA cI cS cJ) (mdW cI a u) sz)) (va_Qi post (fun u9 t => va_P D vwCl ((mdW cI a) u9) t.heap ∧ va_D (va_A (mdW cI a u) sz) ((mdW cI a) u9)) (va_A (mdW cI a u) sz)) 0 0 (va_A (mdW cI a u) sz) := by
  refine mkRWi (wf := (mdW cI a)) (by decide +kernel) (Nat.le_of_ble_eq_true rfl) (fun {p e s m args below meth c Q ls A H0 H locs} hx hb F hts hown hK hP hD hS hA hl hQ => ?_)
  have hown : s.vm.findClass RX4 = some m.cls := hown
  have F : CallFix p m c cX4_lay 7 s args wsT RX4 := F
  have hl : lv_has ls 7 [(0, .ref (a 0)), (1, .int p1), (2, .int p2), (3, .int p3), (4, .int p4)] := hl
  unfold wp_X4_lay at h
  refine lv_iload_n hx hb dX4_lay_0 rfl (lv_at hl 1 rfl) ?_
  refine roSi (As := [.int p1]) (rest := []) F (c_X4_isInn l D cI cS cJ H p1 h) (cw_X4_83 hts (Nat.le_of_ble_eq_true rfl) (Nat.le_of_ble_eq_true rfl)) hK vP_nil rfl hl.1 rfl (Nat.le_of_ble_eq_true rfl) dX4_lay_1 ⟨Nat.zero_le _, Nat.zero_le _⟩ (fun r1 h => ?_)
  obtain ⟨b2, h⟩ := h
  refine jn_e h (fun J5 e7 h => ?_)
  have w6 : ∀ (x3 : Int32) (ls : Array Slot) (H : Heap) (locs : List Loc), bz x3 → lv_has ls 7 [(0, .ref (a 0)), (1, .int p1), (2, .int p2), (3, .int p3), (4, .int p4)] → va_P D vwCl (mdW cI a u) H → va_D A (mdW cI a u) → va_S A H0 H locs → J5 x3 → W p l e rm_X4_lay s m args below meth c H locs 0 0 Q (F0 m 34 ls [.int x3]) := by
    intro x3 ls H locs b4 hl hP hD hS h
    subst e7
    refine lv_istore (lv' := [(5, .int x3), (0, .ref (a 0)), (1, .int p1), (2, .int p2), (3, .int p3), (4, .int p4)]) hx hb dX4_lay_34 hl (by decide) rfl (fun ls hl => ?_)
    refine lv_iload_n hx hb dX4_lay_36 rfl (lv_at hl 2 rfl) ?_
    refine lv_iload_n hx hb dX4_lay_37 rfl (lv_at hl 3 rfl) ?_
    refine jn_e h (fun J10 e12 h => ?_)
    have w11 : ∀ (x8 : Int32) (ls : Array Slot) (H : Heap) (locs : List Loc), bz x8 → lv_has ls 7 [(0, .ref (a 0)), (1, .int p1), (2, .int p2), (3, .int p3), (4, .int p4), (5, .int x3)] → va_P D vwCl (mdW cI a u) H → va_D A (mdW cI a u) → va_S A H0 H locs → J10 x8 → W p l e rm_X4_lay s m args below meth c H locs 0 0 Q (F0 m 56 ls [.int x8]) := by
      intro x8 ls H locs b9 hl hP hD hS h
      subst e12
      refine lv_istore (lv' := [(6, .int x8), (0, .ref (a 0)), (1, .int p1), (2, .int p2), (3, .int p3), (4, .int p4), (5, .int x3)]) hx hb dX4_lay_56 hl (by decide) rfl (fun ls hl => ?_)
      refine lv_aload_n hx hb dX4_lay_58 rfl (lv_at hl 1 rfl) ?_
      refine lv_iload hx hb dX4_lay_59 (lv_at hl 6 rfl) ?_
      refine jn_e h (fun J14 e16 h => ?_)
      have w15 : ∀ (x13 : Int32) (ls : Array Slot) (H : Heap) (locs : List Loc), lv_has ls 7 [(0, .ref (a 0)), (1, .int p1), (2, .int p2), (3, .int p3), (4, .int p4)] → va_P D vwCl (mdW cI a u) H → va_D A (mdW cI a u) → va_S A H0 H locs → J14 x13 → W p l e rm_X4_lay s m args below meth c H locs 0 0 Q (F0 m 92 ls [.int x13, .ref (a 0)]) := by
        intro x13 ls H locs hl hP hD hS h
        subst e16
        refine rwVi0 (As := [.int x13]) (rest := []) F (c_X4_holds l D cI cS cJ a u H.size x13 h) (cw_X4_86 hts (Nat.le_of_ble_eq_true rfl) (Nat.le_of_ble_eq_true rfl)) hK hP hD hS hA (recv (ci := 4) (k0 := 0) hK hP rfl rfl) rfl hl.1 rfl (Nat.le_of_ble_eq_true rfl) dX4_lay_92 ⟨Nat.zero_le _, Nat.zero_le _⟩ (fun r17 u19 H locs h hP hD hS => ?_)
        obtain ⟨b18, h⟩ := h
        refine lv_if_ne (tgt := 100) hx hb dX4_lay_95 (by decide) (fun c20 => ?_) (fun c20 => ?_)
        · replace h := h.1 c20
          refine lv_aload_n hx hb dX4_lay_100 rfl (lv_at hl 0 rfl) ?_
          refine rwVv0 (As := []) (rest := []) F (c_X4_save l D cI cS cJ a u19 H.size  h) (cw_X4_80 hts (Nat.le_of_ble_eq_true rfl) (Nat.le_of_ble_eq_true rfl)) hK hP hD hS hA (recv (ci := 4) (k0 := 0) hK hP rfl rfl) rfl hl.1 rfl (Nat.le_of_ble_eq_true rfl) dX4_lay_101 ⟨Nat.zero_le _, Nat.zero_le _⟩ (fun u22 H locs h hP hD hS => ?_)
          refine lv_aload_n hx hb dX4_lay_104 rfl (lv_at hl 0 rfl) ?_
          refine lv_iload_n hx hb dX4_lay_105 rfl (lv_at hl 1 rfl) ?_
          refine lv_iload_n hx hb dX4_lay_106 rfl (lv_at hl 2 rfl) ?_
          refine lv_iload_n hx hb dX4_lay_107 rfl (lv_at hl 3 rfl) ?_
          refine lv_iload hx hb dX4_lay_108 (lv_at hl 4 rfl) ?_
          refine rwVi0 (As := [.int p1, .int p2, .int p3, .int p4]) (rest := []) F (c_X4_lays l D cI cS cJ a u22 H.size p1 p2 p3 p4 h) (cw_X4_101 hts (Nat.le_of_ble_eq_true rfl) (Nat.le_of_ble_eq_true rfl)) hK hP hD hS hA (recv (ci := 4) (k0 := 0) hK hP rfl rfl) rfl hl.1 rfl (Nat.le_of_ble_eq_true rfl) dX4_lay_110 ⟨Nat.zero_le _, Nat.zero_le _⟩ (fun r23 u24 H locs h hP hD hS => ?_)
          exact hQ h hP hD hS dX4_lay_113
        · replace h := h.2 c20
          refine lv_iconst (v := (0 : Int32)) hx hb dX4_lay_98 (by decide) ?_
          exact hQ h hP hD hS dX4_lay_99
      clear e16
      refine lv_if_ne (tgt := 68) hx hb dX4_lay_61 (by decide) (fun c25 => ?_) (fun c25 => ?_)
      · replace h := h.1 c25
        refine lv_iload hx hb dX4_lay_68 (lv_at hl 0 rfl) ?_
        refine lv_if_eq (tgt := 77) hx hb dX4_lay_70 (by decide) (fun c26 => ?_) (fun c26 => ?_)
        · replace h := h.1 c26
          refine lv_aload_n hx hb dX4_lay_77 rfl (lv_at hl 1 rfl) ?_
          refine lv_iload_n hx hb dX4_lay_78 rfl (lv_at hl 2 rfl) ?_
          refine lv_iload_n hx hb dX4_lay_79 rfl (lv_at hl 3 rfl) ?_
          refine lv_iload_n hx hb dX4_lay_80 rfl (lv_at hl 4 rfl) ?_
          refine roVi (As := [.int p1, .int p2, .int p3]) (rest := [.ref (a 0)]) F (c_X4_canLay l D cI cS cJ a u H p1 p2 p3 h) (cw_X4_98 hts (Nat.le_of_ble_eq_true rfl) (Nat.le_of_ble_eq_true rfl)) hK hP (recv (ci := 4) (k0 := 0) hK hP rfl rfl) rfl hl.1 rfl (Nat.le_of_ble_eq_true rfl) dX4_lay_81 ⟨Nat.zero_le _, Nat.zero_le _⟩ (fun r27 h => ?_)
          obtain ⟨b28, h⟩ := h
          refine lv_if_ne (tgt := 91) hx hb dX4_lay_84 (by decide) (fun c29 => ?_) (fun c29 => ?_)
          · replace h := h.1 c29
            refine lv_iconst (v := (0 : Int32)) hx hb dX4_lay_91 (by decide) ?_
            exact w15 (0 : Int32) _ _ _ (lv_sub hl [1, 2, 3, 4, 5] rfl) hP hD hS h
          · replace h := h.2 c29
            refine lv_iconst (v := (3 : Int32)) hx hb dX4_lay_87 (by decide) ?_
            refine lv_goto (tgt := 92) hx hb dX4_lay_88 (by decide) ?_
            exact w15 (3 : Int32) _ _ _ (lv_sub hl [1, 2, 3, 4, 5] rfl) hP hD hS h
        · replace h := h.2 c26
          refine lv_iconst (v := (2 : Int32)) hx hb dX4_lay_73 (by decide) ?_
          refine lv_goto (tgt := 92) hx hb dX4_lay_74 (by decide) ?_
          exact w15 (2 : Int32) _ _ _ (lv_sub hl [1, 2, 3, 4, 5] rfl) hP hD hS h
      · replace h := h.2 c25
        refine lv_iconst (v := (1 : Int32)) hx hb dX4_lay_64 (by decide) ?_
        refine lv_goto (tgt := 92) hx hb dX4_lay_65 (by decide) ?_
        exact w15 (1 : Int32) _ _ _ (lv_sub hl [1, 2, 3, 4, 5] rfl) hP hD hS h
    clear e12
    refine jn_e h (fun J30 e32 h => ?_)
    have w31 : ∀  (ls : Array Slot) (H : Heap) (locs : List Loc), lv_has ls 7 [(0, .ref (a 0)), (1, .int p1), (2, .int p2), (3, .int p3), (4, .int p4), (5, .int x3)] → va_P D vwCl (mdW cI a u) H → va_D A (mdW cI a u) → va_S A H0 H locs → J30 → W p l e rm_X4_lay s m args below meth c H locs 0 0 Q (F0 m 51 ls []) := by
      intro ls H locs hl hP hD hS h
      subst e32
      refine lv_iconst (v := (1 : Int32)) hx hb dX4_lay_51 (by decide) ?_
      refine lv_goto (tgt := 56) hx hb dX4_lay_52 (by decide) ?_
      exact w11 (1 : Int32) _ _ _ bz1 hl hP hD hS h
    clear e32
    refine lv_icmp_eq (tgt := 51) hx hb dX4_lay_38 (by decide) (fun c33 => ?_) (fun c33 => ?_)
    · replace h := h.1 c33
      exact w31 _ _ _ (lv_sub hl [1, 2, 3, 4, 5, 0] rfl) hP hD hS h
    · replace h := h.2 c33
      refine lv_iload_n hx hb dX4_lay_41 rfl (lv_at hl 3 rfl) ?_
      refine lv_iload_n hx hb dX4_lay_42 rfl (lv_at hl 4 rfl) ?_
      refine lv_icmp_eq (tgt := 51) hx hb dX4_lay_43 (by decide) (fun c34 => ?_) (fun c34 => ?_)
      · replace h := h.1 c34
        exact w31 _ _ _ (lv_sub hl [1, 2, 3, 4, 5, 0] rfl) hP hD hS h
      · replace h := h.2 c34
        refine lv_iload_n hx hb dX4_lay_46 rfl (lv_at hl 2 rfl) ?_
        refine lv_iload_n hx hb dX4_lay_47 rfl (lv_at hl 4 rfl) ?_
        refine lv_icmp_ne (tgt := 55) hx hb dX4_lay_48 (by decide) (fun c35 => ?_) (fun c35 => ?_)
        · replace h := h.1 c35
          refine lv_iconst (v := (0 : Int32)) hx hb dX4_lay_55 (by decide) ?_
          exact w11 (0 : Int32) _ _ _ bz0 (lv_sub hl [1, 2, 3, 4, 5, 0] rfl) hP hD hS h
        · replace h := h.2 c35
          exact w31 _ _ _ (lv_sub hl [1, 2, 3, 4, 5, 0] rfl) hP hD hS h
  clear e7
  refine jn_e h (fun J36 e38 h => ?_)
  have w37 : ∀  (ls : Array Slot) (H : Heap) (locs : List Loc), lv_has ls 7 [(0, .ref (a 0)), (1, .int p1), (2, .int p2), (3, .int p3), (4, .int p4)] → va_P D vwCl (mdW cI a u) H → va_D A (mdW cI a u) → va_S A H0 H locs → J36 → W p l e rm_X4_lay s m args below meth c H locs 0 0 Q (F0 m 33 ls []) := by
    intro ls H locs hl hP hD hS h
    subst e38
    refine lv_iconst (v := (0 : Int32)) hx hb dX4_lay_33 (by decide) ?_
    exact w6 (0 : Int32) _ _ _ bz0 hl hP hD hS h
  clear e38
  refine lv_if_eq (tgt := 33) hx hb dX4_lay_4 (by decide) (fun c39 => ?_) (fun c39 => ?_)
  · replace h := h.1 c39
    exact w37 _ _ _ hl hP hD hS h
  · replace h := h.2 c39
    refine lv_iload_n hx hb dX4_lay_7 rfl (lv_at hl 2 rfl) ?_
    refine roSi (As := [.int p2]) (rest := []) F (c_X4_isInn l D cI cS cJ H p2 h) (cw_X4_83 hts (Nat.le_of_ble_eq_true rfl) (Nat.le_of_ble_eq_true rfl)) hK vP_nil rfl hl.1 rfl (Nat.le_of_ble_eq_true rfl) dX4_lay_8 ⟨Nat.zero_le _, Nat.zero_le _⟩ (fun r40 h => ?_)
    obtain ⟨b41, h⟩ := h
    refine lv_if_eq (tgt := 33) hx hb dX4_lay_11 (by decide) (fun c42 => ?_) (fun c42 => ?_)
    · replace h := h.1 c42
      exact w37 _ _ _ hl hP hD hS h
    · replace h := h.2 c42
      refine lv_iload_n hx hb dX4_lay_14 rfl (lv_at hl 3 rfl) ?_
      refine roSi (As := [.int p3]) (rest := []) F (c_X4_isInn l D cI cS cJ H p3 h) (cw_X4_83 hts (Nat.le_of_ble_eq_true rfl) (Nat.le_of_ble_eq_true rfl)) hK vP_nil rfl hl.1 rfl (Nat.le_of_ble_eq_true rfl) dX4_lay_15 ⟨Nat.zero_le _, Nat.zero_le _⟩ (fun r43 h => ?_)
      obtain ⟨b44, h⟩ := h
      refine lv_if_eq (tgt := 33) hx hb dX4_lay_18 (by decide) (fun c45 => ?_) (fun c45 => ?_)
      · replace h := h.1 c45
        exact w37 _ _ _ hl hP hD hS h
      · replace h := h.2 c45
        refine lv_iload hx hb dX4_lay_21 (lv_at hl 4 rfl) ?_
        refine roSi (As := [.int p4]) (rest := []) F (c_X4_isHall l D cI cS cJ H p4 h) (cw_X4_95 hts (Nat.le_of_ble_eq_true rfl) (Nat.le_of_ble_eq_true rfl)) hK vP_nil rfl hl.1 rfl (Nat.le_of_ble_eq_true rfl) dX4_lay_23 ⟨Nat.zero_le _, Nat.zero_le _⟩ (fun r46 h => ?_)
        obtain ⟨b47, h⟩ := h
        refine lv_if_eq (tgt := 33) hx hb dX4_lay_26 (by decide) (fun c48 => ?_) (fun c48 => ?_)
        · replace h := h.1 c48
          exact w37 _ _ _ hl hP hD hS h
        · replace h := h.2 c48
          refine lv_iconst (v := (1 : Int32)) hx hb dX4_lay_29 (by decide) ?_
          refine lv_goto (tgt := 34) hx hb dX4_lay_30 (by decide) ?_
          exact w6 (1 : Int32) _ _ _ bz1 hl hP hD hS h

def wp_X4_takeUp (u : Md)  (post : Int32 → Md → Prop) : Prop :=
  wp_X4_canTakeUp u (fun r1 => jn (fun (x3 : Int32) => wp_X4_holds u x3 (fun r8 u10 => (¬ r8 = 0 → wp_X4_save u10 (fun u13 => (vp_in (0 : Int32) 854) ∧ ((vp_in (0 : Int32) 854) ∧ (LP2 (fun (K16 : Int32 → Md → Prop) (x14 : Int32) (u15 : Md) => ((4 : Int32) ≤ x14 → (vp_in (0 : Int32) 854) ∧ (post ((M_s u15) (Int32.toNatClampNeg (0 : Int32))) u15)) ∧ (¬ (4 : Int32) ≤ x14 → (vp_in ((118 : Int32) + x14) 854) ∧ ((vp_in (0 : Int32) 854) ∧ (jn (fun (x19 : Int32) => (vp_in ((118 : Int32) + x14) 854) ∧ (K16 (x14 + 1) (wM_s u15 (Int32.toNatClampNeg ((118 : Int32) + x14)) x19))) (fun (J20 : Int32 → Prop) => (¬ ((M_s u15) (Int32.toNatClampNeg ((118 : Int32) + x14))) = ((M_s u15) (Int32.toNatClampNeg (0 : Int32))) → (vp_in ((118 : Int32) + x14) 854) ∧ (J20 ((M_s u15) (Int32.toNatClampNeg ((118 : Int32) + x14))))) ∧ (((M_s u15) (Int32.toNatClampNeg ((118 : Int32) + x14))) = ((M_s u15) (Int32.toNatClampNeg (0 : Int32))) → J20 (-1 : Int32))))))) (0 : Int32) (wM_s u13 (Int32.toNatClampNeg (0 : Int32)) (((M_s u13) (Int32.toNatClampNeg (0 : Int32))) - (1 : Int32))))))) ∧ (r8 = 0 → post (0 : Int32) u10))) (fun (J5 : Int32 → Prop) => (r1 = 0 → J5 (1 : Int32)) ∧ (¬ r1 = 0 → J5 (0 : Int32))))
set_option maxHeartbeats 4000000 in
set_option maxRecDepth 100000 in
theorem c_X4_takeUp (l : Launch) (D : va_G) (cI cS cJ : ClassId) (a : Nat → Nat) (u : Md) (sz : Nat)  {post : Int32 → Md → Prop} (h : wp_X4_takeUp u post) : Met l yX4_takeUp (wsA yX4_takeUp cX4_takeUp 2 (some .int)) rm_X4_takeUp (va_Pc [.ref (a 0)] (rwP D (tysA cI cS cJ) (mdW cI a u) sz)) (va_Qi post (fun u9 t => va_P D vwCl ((mdW cI a) u9) t.heap ∧ va_D (va_A (mdW cI a u) sz) ((mdW cI a) u9)) (va_A (mdW cI a u) sz)) 0 0 (va_A (mdW cI a u) sz) := by
  refine mkRWi (wf := (mdW cI a)) (by decide +kernel) (Nat.le_of_ble_eq_true rfl) (fun {p e s m args below meth c Q ls A H0 H locs} hx hb F hts hown hK hP hD hS hA hl hQ => ?_)
  have hown : s.vm.findClass RX4 = some m.cls := hown
  have F : CallFix p m c cX4_takeUp 2 s args wsT RX4 := F
  have hl : lv_has ls 2 [(0, .ref (a 0))] := hl
  unfold wp_X4_takeUp at h
  refine lv_aload_n hx hb dX4_takeUp_0 rfl (lv_at hl 0 rfl) ?_
  refine lv_aload_n hx hb dX4_takeUp_1 rfl (lv_at hl 0 rfl) ?_
  refine roVi (As := []) (rest := [.ref (a 0)]) F (c_X4_canTakeUp l D cI cS cJ a u H  h) (cw_X4_104 hts (Nat.le_of_ble_eq_true rfl) (Nat.le_of_ble_eq_true rfl)) hK hP (recv (ci := 4) (k0 := 0) hK hP rfl rfl) rfl hl.1 rfl (Nat.le_of_ble_eq_true rfl) dX4_takeUp_2 ⟨Nat.zero_le _, Nat.zero_le _⟩ (fun r1 h => ?_)
  obtain ⟨b2, h⟩ := h
  refine jn_e h (fun J5 e7 h => ?_)
  have w6 : ∀ (x3 : Int32) (ls : Array Slot) (H : Heap) (locs : List Loc), bz x3 → lv_has ls 2 [(0, .ref (a 0))] → va_P D vwCl (mdW cI a u) H → va_D A (mdW cI a u) → va_S A H0 H locs → J5 x3 → W p l e rm_X4_takeUp s m args below meth c H locs 0 0 Q (F0 m 13 ls [.int x3, .ref (a 0)]) := by
    intro x3 ls H locs b4 hl hP hD hS h
    subst e7
    refine rwVi0 (As := [.int x3]) (rest := []) F (c_X4_holds l D cI cS cJ a u H.size x3 h) (cw_X4_86 hts (Nat.le_of_ble_eq_true rfl) (Nat.le_of_ble_eq_true rfl)) hK hP hD hS hA (recv (ci := 4) (k0 := 0) hK hP rfl rfl) rfl hl.1 rfl (Nat.le_of_ble_eq_true rfl) dX4_takeUp_13 ⟨Nat.zero_le _, Nat.zero_le _⟩ (fun r8 u10 H locs h hP hD hS => ?_)
    obtain ⟨b9, h⟩ := h
    refine lv_if_ne (tgt := 21) hx hb dX4_takeUp_16 (by decide) (fun c11 => ?_) (fun c11 => ?_)
    · replace h := h.1 c11
      refine lv_aload_n hx hb dX4_takeUp_21 rfl (lv_at hl 0 rfl) ?_
      refine rwVv0 (As := []) (rest := []) F (c_X4_save l D cI cS cJ a u10 H.size  h) (cw_X4_80 hts (Nat.le_of_ble_eq_true rfl) (Nat.le_of_ble_eq_true rfl)) hK hP hD hS hA (recv (ci := 4) (k0 := 0) hK hP rfl rfl) rfl hl.1 rfl (Nat.le_of_ble_eq_true rfl) dX4_takeUp_22 ⟨Nat.zero_le _, Nat.zero_le _⟩ (fun u13 H locs h hP hD hS => ?_)
      refine lv_aload_n hx hb dX4_takeUp_25 rfl (lv_at hl 0 rfl) ?_
      refine va_get (D := D) (ci := 4) (v := .ref (a 1)) (C := RX4) (T := TX4) (N := 12) hx hb hts inT4 hown hK.k hP 0 rfl rfl 1 (by decide) (hts _ q_820) (fun _ h9 => h9) rfl dX4_takeUp_26 ?_
      refine lv_iconst (v := (0 : Int32)) hx hb dX4_takeUp_29 (by decide) ?_
      refine lv_dup2_11 hx hb dX4_takeUp_30 rfl rfl ?_
      refine va_iald hx hb hK.k hP 1 0 rfl rfl h.1 dX4_takeUp_31 ?_
      replace h := h.2
      refine lv_iconst (v := (1 : Int32)) hx hb dX4_takeUp_32 (by decide) ?_
      refine lv_isub hx hb dX4_takeUp_33 ?_
      refine va_iast hx hb hK.k hP hD hS 1 0 rfl rfl h.1 dX4_takeUp_34 (fun H locs hP hD hS => ?_)
      replace h := h.2
      have hP : va_P D vwCl (mdW cI a (wM_s u13 (Int32.toNatClampNeg (0 : Int32)) (((M_s u13) (Int32.toNatClampNeg (0 : Int32))) - (1 : Int32)))) H := hP
      have hD : va_D A (mdW cI a (wM_s u13 (Int32.toNatClampNeg (0 : Int32)) (((M_s u13) (Int32.toNatClampNeg (0 : Int32))) - (1 : Int32)))) := hD
      refine lv_iconst (v := (0 : Int32)) hx hb dX4_takeUp_35 (by decide) ?_
      refine lv_istore_n (lv' := [(1, .int (0 : Int32)), (0, .ref (a 0))]) hx hb dX4_takeUp_36 rfl hl (by decide) rfl (fun ls hl => ?_)
      refine lpu2 h (fun K16 : Int32 → Md → Prop => ∀ (x14 : Int32) (u15 : Md) (ls : Array Slot) (H : Heap) (locs : List Loc), lv_has ls 2 [(0, .ref (a 0)), (1, .int x14)] → va_P D vwCl (mdW cI a u15) H → va_D A (mdW cI a u15) → va_S A H0 H locs → K16 x14 u15 → W p l e rm_X4_takeUp s m args below meth c H locs 0 0 Q (F0 m 37 ls [])) ?_ ?_ ?_
      · intro x14 u15 ls H locs hl hP hD hS h
        exact h.elim
      · intro K16
        intro w17 x14 u15 ls H locs hl hP hD hS h
        refine lv_iload_n hx hb dX4_takeUp_37 rfl (lv_at hl 1 rfl) ?_
        refine lv_iconst (v := (4 : Int32)) hx hb dX4_takeUp_38 (by decide) ?_
        refine lv_icmp_ge (tgt := 88) hx hb dX4_takeUp_39 (by decide) (fun c18 => ?_) (fun c18 => ?_)
        · replace h := h.1 c18
          refine lv_aload_n hx hb dX4_takeUp_88 rfl (lv_at hl 0 rfl) ?_
          refine va_get (D := D) (ci := 4) (v := .ref (a 1)) (C := RX4) (T := TX4) (N := 12) hx hb hts inT4 hown hK.k hP 0 rfl rfl 1 (by decide) (hts _ q_820) (fun _ h9 => h9) rfl dX4_takeUp_89 ?_
          refine lv_iconst (v := (0 : Int32)) hx hb dX4_takeUp_92 (by decide) ?_
          refine va_iald hx hb hK.k hP 1 0 rfl rfl h.1 dX4_takeUp_93 ?_
          replace h := h.2
          exact hQ h hP hD hS dX4_takeUp_94
        · replace h := h.2 c18
          refine lv_aload_n hx hb dX4_takeUp_42 rfl (lv_at hl 0 rfl) ?_
          refine va_get (D := D) (ci := 4) (v := .ref (a 1)) (C := RX4) (T := TX4) (N := 12) hx hb hts inT4 hown hK.k hP 0 rfl rfl 1 (by decide) (hts _ q_820) (fun _ h9 => h9) rfl dX4_takeUp_43 ?_
          refine lv_bipush (v := (118 : Int32)) hx hb dX4_takeUp_46 (by decide) ?_
          refine lv_iload_n hx hb dX4_takeUp_48 rfl (lv_at hl 1 rfl) ?_
          refine lv_iadd hx hb dX4_takeUp_49 ?_
          refine lv_aload_n hx hb dX4_takeUp_50 rfl (lv_at hl 0 rfl) ?_
          refine va_get (D := D) (ci := 4) (v := .ref (a 1)) (C := RX4) (T := TX4) (N := 12) hx hb hts inT4 hown hK.k hP 0 rfl rfl 1 (by decide) (hts _ q_820) (fun _ h9 => h9) rfl dX4_takeUp_51 ?_
          refine lv_bipush (v := (118 : Int32)) hx hb dX4_takeUp_54 (by decide) ?_
          refine lv_iload_n hx hb dX4_takeUp_56 rfl (lv_at hl 1 rfl) ?_
          refine lv_iadd hx hb dX4_takeUp_57 ?_
          refine va_iald hx hb hK.k hP 1 0 rfl rfl h.1 dX4_takeUp_58 ?_
          replace h := h.2
          refine lv_aload_n hx hb dX4_takeUp_59 rfl (lv_at hl 0 rfl) ?_
          refine va_get (D := D) (ci := 4) (v := .ref (a 1)) (C := RX4) (T := TX4) (N := 12) hx hb hts inT4 hown hK.k hP 0 rfl rfl 1 (by decide) (hts _ q_820) (fun _ h9 => h9) rfl dX4_takeUp_60 ?_
          refine lv_iconst (v := (0 : Int32)) hx hb dX4_takeUp_63 (by decide) ?_
          refine va_iald hx hb hK.k hP 1 0 rfl rfl h.1 dX4_takeUp_64 ?_
          replace h := h.2
          refine jn_e h (fun J20 e22 h => ?_)
          have w21 : ∀ (x19 : Int32) (ls : Array Slot) (H : Heap) (locs : List Loc), lv_has ls 2 [(0, .ref (a 0)), (1, .int x14)] → va_P D vwCl (mdW cI a u15) H → va_D A (mdW cI a u15) → va_S A H0 H locs → J20 x19 → W p l e rm_X4_takeUp s m args below meth c H locs 0 0 Q (F0 m 81 ls [.int x19, .int ((118 : Int32) + x14), .ref (a 1)]) := by
            intro x19 ls H locs hl hP hD hS h
            subst e22
            refine va_iast hx hb hK.k hP hD hS 1 0 rfl rfl h.1 dX4_takeUp_81 (fun H locs hP hD hS => ?_)
            replace h := h.2
            have hP : va_P D vwCl (mdW cI a (wM_s u15 (Int32.toNatClampNeg ((118 : Int32) + x14)) x19)) H := hP
            have hD : va_D A (mdW cI a (wM_s u15 (Int32.toNatClampNeg ((118 : Int32) + x14)) x19)) := hD
            refine lv_iinc (v := (x14 + 1)) (lv' := [(1, .int (x14 + 1)), (0, .ref (a 0))]) hx hb dX4_takeUp_82 hl (k := 1) rfl rfl (by decide) rfl (fun ls hl => ?_)
            refine lv_goto (tgt := 37) hx hb dX4_takeUp_85 (by decide) ?_
            exact w17 (x14 + 1) (wM_s u15 (Int32.toNatClampNeg ((118 : Int32) + x14)) x19) _ _ _ (lv_sub hl [1, 0] rfl) hP hD hS h
          clear e22
          refine lv_icmp_ne (tgt := 72) hx hb dX4_takeUp_65 (by decide) (fun c23 => ?_) (fun c23 => ?_)
          · replace h := h.1 c23
            refine lv_aload_n hx hb dX4_takeUp_72 rfl (lv_at hl 0 rfl) ?_
            refine va_get (D := D) (ci := 4) (v := .ref (a 1)) (C := RX4) (T := TX4) (N := 12) hx hb hts inT4 hown hK.k hP 0 rfl rfl 1 (by decide) (hts _ q_820) (fun _ h9 => h9) rfl dX4_takeUp_73 ?_
            refine lv_bipush (v := (118 : Int32)) hx hb dX4_takeUp_76 (by decide) ?_
            refine lv_iload_n hx hb dX4_takeUp_78 rfl (lv_at hl 1 rfl) ?_
            refine lv_iadd hx hb dX4_takeUp_79 ?_
            refine va_iald hx hb hK.k hP 1 0 rfl rfl h.1 dX4_takeUp_80 ?_
            replace h := h.2
            exact w21 ((M_s u15) (Int32.toNatClampNeg ((118 : Int32) + x14))) _ _ _ hl hP hD hS h
          · replace h := h.2 c23
            refine lv_iconst (v := (-1 : Int32)) hx hb dX4_takeUp_68 (by decide) ?_
            refine lv_goto (tgt := 81) hx hb dX4_takeUp_69 (by decide) ?_
            exact w21 (-1 : Int32) _ _ _ hl hP hD hS h
      · intro K16 w17 h
        exact w17 (0 : Int32) (wM_s u13 (Int32.toNatClampNeg (0 : Int32)) (((M_s u13) (Int32.toNatClampNeg (0 : Int32))) - (1 : Int32))) _ _ _ (lv_sub hl [1, 0] rfl) hP hD hS h
    · replace h := h.2 c11
      refine lv_iconst (v := (0 : Int32)) hx hb dX4_takeUp_19 (by decide) ?_
      exact hQ h hP hD hS dX4_takeUp_20
  clear e7
  refine lv_if_eq (tgt := 12) hx hb dX4_takeUp_5 (by decide) (fun c24 => ?_) (fun c24 => ?_)
  · replace h := h.1 c24
    refine lv_iconst (v := (1 : Int32)) hx hb dX4_takeUp_12 (by decide) ?_
    exact w6 (1 : Int32) _ _ _ bz1 hl hP hD hS h
  · replace h := h.2 c24
    refine lv_iconst (v := (0 : Int32)) hx hb dX4_takeUp_8 (by decide) ?_
    refine lv_goto (tgt := 13) hx hb dX4_takeUp_9 (by decide) ?_
    exact w6 (0 : Int32) _ _ _ bz0 hl hP hD hS h

def wp_X4_roads (u : Md)  (post : Int32 → Md → Prop) : Prop :=
  (vp_in (0 : Int32) 854) ∧ (wp_X4_told u ((M_s u) (Int32.toNatClampNeg (0 : Int32))) (fun r1 u2 => post r1 u2))
set_option maxHeartbeats 4000000 in
set_option maxRecDepth 100000 in
theorem c_X4_roads (l : Launch) (D : va_G) (cI cS cJ : ClassId) (a : Nat → Nat) (u : Md) (sz : Nat)  {post : Int32 → Md → Prop} (h : wp_X4_roads u post) : Met l yX4_roads (wsA yX4_roads cX4_roads 1 (some .int)) rm_X4_roads (va_Pc [.ref (a 0)] (rwP D (tysA cI cS cJ) (mdW cI a u) sz)) (va_Qi post (fun u9 t => va_P D vwCl ((mdW cI a) u9) t.heap ∧ va_D (va_A (mdW cI a u) sz) ((mdW cI a) u9)) (va_A (mdW cI a u) sz)) 0 0 (va_A (mdW cI a u) sz) := by
  refine mkRWi (wf := (mdW cI a)) (by decide +kernel) (Nat.le_of_ble_eq_true rfl) (fun {p e s m args below meth c Q ls A H0 H locs} hx hb F hts hown hK hP hD hS hA hl hQ => ?_)
  have hown : s.vm.findClass RX4 = some m.cls := hown
  have F : CallFix p m c cX4_roads 1 s args wsT RX4 := F
  have hl : lv_has ls 1 [(0, .ref (a 0))] := hl
  unfold wp_X4_roads at h
  refine lv_aload_n hx hb dX4_roads_0 rfl (lv_at hl 0 rfl) ?_
  refine lv_aload_n hx hb dX4_roads_1 rfl (lv_at hl 0 rfl) ?_
  refine va_get (D := D) (ci := 4) (v := .ref (a 1)) (C := RX4) (T := TX4) (N := 12) hx hb hts inT4 hown hK.k hP 0 rfl rfl 1 (by decide) (hts _ q_820) (fun _ h9 => h9) rfl dX4_roads_2 ?_
  refine lv_iconst (v := (0 : Int32)) hx hb dX4_roads_5 (by decide) ?_
  refine va_iald hx hb hK.k hP 1 0 rfl rfl h.1 dX4_roads_6 ?_
  replace h := h.2
  refine rwVi0 (As := [.int ((M_s u) (Int32.toNatClampNeg (0 : Int32)))]) (rest := []) F (c_X4_told l D cI cS cJ a u H.size ((M_s u) (Int32.toNatClampNeg (0 : Int32))) h) (cw_X4_107 hts (Nat.le_of_ble_eq_true rfl) (Nat.le_of_ble_eq_true rfl)) hK hP hD hS hA (recv (ci := 4) (k0 := 0) hK hP rfl rfl) rfl hl.1 rfl (Nat.le_of_ble_eq_true rfl) dX4_roads_7 ⟨Nat.zero_le _, Nat.zero_le _⟩ (fun r1 u2 H locs h hP hD hS => ?_)
  exact hQ h hP hD hS dX4_roads_10

def wp_X4_inn (u : Md) (p1 : Int32) (p2 : Int32) (post : Int32 → Md → Prop) : Prop :=
  wp_X4_isRoad u p1 (fun r1 => jn (fun (x3 : Int32) => wp_X4_holds u x3 (fun r8 u10 => (r8 = 0 → post (0 : Int32) u10) ∧ (¬ r8 = 0 → wp_X4_innOf u10 p1 p2 (fun r12 => post r12 u10)))) (fun (J5 : Int32 → Prop) => jn (J5 (1 : Int32)) (fun (J13 : Prop) => (r1 = 0 → J13) ∧ (¬ r1 = 0 → wp_X4_in p2 (1 : Int32) (3 : Int32) (fun r17 => (r17 = 0 → J13) ∧ (¬ r17 = 0 → J5 (0 : Int32)))))))
set_option maxHeartbeats 4000000 in
set_option maxRecDepth 100000 in
theorem c_X4_inn (l : Launch) (D : va_G) (cI cS cJ : ClassId) (a : Nat → Nat) (u : Md) (sz : Nat) (p1 : Int32) (p2 : Int32) {post : Int32 → Md → Prop} (h : wp_X4_inn u p1 p2 post) : Met l yX4_inn (wsA yX4_inn cX4_inn 3 (some .int)) rm_X4_inn (va_Pc [.ref (a 0), .int p1, .int p2] (rwP D (tysA cI cS cJ) (mdW cI a u) sz)) (va_Qi post (fun u9 t => va_P D vwCl ((mdW cI a) u9) t.heap ∧ va_D (va_A (mdW cI a u) sz) ((mdW cI a) u9)) (va_A (mdW cI a u) sz)) 0 0 (va_A (mdW cI a u) sz) := by
  refine mkRWi (wf := (mdW cI a)) (by decide +kernel) (Nat.le_of_ble_eq_true rfl) (fun {p e s m args below meth c Q ls A H0 H locs} hx hb F hts hown hK hP hD hS hA hl hQ => ?_)
  have hown : s.vm.findClass RX4 = some m.cls := hown
  have F : CallFix p m c cX4_inn 3 s args wsT RX4 := F
  have hl : lv_has ls 3 [(0, .ref (a 0)), (1, .int p1), (2, .int p2)] := hl
  unfold wp_X4_inn at h
  refine lv_aload_n hx hb dX4_inn_0 rfl (lv_at hl 0 rfl) ?_
  refine lv_aload_n hx hb dX4_inn_1 rfl (lv_at hl 0 rfl) ?_
  refine lv_iload_n hx hb dX4_inn_2 rfl (lv_at hl 1 rfl) ?_
  refine roVi (As := [.int p1]) (rest := [.ref (a 0)]) F (c_X4_isRoad l D cI cS cJ a u H p1 h) (cw_X4_110 hts (Nat.le_of_ble_eq_true rfl) (Nat.le_of_ble_eq_true rfl)) hK hP (recv (ci := 4) (k0 := 0) hK hP rfl rfl) rfl hl.1 rfl (Nat.le_of_ble_eq_true rfl) dX4_inn_3 ⟨Nat.zero_le _, Nat.zero_le _⟩ (fun r1 h => ?_)
  obtain ⟨b2, h⟩ := h
  refine jn_e h (fun J5 e7 h => ?_)
  have w6 : ∀ (x3 : Int32) (ls : Array Slot) (H : Heap) (locs : List Loc), bz x3 → lv_has ls 3 [(0, .ref (a 0)), (1, .int p1), (2, .int p2)] → va_P D vwCl (mdW cI a u) H → va_D A (mdW cI a u) → va_S A H0 H locs → J5 x3 → W p l e rm_X4_inn s m args below meth c H locs 0 0 Q (F0 m 23 ls [.int x3, .ref (a 0)]) := by
    intro x3 ls H locs b4 hl hP hD hS h
    subst e7
    refine rwVi0 (As := [.int x3]) (rest := []) F (c_X4_holds l D cI cS cJ a u H.size x3 h) (cw_X4_86 hts (Nat.le_of_ble_eq_true rfl) (Nat.le_of_ble_eq_true rfl)) hK hP hD hS hA (recv (ci := 4) (k0 := 0) hK hP rfl rfl) rfl hl.1 rfl (Nat.le_of_ble_eq_true rfl) dX4_inn_23 ⟨Nat.zero_le _, Nat.zero_le _⟩ (fun r8 u10 H locs h hP hD hS => ?_)
    obtain ⟨b9, h⟩ := h
    refine lv_if_eq (tgt := 38) hx hb dX4_inn_26 (by decide) (fun c11 => ?_) (fun c11 => ?_)
    · replace h := h.1 c11
      refine lv_iconst (v := (0 : Int32)) hx hb dX4_inn_38 (by decide) ?_
      exact hQ h hP hD hS dX4_inn_39
    · replace h := h.2 c11
      refine lv_aload_n hx hb dX4_inn_29 rfl (lv_at hl 0 rfl) ?_
      refine lv_iload_n hx hb dX4_inn_30 rfl (lv_at hl 1 rfl) ?_
      refine lv_iload_n hx hb dX4_inn_31 rfl (lv_at hl 2 rfl) ?_
      refine roVi (As := [.int p1, .int p2]) (rest := []) F (c_X4_innOf l D cI cS cJ a u10 H p1 p2 h) (cw_X4_24 hts (Nat.le_of_ble_eq_true rfl) (Nat.le_of_ble_eq_true rfl)) hK hP (recv (ci := 4) (k0 := 0) hK hP rfl rfl) rfl hl.1 rfl (Nat.le_of_ble_eq_true rfl) dX4_inn_32 ⟨Nat.zero_le _, Nat.zero_le _⟩ (fun r12 h => ?_)
      refine lv_goto (tgt := 39) hx hb dX4_inn_35 (by decide) ?_
      exact hQ h hP hD hS dX4_inn_39
  clear e7
  refine jn_e h (fun J13 e15 h => ?_)
  have w14 : ∀  (ls : Array Slot) (H : Heap) (locs : List Loc), lv_has ls 3 [(0, .ref (a 0)), (1, .int p1), (2, .int p2)] → va_P D vwCl (mdW cI a u) H → va_D A (mdW cI a u) → va_S A H0 H locs → J13 → W p l e rm_X4_inn s m args below meth c H locs 0 0 Q (F0 m 22 ls [.ref (a 0)]) := by
    intro ls H locs hl hP hD hS h
    subst e15
    refine lv_iconst (v := (1 : Int32)) hx hb dX4_inn_22 (by decide) ?_
    exact w6 (1 : Int32) _ _ _ bz1 hl hP hD hS h
  clear e15
  refine lv_if_eq (tgt := 22) hx hb dX4_inn_6 (by decide) (fun c16 => ?_) (fun c16 => ?_)
  · replace h := h.1 c16
    exact w14 _ _ _ hl hP hD hS h
  · replace h := h.2 c16
    refine lv_iload_n hx hb dX4_inn_9 rfl (lv_at hl 2 rfl) ?_
    refine lv_iconst (v := (1 : Int32)) hx hb dX4_inn_10 (by decide) ?_
    refine lv_iconst (v := (3 : Int32)) hx hb dX4_inn_11 (by decide) ?_
    refine roSi (As := [.int p2, .int (1 : Int32), .int (3 : Int32)]) (rest := [.ref (a 0)]) F (c_X4_in l D cI cS cJ H p2 (1 : Int32) (3 : Int32) h) (cw_X4_20 hts (Nat.le_of_ble_eq_true rfl) (Nat.le_of_ble_eq_true rfl)) hK vP_nil rfl hl.1 rfl (Nat.le_of_ble_eq_true rfl) dX4_inn_12 ⟨Nat.zero_le _, Nat.zero_le _⟩ (fun r17 h => ?_)
    obtain ⟨b18, h⟩ := h
    refine lv_if_eq (tgt := 22) hx hb dX4_inn_15 (by decide) (fun c19 => ?_) (fun c19 => ?_)
    · replace h := h.1 c19
      exact w14 _ _ _ hl hP hD hS h
    · replace h := h.2 c19
      refine lv_iconst (v := (0 : Int32)) hx hb dX4_inn_18 (by decide) ?_
      refine lv_goto (tgt := 23) hx hb dX4_inn_19 (by decide) ?_
      exact w6 (0 : Int32) _ _ _ bz0 hl hP hD hS h

def wp_X4_hall (u : Md) (p1 : Int32) (post : Int32 → Md → Prop) : Prop :=
  wp_X4_isRoad u p1 (fun r1 => jn (fun (x3 : Int32) => wp_X4_holds u x3 (fun r8 u10 => (r8 = 0 → post (0 : Int32) u10) ∧ (¬ r8 = 0 → wp_X4_hallOf u10 p1 (fun r12 => post r12 u10)))) (fun (J5 : Int32 → Prop) => (r1 = 0 → J5 (1 : Int32)) ∧ (¬ r1 = 0 → J5 (0 : Int32))))
set_option maxHeartbeats 4000000 in
set_option maxRecDepth 100000 in
theorem c_X4_hall (l : Launch) (D : va_G) (cI cS cJ : ClassId) (a : Nat → Nat) (u : Md) (sz : Nat) (p1 : Int32) {post : Int32 → Md → Prop} (h : wp_X4_hall u p1 post) : Met l yX4_hall (wsA yX4_hall cX4_hall 2 (some .int)) rm_X4_hall (va_Pc [.ref (a 0), .int p1] (rwP D (tysA cI cS cJ) (mdW cI a u) sz)) (va_Qi post (fun u9 t => va_P D vwCl ((mdW cI a) u9) t.heap ∧ va_D (va_A (mdW cI a u) sz) ((mdW cI a) u9)) (va_A (mdW cI a u) sz)) 0 0 (va_A (mdW cI a u) sz) := by
  refine mkRWi (wf := (mdW cI a)) (by decide +kernel) (Nat.le_of_ble_eq_true rfl) (fun {p e s m args below meth c Q ls A H0 H locs} hx hb F hts hown hK hP hD hS hA hl hQ => ?_)
  have hown : s.vm.findClass RX4 = some m.cls := hown
  have F : CallFix p m c cX4_hall 2 s args wsT RX4 := F
  have hl : lv_has ls 2 [(0, .ref (a 0)), (1, .int p1)] := hl
  unfold wp_X4_hall at h
  refine lv_aload_n hx hb dX4_hall_0 rfl (lv_at hl 0 rfl) ?_
  refine lv_aload_n hx hb dX4_hall_1 rfl (lv_at hl 0 rfl) ?_
  refine lv_iload_n hx hb dX4_hall_2 rfl (lv_at hl 1 rfl) ?_
  refine roVi (As := [.int p1]) (rest := [.ref (a 0)]) F (c_X4_isRoad l D cI cS cJ a u H p1 h) (cw_X4_110 hts (Nat.le_of_ble_eq_true rfl) (Nat.le_of_ble_eq_true rfl)) hK hP (recv (ci := 4) (k0 := 0) hK hP rfl rfl) rfl hl.1 rfl (Nat.le_of_ble_eq_true rfl) dX4_hall_3 ⟨Nat.zero_le _, Nat.zero_le _⟩ (fun r1 h => ?_)
  obtain ⟨b2, h⟩ := h
  refine jn_e h (fun J5 e7 h => ?_)
  have w6 : ∀ (x3 : Int32) (ls : Array Slot) (H : Heap) (locs : List Loc), bz x3 → lv_has ls 2 [(0, .ref (a 0)), (1, .int p1)] → va_P D vwCl (mdW cI a u) H → va_D A (mdW cI a u) → va_S A H0 H locs → J5 x3 → W p l e rm_X4_hall s m args below meth c H locs 0 0 Q (F0 m 14 ls [.int x3, .ref (a 0)]) := by
    intro x3 ls H locs b4 hl hP hD hS h
    subst e7
    refine rwVi0 (As := [.int x3]) (rest := []) F (c_X4_holds l D cI cS cJ a u H.size x3 h) (cw_X4_86 hts (Nat.le_of_ble_eq_true rfl) (Nat.le_of_ble_eq_true rfl)) hK hP hD hS hA (recv (ci := 4) (k0 := 0) hK hP rfl rfl) rfl hl.1 rfl (Nat.le_of_ble_eq_true rfl) dX4_hall_14 ⟨Nat.zero_le _, Nat.zero_le _⟩ (fun r8 u10 H locs h hP hD hS => ?_)
    obtain ⟨b9, h⟩ := h
    refine lv_if_eq (tgt := 28) hx hb dX4_hall_17 (by decide) (fun c11 => ?_) (fun c11 => ?_)
    · replace h := h.1 c11
      refine lv_iconst (v := (0 : Int32)) hx hb dX4_hall_28 (by decide) ?_
      exact hQ h hP hD hS dX4_hall_29
    · replace h := h.2 c11
      refine lv_aload_n hx hb dX4_hall_20 rfl (lv_at hl 0 rfl) ?_
      refine lv_iload_n hx hb dX4_hall_21 rfl (lv_at hl 1 rfl) ?_
      refine roVi (As := [.int p1]) (rest := []) F (c_X4_hallOf l D cI cS cJ a u10 H p1 h) (cw_X4_49 hts (Nat.le_of_ble_eq_true rfl) (Nat.le_of_ble_eq_true rfl)) hK hP (recv (ci := 4) (k0 := 0) hK hP rfl rfl) rfl hl.1 rfl (Nat.le_of_ble_eq_true rfl) dX4_hall_22 ⟨Nat.zero_le _, Nat.zero_le _⟩ (fun r12 h => ?_)
      refine lv_goto (tgt := 29) hx hb dX4_hall_25 (by decide) ?_
      exact hQ h hP hD hS dX4_hall_29
  clear e7
  refine lv_if_eq (tgt := 13) hx hb dX4_hall_6 (by decide) (fun c13 => ?_) (fun c13 => ?_)
  · replace h := h.1 c13
    refine lv_iconst (v := (1 : Int32)) hx hb dX4_hall_13 (by decide) ?_
    exact w6 (1 : Int32) _ _ _ bz1 hl hP hD hS h
  · replace h := h.2 c13
    refine lv_iconst (v := (0 : Int32)) hx hb dX4_hall_9 (by decide) ?_
    refine lv_goto (tgt := 14) hx hb dX4_hall_10 (by decide) ?_
    exact w6 (0 : Int32) _ _ _ bz0 hl hP hD hS h

def wp_X4_stands (u : Md) (p1 : Int32) (post : Int32 → Md → Prop) : Prop :=
  wp_X4_isRoad u p1 (fun r1 => jn (fun (x3 : Int32) => wp_X4_holds u x3 (fun r8 u10 => (r8 = 0 → post (0 : Int32) u10) ∧ (¬ r8 = 0 → wp_X4_standsNow u10 p1 (fun r12 => (r12 = 0 → post (0 : Int32) u10) ∧ (¬ r12 = 0 → post (1 : Int32) u10))))) (fun (J5 : Int32 → Prop) => (r1 = 0 → J5 (1 : Int32)) ∧ (¬ r1 = 0 → J5 (0 : Int32))))
set_option maxHeartbeats 4000000 in
set_option maxRecDepth 100000 in
theorem c_X4_stands (l : Launch) (D : va_G) (cI cS cJ : ClassId) (a : Nat → Nat) (u : Md) (sz : Nat) (p1 : Int32) {post : Int32 → Md → Prop} (h : wp_X4_stands u p1 post) : Met l yX4_stands (wsA yX4_stands cX4_stands 2 (some .boolean)) rm_X4_stands (va_Pc [.ref (a 0), .int p1] (rwP D (tysA cI cS cJ) (mdW cI a u) sz)) (va_Qi (fun r u9 => bz r ∧ post r u9) (fun u9 t => va_P D vwCl ((mdW cI a) u9) t.heap ∧ va_D (va_A (mdW cI a u) sz) ((mdW cI a) u9)) (va_A (mdW cI a u) sz)) 0 0 (va_A (mdW cI a u) sz) := by
  refine mkRWz (wf := (mdW cI a)) (by decide +kernel) (Nat.le_of_ble_eq_true rfl) (fun {p e s m args below meth c Q ls A H0 H locs} hx hb F hts hown hK hP hD hS hA hl hQ => ?_)
  have hown : s.vm.findClass RX4 = some m.cls := hown
  have F : CallFix p m c cX4_stands 2 s args wsT RX4 := F
  have hl : lv_has ls 2 [(0, .ref (a 0)), (1, .int p1)] := hl
  unfold wp_X4_stands at h
  refine lv_aload_n hx hb dX4_stands_0 rfl (lv_at hl 0 rfl) ?_
  refine lv_aload_n hx hb dX4_stands_1 rfl (lv_at hl 0 rfl) ?_
  refine lv_iload_n hx hb dX4_stands_2 rfl (lv_at hl 1 rfl) ?_
  refine roVi (As := [.int p1]) (rest := [.ref (a 0)]) F (c_X4_isRoad l D cI cS cJ a u H p1 h) (cw_X4_110 hts (Nat.le_of_ble_eq_true rfl) (Nat.le_of_ble_eq_true rfl)) hK hP (recv (ci := 4) (k0 := 0) hK hP rfl rfl) rfl hl.1 rfl (Nat.le_of_ble_eq_true rfl) dX4_stands_3 ⟨Nat.zero_le _, Nat.zero_le _⟩ (fun r1 h => ?_)
  obtain ⟨b2, h⟩ := h
  refine jn_e h (fun J5 e7 h => ?_)
  have w6 : ∀ (x3 : Int32) (ls : Array Slot) (H : Heap) (locs : List Loc), bz x3 → lv_has ls 2 [(0, .ref (a 0)), (1, .int p1)] → va_P D vwCl (mdW cI a u) H → va_D A (mdW cI a u) → va_S A H0 H locs → J5 x3 → W p l e rm_X4_stands s m args below meth c H locs 0 0 Q (F0 m 14 ls [.int x3, .ref (a 0)]) := by
    intro x3 ls H locs b4 hl hP hD hS h
    subst e7
    refine rwVi0 (As := [.int x3]) (rest := []) F (c_X4_holds l D cI cS cJ a u H.size x3 h) (cw_X4_86 hts (Nat.le_of_ble_eq_true rfl) (Nat.le_of_ble_eq_true rfl)) hK hP hD hS hA (recv (ci := 4) (k0 := 0) hK hP rfl rfl) rfl hl.1 rfl (Nat.le_of_ble_eq_true rfl) dX4_stands_14 ⟨Nat.zero_le _, Nat.zero_le _⟩ (fun r8 u10 H locs h hP hD hS => ?_)
    obtain ⟨b9, h⟩ := h
    refine lv_if_eq (tgt := 32) hx hb dX4_stands_17 (by decide) (fun c11 => ?_) (fun c11 => ?_)
    · replace h := h.1 c11
      refine lv_iconst (v := (0 : Int32)) hx hb dX4_stands_32 (by decide) ?_
      exact hQ bz0 h hP hD hS dX4_stands_33
    · replace h := h.2 c11
      refine lv_aload_n hx hb dX4_stands_20 rfl (lv_at hl 0 rfl) ?_
      refine lv_iload_n hx hb dX4_stands_21 rfl (lv_at hl 1 rfl) ?_
      refine roVi (As := [.int p1]) (rest := []) F (c_X4_standsNow l D cI cS cJ a u10 H p1 h) (cw_X4_113 hts (Nat.le_of_ble_eq_true rfl) (Nat.le_of_ble_eq_true rfl)) hK hP (recv (ci := 4) (k0 := 0) hK hP rfl rfl) rfl hl.1 rfl (Nat.le_of_ble_eq_true rfl) dX4_stands_22 ⟨Nat.zero_le _, Nat.zero_le _⟩ (fun r12 h => ?_)
      obtain ⟨b13, h⟩ := h
      refine lv_if_eq (tgt := 32) hx hb dX4_stands_25 (by decide) (fun c14 => ?_) (fun c14 => ?_)
      · replace h := h.1 c14
        refine lv_iconst (v := (0 : Int32)) hx hb dX4_stands_32 (by decide) ?_
        exact hQ bz0 h hP hD hS dX4_stands_33
      · replace h := h.2 c14
        refine lv_iconst (v := (1 : Int32)) hx hb dX4_stands_28 (by decide) ?_
        refine lv_goto (tgt := 33) hx hb dX4_stands_29 (by decide) ?_
        exact hQ bz1 h hP hD hS dX4_stands_33
  clear e7
  refine lv_if_eq (tgt := 13) hx hb dX4_stands_6 (by decide) (fun c15 => ?_) (fun c15 => ?_)
  · replace h := h.1 c15
    refine lv_iconst (v := (1 : Int32)) hx hb dX4_stands_13 (by decide) ?_
    exact w6 (1 : Int32) _ _ _ bz1 hl hP hD hS h
  · replace h := h.2 c15
    refine lv_iconst (v := (0 : Int32)) hx hb dX4_stands_9 (by decide) ?_
    refine lv_goto (tgt := 14) hx hb dX4_stands_10 (by decide) ?_
    exact w6 (0 : Int32) _ _ _ bz0 hl hP hD hS h

def wp_X4_seen (u : Md) (p1 : Int32) (p2 : Int32) (p3 : Int32) (post : Int32 → Prop) : Prop :=
  wp_X4_placeOn u p1 p2 (fun r1 => (¬ r1 = 0 → jn (fun (x3 : Int32) => (¬ x3 = 0 → (¬ x3 = (4 : Int32) → wp_X4_innOf u p2 x3 (fun r9 => post r9)) ∧ (x3 = (4 : Int32) → wp_X4_hallOf u p2 (fun r10 => post ((10 : Int32) + r10)))) ∧ (x3 = 0 → post (8 : Int32))) (fun (J4 : Int32 → Prop) => (¬ p3 = 0 → J4 (r1 + (1 : Int32))) ∧ (p3 = 0 → J4 (r1 - (1 : Int32))))) ∧ (r1 = 0 → post (-1 : Int32)))
set_option maxHeartbeats 4000000 in
set_option maxRecDepth 100000 in
theorem c_X4_seen (l : Launch) (D : va_G) (cI cS cJ : ClassId) (a : Nat → Nat) (u : Md) (H0 : Heap) (p1 : Int32) (p2 : Int32) (p3 : Int32) {post : Int32 → Prop} (h : wp_X4_seen u p1 p2 p3 post) : Met l yX4_seen (wsA yX4_seen cX4_seen 6 (some .int)) rm_X4_seen (va_Pc [.ref (a 0), .int p1, .int p2, .int p3] (roP D (tysA cI cS cJ) (mdW cI a u) H0)) (va_Qi (fun r (_ : Unit) => post r) (fun _ t => t.heap = H0) nF) 0 0 nF := by
  refine mkROi (by decide +kernel) (Nat.le_of_ble_eq_true rfl) (fun {p e s m args below meth c Q ls} hx hb F hts hown hK hP hl hQ => ?_)
  have hown : s.vm.findClass RX4 = some m.cls := hown
  have F : CallFix p m c cX4_seen 6 s args wsT RX4 := F
  have hl : lv_has ls 6 [(0, .ref (a 0)), (1, .int p1), (2, .int p2), (3, .int p3)] := hl
  unfold wp_X4_seen at h
  refine lv_aload_n hx hb dX4_seen_0 rfl (lv_at hl 0 rfl) ?_
  refine lv_iload_n hx hb dX4_seen_1 rfl (lv_at hl 1 rfl) ?_
  refine lv_iload_n hx hb dX4_seen_2 rfl (lv_at hl 2 rfl) ?_
  refine roVi (As := [.int p1, .int p2]) (rest := []) F (c_X4_placeOn l D cI cS cJ a u H0 p1 p2 h) (cw_X4_116 hts (Nat.le_of_ble_eq_true rfl) (Nat.le_of_ble_eq_true rfl)) hK hP (recv (ci := 4) (k0 := 0) hK hP rfl rfl) rfl hl.1 rfl (Nat.le_of_ble_eq_true rfl) dX4_seen_3 ⟨Nat.zero_le _, Nat.zero_le _⟩ (fun r1 h => ?_)
  refine lv_istore (lv' := [(4, .int r1), (0, .ref (a 0)), (1, .int p1), (2, .int p2), (3, .int p3)]) hx hb dX4_seen_6 hl (by decide) rfl (fun ls hl => ?_)
  refine lv_iload hx hb dX4_seen_8 (lv_at hl 0 rfl) ?_
  refine lv_if_ne (tgt := 15) hx hb dX4_seen_10 (by decide) (fun c2 => ?_) (fun c2 => ?_)
  · replace h := h.1 c2
    refine lv_iload_n hx hb dX4_seen_15 rfl (lv_at hl 4 rfl) ?_
    refine jn_e h (fun J4 e6 h => ?_)
    have w5 : ∀ (x3 : Int32) (ls : Array Slot), lv_has ls 6 [(0, .ref (a 0)), (2, .int p2)] → J4 x3 → W p l e rm_X4_seen s m args below meth c H0 [] 0 0 Q (F0 m 30 ls [.int x3]) := by
      intro x3 ls hl h
      subst e6
      refine lv_istore (lv' := [(5, .int x3), (0, .ref (a 0)), (2, .int p2)]) hx hb dX4_seen_30 hl (by decide) rfl (fun ls hl => ?_)
      refine lv_iload hx hb dX4_seen_32 (lv_at hl 0 rfl) ?_
      refine lv_if_ne (tgt := 42) hx hb dX4_seen_34 (by decide) (fun c7 => ?_) (fun c7 => ?_)
      · replace h := h.1 c7
        refine lv_iload hx hb dX4_seen_42 (lv_at hl 0 rfl) ?_
        refine lv_iconst (v := (4 : Int32)) hx hb dX4_seen_44 (by decide) ?_
        refine lv_icmp_ne (tgt := 59) hx hb dX4_seen_45 (by decide) (fun c8 => ?_) (fun c8 => ?_)
        · replace h := h.1 c8
          refine lv_aload_n hx hb dX4_seen_59 rfl (lv_at hl 1 rfl) ?_
          refine lv_iload_n hx hb dX4_seen_60 rfl (lv_at hl 2 rfl) ?_
          refine lv_iload hx hb dX4_seen_61 (lv_at hl 0 rfl) ?_
          refine roVi (As := [.int p2, .int x3]) (rest := []) F (c_X4_innOf l D cI cS cJ a u H0 p2 x3 h) (cw_X4_24 hts (Nat.le_of_ble_eq_true rfl) (Nat.le_of_ble_eq_true rfl)) hK hP (recv (ci := 4) (k0 := 0) hK hP rfl rfl) rfl hl.1 rfl (Nat.le_of_ble_eq_true rfl) dX4_seen_63 ⟨Nat.zero_le _, Nat.zero_le _⟩ (fun r9 h => ?_)
          exact hQ h dX4_seen_66
        · replace h := h.2 c8
          refine lv_bipush (v := (10 : Int32)) hx hb dX4_seen_48 (by decide) ?_
          refine lv_aload_n hx hb dX4_seen_50 rfl (lv_at hl 1 rfl) ?_
          refine lv_iload_n hx hb dX4_seen_51 rfl (lv_at hl 2 rfl) ?_
          refine roVi (As := [.int p2]) (rest := [.int (10 : Int32)]) F (c_X4_hallOf l D cI cS cJ a u H0 p2 h) (cw_X4_49 hts (Nat.le_of_ble_eq_true rfl) (Nat.le_of_ble_eq_true rfl)) hK hP (recv (ci := 4) (k0 := 0) hK hP rfl rfl) rfl hl.1 rfl (Nat.le_of_ble_eq_true rfl) dX4_seen_52 ⟨Nat.zero_le _, Nat.zero_le _⟩ (fun r10 h => ?_)
          refine lv_iadd hx hb dX4_seen_55 ?_
          refine lv_goto (tgt := 66) hx hb dX4_seen_56 (by decide) ?_
          exact hQ h dX4_seen_66
      · replace h := h.2 c7
        refine lv_bipush (v := (8 : Int32)) hx hb dX4_seen_37 (by decide) ?_
        refine lv_goto (tgt := 66) hx hb dX4_seen_39 (by decide) ?_
        exact hQ h dX4_seen_66
    clear e6
    refine lv_if_ne (tgt := 26) hx hb dX4_seen_16 (by decide) (fun c11 => ?_) (fun c11 => ?_)
    · replace h := h.1 c11
      refine lv_iload hx hb dX4_seen_26 (lv_at hl 0 rfl) ?_
      refine lv_iconst (v := (1 : Int32)) hx hb dX4_seen_28 (by decide) ?_
      refine lv_iadd hx hb dX4_seen_29 ?_
      exact w5 (r1 + (1 : Int32)) _ (lv_sub hl [1, 3] rfl) h
    · replace h := h.2 c11
      refine lv_iload hx hb dX4_seen_19 (lv_at hl 0 rfl) ?_
      refine lv_iconst (v := (1 : Int32)) hx hb dX4_seen_21 (by decide) ?_
      refine lv_isub hx hb dX4_seen_22 ?_
      refine lv_goto (tgt := 30) hx hb dX4_seen_23 (by decide) ?_
      exact w5 (r1 - (1 : Int32)) _ (lv_sub hl [1, 3] rfl) h
  · replace h := h.2 c2
    refine lv_iconst (v := (-1 : Int32)) hx hb dX4_seen_13 (by decide) ?_
    exact hQ h dX4_seen_14

def wp_X4_see (u : Md) (p1 : Int32) (p2 : Int32) (p3 : Int32) (post : Int32 → Md → Prop) : Prop :=
  wp_X4_isInn p1 (fun r1 => jn (fun (x3 : Int32) => wp_X4_holds u x3 (fun r8 u10 => (r8 = 0 → post (0 : Int32) u10) ∧ (¬ r8 = 0 → wp_X4_seen u10 p1 p2 p3 (fun r12 => post r12 u10)))) (fun (J5 : Int32 → Prop) => jn (J5 (1 : Int32)) (fun (J13 : Prop) => (r1 = 0 → J13) ∧ (¬ r1 = 0 → wp_X4_isRoad u p2 (fun r17 => (r17 = 0 → J13) ∧ (¬ r17 = 0 → wp_X4_in p3 (0 : Int32) (1 : Int32) (fun r20 => (r20 = 0 → J13) ∧ (¬ r20 = 0 → J5 (0 : Int32)))))))))
set_option maxHeartbeats 4000000 in
set_option maxRecDepth 100000 in
theorem c_X4_see (l : Launch) (D : va_G) (cI cS cJ : ClassId) (a : Nat → Nat) (u : Md) (sz : Nat) (p1 : Int32) (p2 : Int32) (p3 : Int32) {post : Int32 → Md → Prop} (h : wp_X4_see u p1 p2 p3 post) : Met l yX4_see (wsA yX4_see cX4_see 4 (some .int)) rm_X4_see (va_Pc [.ref (a 0), .int p1, .int p2, .int p3] (rwP D (tysA cI cS cJ) (mdW cI a u) sz)) (va_Qi post (fun u9 t => va_P D vwCl ((mdW cI a) u9) t.heap ∧ va_D (va_A (mdW cI a u) sz) ((mdW cI a) u9)) (va_A (mdW cI a u) sz)) 0 0 (va_A (mdW cI a u) sz) := by
  refine mkRWi (wf := (mdW cI a)) (by decide +kernel) (Nat.le_of_ble_eq_true rfl) (fun {p e s m args below meth c Q ls A H0 H locs} hx hb F hts hown hK hP hD hS hA hl hQ => ?_)
  have hown : s.vm.findClass RX4 = some m.cls := hown
  have F : CallFix p m c cX4_see 4 s args wsT RX4 := F
  have hl : lv_has ls 4 [(0, .ref (a 0)), (1, .int p1), (2, .int p2), (3, .int p3)] := hl
  unfold wp_X4_see at h
  refine lv_aload_n hx hb dX4_see_0 rfl (lv_at hl 0 rfl) ?_
  refine lv_iload_n hx hb dX4_see_1 rfl (lv_at hl 1 rfl) ?_
  refine roSi (As := [.int p1]) (rest := [.ref (a 0)]) F (c_X4_isInn l D cI cS cJ H p1 h) (cw_X4_83 hts (Nat.le_of_ble_eq_true rfl) (Nat.le_of_ble_eq_true rfl)) hK vP_nil rfl hl.1 rfl (Nat.le_of_ble_eq_true rfl) dX4_see_2 ⟨Nat.zero_le _, Nat.zero_le _⟩ (fun r1 h => ?_)
  obtain ⟨b2, h⟩ := h
  refine jn_e h (fun J5 e7 h => ?_)
  have w6 : ∀ (x3 : Int32) (ls : Array Slot) (H : Heap) (locs : List Loc), bz x3 → lv_has ls 4 [(0, .ref (a 0)), (1, .int p1), (2, .int p2), (3, .int p3)] → va_P D vwCl (mdW cI a u) H → va_D A (mdW cI a u) → va_S A H0 H locs → J5 x3 → W p l e rm_X4_see s m args below meth c H locs 0 0 Q (F0 m 30 ls [.int x3, .ref (a 0)]) := by
    intro x3 ls H locs b4 hl hP hD hS h
    subst e7
    refine rwVi0 (As := [.int x3]) (rest := []) F (c_X4_holds l D cI cS cJ a u H.size x3 h) (cw_X4_86 hts (Nat.le_of_ble_eq_true rfl) (Nat.le_of_ble_eq_true rfl)) hK hP hD hS hA (recv (ci := 4) (k0 := 0) hK hP rfl rfl) rfl hl.1 rfl (Nat.le_of_ble_eq_true rfl) dX4_see_30 ⟨Nat.zero_le _, Nat.zero_le _⟩ (fun r8 u10 H locs h hP hD hS => ?_)
    obtain ⟨b9, h⟩ := h
    refine lv_if_eq (tgt := 46) hx hb dX4_see_33 (by decide) (fun c11 => ?_) (fun c11 => ?_)
    · replace h := h.1 c11
      refine lv_iconst (v := (0 : Int32)) hx hb dX4_see_46 (by decide) ?_
      exact hQ h hP hD hS dX4_see_47
    · replace h := h.2 c11
      refine lv_aload_n hx hb dX4_see_36 rfl (lv_at hl 0 rfl) ?_
      refine lv_iload_n hx hb dX4_see_37 rfl (lv_at hl 1 rfl) ?_
      refine lv_iload_n hx hb dX4_see_38 rfl (lv_at hl 2 rfl) ?_
      refine lv_iload_n hx hb dX4_see_39 rfl (lv_at hl 3 rfl) ?_
      refine roVi (As := [.int p1, .int p2, .int p3]) (rest := []) F (c_X4_seen l D cI cS cJ a u10 H p1 p2 p3 h) (cw_X4_119 hts (Nat.le_of_ble_eq_true rfl) (Nat.le_of_ble_eq_true rfl)) hK hP (recv (ci := 4) (k0 := 0) hK hP rfl rfl) rfl hl.1 rfl (Nat.le_of_ble_eq_true rfl) dX4_see_40 ⟨Nat.zero_le _, Nat.zero_le _⟩ (fun r12 h => ?_)
      refine lv_goto (tgt := 47) hx hb dX4_see_43 (by decide) ?_
      exact hQ h hP hD hS dX4_see_47
  clear e7
  refine jn_e h (fun J13 e15 h => ?_)
  have w14 : ∀  (ls : Array Slot) (H : Heap) (locs : List Loc), lv_has ls 4 [(0, .ref (a 0)), (1, .int p1), (2, .int p2), (3, .int p3)] → va_P D vwCl (mdW cI a u) H → va_D A (mdW cI a u) → va_S A H0 H locs → J13 → W p l e rm_X4_see s m args below meth c H locs 0 0 Q (F0 m 29 ls [.ref (a 0)]) := by
    intro ls H locs hl hP hD hS h
    subst e15
    refine lv_iconst (v := (1 : Int32)) hx hb dX4_see_29 (by decide) ?_
    exact w6 (1 : Int32) _ _ _ bz1 hl hP hD hS h
  clear e15
  refine lv_if_eq (tgt := 29) hx hb dX4_see_5 (by decide) (fun c16 => ?_) (fun c16 => ?_)
  · replace h := h.1 c16
    exact w14 _ _ _ hl hP hD hS h
  · replace h := h.2 c16
    refine lv_aload_n hx hb dX4_see_8 rfl (lv_at hl 0 rfl) ?_
    refine lv_iload_n hx hb dX4_see_9 rfl (lv_at hl 2 rfl) ?_
    refine roVi (As := [.int p2]) (rest := [.ref (a 0)]) F (c_X4_isRoad l D cI cS cJ a u H p2 h) (cw_X4_110 hts (Nat.le_of_ble_eq_true rfl) (Nat.le_of_ble_eq_true rfl)) hK hP (recv (ci := 4) (k0 := 0) hK hP rfl rfl) rfl hl.1 rfl (Nat.le_of_ble_eq_true rfl) dX4_see_10 ⟨Nat.zero_le _, Nat.zero_le _⟩ (fun r17 h => ?_)
    obtain ⟨b18, h⟩ := h
    refine lv_if_eq (tgt := 29) hx hb dX4_see_13 (by decide) (fun c19 => ?_) (fun c19 => ?_)
    · replace h := h.1 c19
      exact w14 _ _ _ hl hP hD hS h
    · replace h := h.2 c19
      refine lv_iload_n hx hb dX4_see_16 rfl (lv_at hl 3 rfl) ?_
      refine lv_iconst (v := (0 : Int32)) hx hb dX4_see_17 (by decide) ?_
      refine lv_iconst (v := (1 : Int32)) hx hb dX4_see_18 (by decide) ?_
      refine roSi (As := [.int p3, .int (0 : Int32), .int (1 : Int32)]) (rest := [.ref (a 0)]) F (c_X4_in l D cI cS cJ H p3 (0 : Int32) (1 : Int32) h) (cw_X4_20 hts (Nat.le_of_ble_eq_true rfl) (Nat.le_of_ble_eq_true rfl)) hK vP_nil rfl hl.1 rfl (Nat.le_of_ble_eq_true rfl) dX4_see_19 ⟨Nat.zero_le _, Nat.zero_le _⟩ (fun r20 h => ?_)
      obtain ⟨b21, h⟩ := h
      refine lv_if_eq (tgt := 29) hx hb dX4_see_22 (by decide) (fun c22 => ?_) (fun c22 => ?_)
      · replace h := h.1 c22
        exact w14 _ _ _ hl hP hD hS h
      · replace h := h.2 c22
        refine lv_iconst (v := (0 : Int32)) hx hb dX4_see_25 (by decide) ?_
        refine lv_goto (tgt := 30) hx hb dX4_see_26 (by decide) ?_
        exact w6 (0 : Int32) _ _ _ bz0 hl hP hD hS h

def wp_X4_knownTo (u : Md) (p1 : Int32) (post : Int32 → Prop) : Prop :=
  LP2 (fun (K3 : Int32 → Int32 → Prop) (x1 : Int32) (x2 : Int32) => (vp_in (0 : Int32) 854) ∧ ((((2 : Int32) * ((M_s u) (Int32.toNatClampNeg (0 : Int32)))) ≤ x2 → post x1) ∧ (¬ ((2 : Int32) * ((M_s u) (Int32.toNatClampNeg (0 : Int32)))) ≤ x2 → wp_X4_seen u p1 (x2 / (2 : Int32)) (x2 - x2 / (2 : Int32) * (2 : Int32)) (fun r6 => wp_X4_isInn r6 (fun r7 => jn (fun (x9 : Int32) => K3 (x1 ||| x9) (x2 + 1)) (fun (J10 : Int32 → Prop) => (r7 = 0 → J10 (0 : Int32)) ∧ (¬ r7 = 0 → J10 ((1 : Int32) <<< (r6 &&& 31))))))))) (0 : Int32) (0 : Int32)
set_option maxHeartbeats 4000000 in
set_option maxRecDepth 100000 in
theorem c_X4_knownTo (l : Launch) (D : va_G) (cI cS cJ : ClassId) (a : Nat → Nat) (u : Md) (H0 : Heap) (p1 : Int32) {post : Int32 → Prop} (h : wp_X4_knownTo u p1 post) : Met l yX4_knownTo (wsA yX4_knownTo cX4_knownTo 5 (some .int)) rm_X4_knownTo (va_Pc [.ref (a 0), .int p1] (roP D (tysA cI cS cJ) (mdW cI a u) H0)) (va_Qi (fun r (_ : Unit) => post r) (fun _ t => t.heap = H0) nF) 0 0 nF := by
  refine mkROi (by decide +kernel) (Nat.le_of_ble_eq_true rfl) (fun {p e s m args below meth c Q ls} hx hb F hts hown hK hP hl hQ => ?_)
  have hown : s.vm.findClass RX4 = some m.cls := hown
  have F : CallFix p m c cX4_knownTo 5 s args wsT RX4 := F
  have hl : lv_has ls 5 [(0, .ref (a 0)), (1, .int p1)] := hl
  unfold wp_X4_knownTo at h
  refine lv_iconst (v := (0 : Int32)) hx hb dX4_knownTo_0 (by decide) ?_
  refine lv_istore_n (lv' := [(2, .int (0 : Int32)), (0, .ref (a 0)), (1, .int p1)]) hx hb dX4_knownTo_1 rfl hl (by decide) rfl (fun ls hl => ?_)
  refine lv_iconst (v := (0 : Int32)) hx hb dX4_knownTo_2 (by decide) ?_
  refine lv_istore_n (lv' := [(3, .int (0 : Int32)), (2, .int (0 : Int32)), (0, .ref (a 0)), (1, .int p1)]) hx hb dX4_knownTo_3 rfl hl (by decide) rfl (fun ls hl => ?_)
  refine lpu2 h (fun K3 : Int32 → Int32 → Prop => ∀ (x1 : Int32) (x2 : Int32) (ls : Array Slot), lv_has ls 5 [(0, .ref (a 0)), (1, .int p1), (2, .int x1), (3, .int x2)] → K3 x1 x2 → W p l e rm_X4_knownTo s m args below meth c H0 [] 0 0 Q (F0 m 4 ls [])) ?_ ?_ ?_
  · intro x1 x2 ls hl h
    exact h.elim
  · intro K3
    intro w4 x1 x2 ls hl h
    refine lv_iload_n hx hb dX4_knownTo_4 rfl (lv_at hl 3 rfl) ?_
    refine lv_iconst (v := (2 : Int32)) hx hb dX4_knownTo_5 (by decide) ?_
    refine lv_aload_n hx hb dX4_knownTo_6 rfl (lv_at hl 0 rfl) ?_
    refine va_get (D := D) (ci := 4) (v := .ref (a 1)) (C := RX4) (T := TX4) (N := 12) hx hb hts inT4 hown hK.k hP 0 rfl rfl 1 (by decide) (hts _ q_820) (fun _ h9 => h9) rfl dX4_knownTo_7 ?_
    refine lv_iconst (v := (0 : Int32)) hx hb dX4_knownTo_10 (by decide) ?_
    refine va_iald hx hb hK.k hP 1 0 rfl rfl h.1 dX4_knownTo_11 ?_
    replace h := h.2
    refine lv_imul hx hb dX4_knownTo_12 ?_
    refine lv_icmp_ge (tgt := 54) hx hb dX4_knownTo_13 (by decide) (fun c5 => ?_) (fun c5 => ?_)
    · replace h := h.1 c5
      refine lv_iload_n hx hb dX4_knownTo_54 rfl (lv_at hl 2 rfl) ?_
      exact hQ h dX4_knownTo_55
    · replace h := h.2 c5
      refine lv_aload_n hx hb dX4_knownTo_16 rfl (lv_at hl 0 rfl) ?_
      refine lv_iload_n hx hb dX4_knownTo_17 rfl (lv_at hl 1 rfl) ?_
      refine lv_iload_n hx hb dX4_knownTo_18 rfl (lv_at hl 3 rfl) ?_
      refine lv_iconst (v := (2 : Int32)) hx hb dX4_knownTo_19 (by decide) ?_
      refine lv_idiv hx hb dX4_knownTo_20 (by decide) ?_
      refine lv_iload_n hx hb dX4_knownTo_21 rfl (lv_at hl 3 rfl) ?_
      refine lv_iconst (v := (2 : Int32)) hx hb dX4_knownTo_22 (by decide) ?_
      refine lv_irem hx hb dX4_knownTo_23 (by decide) ?_
      refine roVi (As := [.int p1, .int (x2 / (2 : Int32)), .int (x2 - x2 / (2 : Int32) * (2 : Int32))]) (rest := []) F (c_X4_seen l D cI cS cJ a u H0 p1 (x2 / (2 : Int32)) (x2 - x2 / (2 : Int32) * (2 : Int32)) h) (cw_X4_119 hts (Nat.le_of_ble_eq_true rfl) (Nat.le_of_ble_eq_true rfl)) hK hP (recv (ci := 4) (k0 := 0) hK hP rfl rfl) rfl hl.1 rfl (Nat.le_of_ble_eq_true rfl) dX4_knownTo_24 ⟨Nat.zero_le _, Nat.zero_le _⟩ (fun r6 h => ?_)
      refine lv_istore (lv' := [(4, .int r6), (0, .ref (a 0)), (1, .int p1), (2, .int x1), (3, .int x2)]) hx hb dX4_knownTo_27 hl (by decide) rfl (fun ls hl => ?_)
      refine lv_iload_n hx hb dX4_knownTo_29 rfl (lv_at hl 3 rfl) ?_
      refine lv_iload hx hb dX4_knownTo_30 (lv_at hl 0 rfl) ?_
      refine roSi (As := [.int r6]) (rest := [.int x1]) F (c_X4_isInn l D cI cS cJ H0 r6 h) (cw_X4_83 hts (Nat.le_of_ble_eq_true rfl) (Nat.le_of_ble_eq_true rfl)) hK vP_nil rfl hl.1 rfl (Nat.le_of_ble_eq_true rfl) dX4_knownTo_32 ⟨Nat.zero_le _, Nat.zero_le _⟩ (fun r7 h => ?_)
      obtain ⟨b8, h⟩ := h
      refine jn_e h (fun J10 e12 h => ?_)
      have w11 : ∀ (x9 : Int32) (ls : Array Slot), lv_has ls 5 [(0, .ref (a 0)), (1, .int p1), (3, .int x2)] → J10 x9 → W p l e rm_X4_knownTo s m args below meth c H0 [] 0 0 Q (F0 m 46 ls [.int x9, .int x1]) := by
        intro x9 ls hl h
        subst e12
        refine lv_ior hx hb dX4_knownTo_46 ?_
        refine lv_istore_n (lv' := [(2, .int (x1 ||| x9)), (0, .ref (a 0)), (1, .int p1), (3, .int x2)]) hx hb dX4_knownTo_47 rfl hl (by decide) rfl (fun ls hl => ?_)
        refine lv_iinc (v := (x2 + 1)) (lv' := [(3, .int (x2 + 1)), (2, .int (x1 ||| x9)), (0, .ref (a 0)), (1, .int p1)]) hx hb dX4_knownTo_48 hl (k := 3) rfl rfl (by decide) rfl (fun ls hl => ?_)
        refine lv_goto (tgt := 4) hx hb dX4_knownTo_51 (by decide) ?_
        exact w4 (x1 ||| x9) (x2 + 1) _ (lv_sub hl [2, 3, 1, 0] rfl) h
      clear e12
      refine lv_if_eq (tgt := 45) hx hb dX4_knownTo_35 (by decide) (fun c13 => ?_) (fun c13 => ?_)
      · replace h := h.1 c13
        refine lv_iconst (v := (0 : Int32)) hx hb dX4_knownTo_45 (by decide) ?_
        exact w11 (0 : Int32) _ (lv_sub hl [1, 2, 4] rfl) h
      · replace h := h.2 c13
        refine lv_iconst (v := (1 : Int32)) hx hb dX4_knownTo_38 (by decide) ?_
        refine lv_iload hx hb dX4_knownTo_39 (lv_at hl 0 rfl) ?_
        refine lv_ishl hx hb dX4_knownTo_41 ?_
        refine lv_goto (tgt := 46) hx hb dX4_knownTo_42 (by decide) ?_
        exact w11 ((1 : Int32) <<< (r6 &&& 31)) _ (lv_sub hl [1, 2, 4] rfl) h
  · intro K3 w4 h
    exact w4 (0 : Int32) (0 : Int32) _ (lv_sub hl [2, 3, 1, 0] rfl) h

def wp_X4_known (u : Md) (p1 : Int32) (post : Int32 → Md → Prop) : Prop :=
  wp_X4_isInn p1 (fun r1 => jn (fun (x3 : Int32) => wp_X4_holds u x3 (fun r8 u10 => (r8 = 0 → post (0 : Int32) u10) ∧ (¬ r8 = 0 → wp_X4_knownTo u10 p1 (fun r12 => post r12 u10)))) (fun (J5 : Int32 → Prop) => (r1 = 0 → J5 (1 : Int32)) ∧ (¬ r1 = 0 → J5 (0 : Int32))))
set_option maxHeartbeats 4000000 in
set_option maxRecDepth 100000 in
theorem c_X4_known (l : Launch) (D : va_G) (cI cS cJ : ClassId) (a : Nat → Nat) (u : Md) (sz : Nat) (p1 : Int32) {post : Int32 → Md → Prop} (h : wp_X4_known u p1 post) : Met l yX4_known (wsA yX4_known cX4_known 2 (some .int)) rm_X4_known (va_Pc [.ref (a 0), .int p1] (rwP D (tysA cI cS cJ) (mdW cI a u) sz)) (va_Qi post (fun u9 t => va_P D vwCl ((mdW cI a) u9) t.heap ∧ va_D (va_A (mdW cI a u) sz) ((mdW cI a) u9)) (va_A (mdW cI a u) sz)) 0 0 (va_A (mdW cI a u) sz) := by
  refine mkRWi (wf := (mdW cI a)) (by decide +kernel) (Nat.le_of_ble_eq_true rfl) (fun {p e s m args below meth c Q ls A H0 H locs} hx hb F hts hown hK hP hD hS hA hl hQ => ?_)
  have hown : s.vm.findClass RX4 = some m.cls := hown
  have F : CallFix p m c cX4_known 2 s args wsT RX4 := F
  have hl : lv_has ls 2 [(0, .ref (a 0)), (1, .int p1)] := hl
  unfold wp_X4_known at h
  refine lv_aload_n hx hb dX4_known_0 rfl (lv_at hl 0 rfl) ?_
  refine lv_iload_n hx hb dX4_known_1 rfl (lv_at hl 1 rfl) ?_
  refine roSi (As := [.int p1]) (rest := [.ref (a 0)]) F (c_X4_isInn l D cI cS cJ H p1 h) (cw_X4_83 hts (Nat.le_of_ble_eq_true rfl) (Nat.le_of_ble_eq_true rfl)) hK vP_nil rfl hl.1 rfl (Nat.le_of_ble_eq_true rfl) dX4_known_2 ⟨Nat.zero_le _, Nat.zero_le _⟩ (fun r1 h => ?_)
  obtain ⟨b2, h⟩ := h
  refine jn_e h (fun J5 e7 h => ?_)
  have w6 : ∀ (x3 : Int32) (ls : Array Slot) (H : Heap) (locs : List Loc), bz x3 → lv_has ls 2 [(0, .ref (a 0)), (1, .int p1)] → va_P D vwCl (mdW cI a u) H → va_D A (mdW cI a u) → va_S A H0 H locs → J5 x3 → W p l e rm_X4_known s m args below meth c H locs 0 0 Q (F0 m 13 ls [.int x3, .ref (a 0)]) := by
    intro x3 ls H locs b4 hl hP hD hS h
    subst e7
    refine rwVi0 (As := [.int x3]) (rest := []) F (c_X4_holds l D cI cS cJ a u H.size x3 h) (cw_X4_86 hts (Nat.le_of_ble_eq_true rfl) (Nat.le_of_ble_eq_true rfl)) hK hP hD hS hA (recv (ci := 4) (k0 := 0) hK hP rfl rfl) rfl hl.1 rfl (Nat.le_of_ble_eq_true rfl) dX4_known_13 ⟨Nat.zero_le _, Nat.zero_le _⟩ (fun r8 u10 H locs h hP hD hS => ?_)
    obtain ⟨b9, h⟩ := h
    refine lv_if_eq (tgt := 27) hx hb dX4_known_16 (by decide) (fun c11 => ?_) (fun c11 => ?_)
    · replace h := h.1 c11
      refine lv_iconst (v := (0 : Int32)) hx hb dX4_known_27 (by decide) ?_
      exact hQ h hP hD hS dX4_known_28
    · replace h := h.2 c11
      refine lv_aload_n hx hb dX4_known_19 rfl (lv_at hl 0 rfl) ?_
      refine lv_iload_n hx hb dX4_known_20 rfl (lv_at hl 1 rfl) ?_
      refine roVi (As := [.int p1]) (rest := []) F (c_X4_knownTo l D cI cS cJ a u10 H p1 h) (cw_X4_123 hts (Nat.le_of_ble_eq_true rfl) (Nat.le_of_ble_eq_true rfl)) hK hP (recv (ci := 4) (k0 := 0) hK hP rfl rfl) rfl hl.1 rfl (Nat.le_of_ble_eq_true rfl) dX4_known_21 ⟨Nat.zero_le _, Nat.zero_le _⟩ (fun r12 h => ?_)
      refine lv_goto (tgt := 28) hx hb dX4_known_24 (by decide) ?_
      exact hQ h hP hD hS dX4_known_28
  clear e7
  refine lv_if_eq (tgt := 12) hx hb dX4_known_5 (by decide) (fun c13 => ?_) (fun c13 => ?_)
  · replace h := h.1 c13
    refine lv_iconst (v := (1 : Int32)) hx hb dX4_known_12 (by decide) ?_
    exact w6 (1 : Int32) _ _ _ bz1 hl hP hD hS h
  · replace h := h.2 c13
    refine lv_iconst (v := (0 : Int32)) hx hb dX4_known_8 (by decide) ?_
    refine lv_goto (tgt := 13) hx hb dX4_known_9 (by decide) ?_
    exact w6 (0 : Int32) _ _ _ bz0 hl hP hD hS h

def wp_X4_send (u : Md) (p1 : Int32) (p2 : Int32) (post : Int32 → Md → Prop) : Prop :=
  wp_X4_isRoad u p1 (fun r1 => jn (fun (x3 : Int32) => wp_X4_holds u x3 (fun r7 u9 => (¬ r7 = 0 → wp_X4_save u9 (fun u12 => wp_X4_sends u12 p1 p2 (fun r13 u14 => post r13 u14))) ∧ (r7 = 0 → post (0 : Int32) u9))) (fun (J4 : Int32 → Prop) => (¬ r1 = 0 → wp_X4_isBody p2 (fun r16 => (¬ r16 = 0 → wp_X4_isRoom u (fun r19 => (¬ r19 = 0 → J4 (0 : Int32)) ∧ (r19 = 0 → J4 (3 : Int32)))) ∧ (r16 = 0 → J4 (2 : Int32)))) ∧ (r1 = 0 → J4 (1 : Int32))))
set_option maxHeartbeats 4000000 in
set_option maxRecDepth 100000 in
theorem c_X4_send (l : Launch) (D : va_G) (cI cS cJ : ClassId) (a : Nat → Nat) (u : Md) (sz : Nat) (p1 : Int32) (p2 : Int32) {post : Int32 → Md → Prop} (h : wp_X4_send u p1 p2 post) : Met l yX4_send (wsA yX4_send cX4_send 3 (some .int)) rm_X4_send (va_Pc [.ref (a 0), .int p1, .int p2] (rwP D (tysA cI cS cJ) (mdW cI a u) sz)) (va_Qi post (fun u9 t => va_P D vwCl ((mdW cI a) u9) t.heap ∧ va_D (va_A (mdW cI a u) sz) ((mdW cI a) u9)) (va_A (mdW cI a u) sz)) 0 0 (va_A (mdW cI a u) sz) := by
  refine mkRWi (wf := (mdW cI a)) (by decide +kernel) (Nat.le_of_ble_eq_true rfl) (fun {p e s m args below meth c Q ls A H0 H locs} hx hb F hts hown hK hP hD hS hA hl hQ => ?_)
  have hown : s.vm.findClass RX4 = some m.cls := hown
  have F : CallFix p m c cX4_send 3 s args wsT RX4 := F
  have hl : lv_has ls 3 [(0, .ref (a 0)), (1, .int p1), (2, .int p2)] := hl
  unfold wp_X4_send at h
  refine lv_aload_n hx hb dX4_send_0 rfl (lv_at hl 0 rfl) ?_
  refine lv_aload_n hx hb dX4_send_1 rfl (lv_at hl 0 rfl) ?_
  refine lv_iload_n hx hb dX4_send_2 rfl (lv_at hl 1 rfl) ?_
  refine roVi (As := [.int p1]) (rest := [.ref (a 0)]) F (c_X4_isRoad l D cI cS cJ a u H p1 h) (cw_X4_110 hts (Nat.le_of_ble_eq_true rfl) (Nat.le_of_ble_eq_true rfl)) hK hP (recv (ci := 4) (k0 := 0) hK hP rfl rfl) rfl hl.1 rfl (Nat.le_of_ble_eq_true rfl) dX4_send_3 ⟨Nat.zero_le _, Nat.zero_le _⟩ (fun r1 h => ?_)
  obtain ⟨b2, h⟩ := h
  refine jn_e h (fun J4 e6 h => ?_)
  have w5 : ∀ (x3 : Int32) (ls : Array Slot) (H : Heap) (locs : List Loc), lv_has ls 3 [(0, .ref (a 0)), (1, .int p1), (2, .int p2)] → va_P D vwCl (mdW cI a u) H → va_D A (mdW cI a u) → va_S A H0 H locs → J4 x3 → W p l e rm_X4_send s m args below meth c H locs 0 0 Q (F0 m 36 ls [.int x3, .ref (a 0)]) := by
    intro x3 ls H locs hl hP hD hS h
    subst e6
    refine rwVi0 (As := [.int x3]) (rest := []) F (c_X4_holds l D cI cS cJ a u H.size x3 h) (cw_X4_86 hts (Nat.le_of_ble_eq_true rfl) (Nat.le_of_ble_eq_true rfl)) hK hP hD hS hA (recv (ci := 4) (k0 := 0) hK hP rfl rfl) rfl hl.1 rfl (Nat.le_of_ble_eq_true rfl) dX4_send_36 ⟨Nat.zero_le _, Nat.zero_le _⟩ (fun r7 u9 H locs h hP hD hS => ?_)
    obtain ⟨b8, h⟩ := h
    refine lv_if_ne (tgt := 44) hx hb dX4_send_39 (by decide) (fun c10 => ?_) (fun c10 => ?_)
    · replace h := h.1 c10
      refine lv_aload_n hx hb dX4_send_44 rfl (lv_at hl 0 rfl) ?_
      refine rwVv0 (As := []) (rest := []) F (c_X4_save l D cI cS cJ a u9 H.size  h) (cw_X4_80 hts (Nat.le_of_ble_eq_true rfl) (Nat.le_of_ble_eq_true rfl)) hK hP hD hS hA (recv (ci := 4) (k0 := 0) hK hP rfl rfl) rfl hl.1 rfl (Nat.le_of_ble_eq_true rfl) dX4_send_45 ⟨Nat.zero_le _, Nat.zero_le _⟩ (fun u12 H locs h hP hD hS => ?_)
      refine lv_aload_n hx hb dX4_send_48 rfl (lv_at hl 0 rfl) ?_
      refine lv_iload_n hx hb dX4_send_49 rfl (lv_at hl 1 rfl) ?_
      refine lv_iload_n hx hb dX4_send_50 rfl (lv_at hl 2 rfl) ?_
      refine rwVi0 (As := [.int p1, .int p2]) (rest := []) F (c_X4_sends l D cI cS cJ a u12 H.size p1 p2 h) (cw_X4_126 hts (Nat.le_of_ble_eq_true rfl) (Nat.le_of_ble_eq_true rfl)) hK hP hD hS hA (recv (ci := 4) (k0 := 0) hK hP rfl rfl) rfl hl.1 rfl (Nat.le_of_ble_eq_true rfl) dX4_send_51 ⟨Nat.zero_le _, Nat.zero_le _⟩ (fun r13 u14 H locs h hP hD hS => ?_)
      exact hQ h hP hD hS dX4_send_54
    · replace h := h.2 c10
      refine lv_iconst (v := (0 : Int32)) hx hb dX4_send_42 (by decide) ?_
      exact hQ h hP hD hS dX4_send_43
  clear e6
  refine lv_if_ne (tgt := 13) hx hb dX4_send_6 (by decide) (fun c15 => ?_) (fun c15 => ?_)
  · replace h := h.1 c15
    refine lv_iload_n hx hb dX4_send_13 rfl (lv_at hl 2 rfl) ?_
    refine roSi (As := [.int p2]) (rest := [.ref (a 0)]) F (c_X4_isBody l D cI cS cJ H p2 h) (cw_X4_92 hts (Nat.le_of_ble_eq_true rfl) (Nat.le_of_ble_eq_true rfl)) hK vP_nil rfl hl.1 rfl (Nat.le_of_ble_eq_true rfl) dX4_send_14 ⟨Nat.zero_le _, Nat.zero_le _⟩ (fun r16 h => ?_)
    obtain ⟨b17, h⟩ := h
    refine lv_if_ne (tgt := 24) hx hb dX4_send_17 (by decide) (fun c18 => ?_) (fun c18 => ?_)
    · replace h := h.1 c18
      refine lv_aload_n hx hb dX4_send_24 rfl (lv_at hl 0 rfl) ?_
      refine roVi (As := []) (rest := [.ref (a 0)]) F (c_X4_isRoom l D cI cS cJ a u H  h) (cw_X4_69 hts (Nat.le_of_ble_eq_true rfl) (Nat.le_of_ble_eq_true rfl)) hK hP (recv (ci := 4) (k0 := 0) hK hP rfl rfl) rfl hl.1 rfl (Nat.le_of_ble_eq_true rfl) dX4_send_25 ⟨Nat.zero_le _, Nat.zero_le _⟩ (fun r19 h => ?_)
      obtain ⟨b20, h⟩ := h
      refine lv_if_ne (tgt := 35) hx hb dX4_send_28 (by decide) (fun c21 => ?_) (fun c21 => ?_)
      · replace h := h.1 c21
        refine lv_iconst (v := (0 : Int32)) hx hb dX4_send_35 (by decide) ?_
        exact w5 (0 : Int32) _ _ _ hl hP hD hS h
      · replace h := h.2 c21
        refine lv_iconst (v := (3 : Int32)) hx hb dX4_send_31 (by decide) ?_
        refine lv_goto (tgt := 36) hx hb dX4_send_32 (by decide) ?_
        exact w5 (3 : Int32) _ _ _ hl hP hD hS h
    · replace h := h.2 c18
      refine lv_iconst (v := (2 : Int32)) hx hb dX4_send_20 (by decide) ?_
      refine lv_goto (tgt := 36) hx hb dX4_send_21 (by decide) ?_
      exact w5 (2 : Int32) _ _ _ hl hP hD hS h
  · replace h := h.2 c15
    refine lv_iconst (v := (1 : Int32)) hx hb dX4_send_9 (by decide) ?_
    refine lv_goto (tgt := 36) hx hb dX4_send_10 (by decide) ?_
    exact w5 (1 : Int32) _ _ _ hl hP hD hS h

def wp_X4_answer (u : Md) (p1 : Int32) (p2 : Int32) (post : Int32 → Md → Prop) : Prop :=
  wp_X4_isHall p1 (fun r1 => jn (fun (x3 : Int32) => wp_X4_holds u x3 (fun r7 u9 => (¬ r7 = 0 → wp_X4_save u9 (fun u12 => wp_X4_answers u12 p1 p2 (fun r13 u14 => post r13 u14))) ∧ (r7 = 0 → post (0 : Int32) u9))) (fun (J4 : Int32 → Prop) => (¬ r1 = 0 → wp_X4_isBody p2 (fun r16 => (¬ r16 = 0 → wp_X4_canAnswer u p1 (fun r19 => (¬ r19 = 0 → J4 (0 : Int32)) ∧ (r19 = 0 → J4 (3 : Int32)))) ∧ (r16 = 0 → J4 (2 : Int32)))) ∧ (r1 = 0 → J4 (1 : Int32))))
set_option maxHeartbeats 4000000 in
set_option maxRecDepth 100000 in
theorem c_X4_answer (l : Launch) (D : va_G) (cI cS cJ : ClassId) (a : Nat → Nat) (u : Md) (sz : Nat) (p1 : Int32) (p2 : Int32) {post : Int32 → Md → Prop} (h : wp_X4_answer u p1 p2 post) : Met l yX4_answer (wsA yX4_answer cX4_answer 4 (some .int)) rm_X4_answer (va_Pc [.ref (a 0), .int p1, .int p2] (rwP D (tysA cI cS cJ) (mdW cI a u) sz)) (va_Qi post (fun u9 t => va_P D vwCl ((mdW cI a) u9) t.heap ∧ va_D (va_A (mdW cI a u) sz) ((mdW cI a) u9)) (va_A (mdW cI a u) sz)) 0 0 (va_A (mdW cI a u) sz) := by
  refine mkRWi (wf := (mdW cI a)) (by decide +kernel) (Nat.le_of_ble_eq_true rfl) (fun {p e s m args below meth c Q ls A H0 H locs} hx hb F hts hown hK hP hD hS hA hl hQ => ?_)
  have hown : s.vm.findClass RX4 = some m.cls := hown
  have F : CallFix p m c cX4_answer 4 s args wsT RX4 := F
  have hl : lv_has ls 4 [(0, .ref (a 0)), (1, .int p1), (2, .int p2)] := hl
  unfold wp_X4_answer at h
  refine lv_iload_n hx hb dX4_answer_0 rfl (lv_at hl 1 rfl) ?_
  refine roSi (As := [.int p1]) (rest := []) F (c_X4_isHall l D cI cS cJ H p1 h) (cw_X4_95 hts (Nat.le_of_ble_eq_true rfl) (Nat.le_of_ble_eq_true rfl)) hK vP_nil rfl hl.1 rfl (Nat.le_of_ble_eq_true rfl) dX4_answer_1 ⟨Nat.zero_le _, Nat.zero_le _⟩ (fun r1 h => ?_)
  obtain ⟨b2, h⟩ := h
  refine lv_istore_n (lv' := [(3, .int r1), (0, .ref (a 0)), (1, .int p1), (2, .int p2)]) hx hb dX4_answer_4 rfl hl (by decide) rfl (fun ls hl => ?_)
  refine lv_aload_n hx hb dX4_answer_5 rfl (lv_at hl 1 rfl) ?_
  refine lv_iload_n hx hb dX4_answer_6 rfl (lv_at hl 0 rfl) ?_
  refine jn_e h (fun J4 e6 h => ?_)
  have w5 : ∀ (x3 : Int32) (ls : Array Slot) (H : Heap) (locs : List Loc), lv_has ls 4 [(0, .ref (a 0)), (1, .int p1), (2, .int p2)] → va_P D vwCl (mdW cI a u) H → va_D A (mdW cI a u) → va_S A H0 H locs → J4 x3 → W p l e rm_X4_answer s m args below meth c H locs 0 0 Q (F0 m 38 ls [.int x3, .ref (a 0)]) := by
    intro x3 ls H locs hl hP hD hS h
    subst e6
    refine rwVi0 (As := [.int x3]) (rest := []) F (c_X4_holds l D cI cS cJ a u H.size x3 h) (cw_X4_86 hts (Nat.le_of_ble_eq_true rfl) (Nat.le_of_ble_eq_true rfl)) hK hP hD hS hA (recv (ci := 4) (k0 := 0) hK hP rfl rfl) rfl hl.1 rfl (Nat.le_of_ble_eq_true rfl) dX4_answer_38 ⟨Nat.zero_le _, Nat.zero_le _⟩ (fun r7 u9 H locs h hP hD hS => ?_)
    obtain ⟨b8, h⟩ := h
    refine lv_if_ne (tgt := 46) hx hb dX4_answer_41 (by decide) (fun c10 => ?_) (fun c10 => ?_)
    · replace h := h.1 c10
      refine lv_aload_n hx hb dX4_answer_46 rfl (lv_at hl 0 rfl) ?_
      refine rwVv0 (As := []) (rest := []) F (c_X4_save l D cI cS cJ a u9 H.size  h) (cw_X4_80 hts (Nat.le_of_ble_eq_true rfl) (Nat.le_of_ble_eq_true rfl)) hK hP hD hS hA (recv (ci := 4) (k0 := 0) hK hP rfl rfl) rfl hl.1 rfl (Nat.le_of_ble_eq_true rfl) dX4_answer_47 ⟨Nat.zero_le _, Nat.zero_le _⟩ (fun u12 H locs h hP hD hS => ?_)
      refine lv_aload_n hx hb dX4_answer_50 rfl (lv_at hl 0 rfl) ?_
      refine lv_iload_n hx hb dX4_answer_51 rfl (lv_at hl 1 rfl) ?_
      refine lv_iload_n hx hb dX4_answer_52 rfl (lv_at hl 2 rfl) ?_
      refine rwVi0 (As := [.int p1, .int p2]) (rest := []) F (c_X4_answers l D cI cS cJ a u12 H.size p1 p2 h) (cw_X4_132 hts (Nat.le_of_ble_eq_true rfl) (Nat.le_of_ble_eq_true rfl)) hK hP hD hS hA (recv (ci := 4) (k0 := 0) hK hP rfl rfl) rfl hl.1 rfl (Nat.le_of_ble_eq_true rfl) dX4_answer_53 ⟨Nat.zero_le _, Nat.zero_le _⟩ (fun r13 u14 H locs h hP hD hS => ?_)
      exact hQ h hP hD hS dX4_answer_56
    · replace h := h.2 c10
      refine lv_iconst (v := (0 : Int32)) hx hb dX4_answer_44 (by decide) ?_
      exact hQ h hP hD hS dX4_answer_45
  clear e6
  refine lv_if_ne (tgt := 14) hx hb dX4_answer_7 (by decide) (fun c15 => ?_) (fun c15 => ?_)
  · replace h := h.1 c15
    refine lv_iload_n hx hb dX4_answer_14 rfl (lv_at hl 3 rfl) ?_
    refine roSi (As := [.int p2]) (rest := [.ref (a 0)]) F (c_X4_isBody l D cI cS cJ H p2 h) (cw_X4_92 hts (Nat.le_of_ble_eq_true rfl) (Nat.le_of_ble_eq_true rfl)) hK vP_nil rfl hl.1 rfl (Nat.le_of_ble_eq_true rfl) dX4_answer_15 ⟨Nat.zero_le _, Nat.zero_le _⟩ (fun r16 h => ?_)
    obtain ⟨b17, h⟩ := h
    refine lv_if_ne (tgt := 25) hx hb dX4_answer_18 (by decide) (fun c18 => ?_) (fun c18 => ?_)
    · replace h := h.1 c18
      refine lv_aload_n hx hb dX4_answer_25 rfl (lv_at hl 1 rfl) ?_
      refine lv_iload_n hx hb dX4_answer_26 rfl (lv_at hl 2 rfl) ?_
      refine roVi (As := [.int p1]) (rest := [.ref (a 0)]) F (c_X4_canAnswer l D cI cS cJ a u H p1 h) (cw_X4_129 hts (Nat.le_of_ble_eq_true rfl) (Nat.le_of_ble_eq_true rfl)) hK hP (recv (ci := 4) (k0 := 0) hK hP rfl rfl) rfl hl.1 rfl (Nat.le_of_ble_eq_true rfl) dX4_answer_27 ⟨Nat.zero_le _, Nat.zero_le _⟩ (fun r19 h => ?_)
      obtain ⟨b20, h⟩ := h
      refine lv_if_ne (tgt := 37) hx hb dX4_answer_30 (by decide) (fun c21 => ?_) (fun c21 => ?_)
      · replace h := h.1 c21
        refine lv_iconst (v := (0 : Int32)) hx hb dX4_answer_37 (by decide) ?_
        exact w5 (0 : Int32) _ _ _ (lv_sub hl [1, 2, 3] rfl) hP hD hS h
      · replace h := h.2 c21
        refine lv_iconst (v := (3 : Int32)) hx hb dX4_answer_33 (by decide) ?_
        refine lv_goto (tgt := 38) hx hb dX4_answer_34 (by decide) ?_
        exact w5 (3 : Int32) _ _ _ (lv_sub hl [1, 2, 3] rfl) hP hD hS h
    · replace h := h.2 c18
      refine lv_iconst (v := (2 : Int32)) hx hb dX4_answer_21 (by decide) ?_
      refine lv_goto (tgt := 38) hx hb dX4_answer_22 (by decide) ?_
      exact w5 (2 : Int32) _ _ _ (lv_sub hl [1, 2, 3] rfl) hP hD hS h
  · replace h := h.2 c15
    refine lv_iconst (v := (1 : Int32)) hx hb dX4_answer_10 (by decide) ?_
    refine lv_goto (tgt := 38) hx hb dX4_answer_11 (by decide) ?_
    exact w5 (1 : Int32) _ _ _ (lv_sub hl [1, 2, 3] rfl) hP hD hS h
