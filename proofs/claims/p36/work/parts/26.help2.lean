def wp_L_isBrought (u : Ne) (p1 : Int32) (p2 : Int32) (p3 : Int32) (post : Int32 → Ne → Prop) : Prop :=
  wp_X3_stands u p1 (fun r1 => (r1 = 0 → post (1 : Int32) u) ∧ (¬ r1 = 0 → wp_X3_envelopes u (fun r4 => (¬ r4 = (12 : Int32) → wp_X3_digest u (fun r6 => wp_X3_hall u p1 (fun r7 => wp_X3_send u p1 p2 (fun r8 u9 => wp_X3_envelopes u9 (fun r10 => jn (fun (x11 : Int32) => wp_X3_inn u9 p1 (2 : Int32) (fun r16 => wp_X3_setKey u9 r16 p3 (fun r17 u18 => LP2 (fun (K21 : Int32 → Int32 → Prop) (x19 : Int32) (x20 : Int32) => wp_X3_envelopes u18 (fun r23 => (r23 ≤ x20 → jn (fun (x25 : Int32) (u27 : Ne) => LP3 (fun (K35 : Int32 → Int32 → Ne → Prop) (x31 : Int32) (x33 : Int32) (u34 : Ne) => jn ((x31 = 0 → post (0 : Int32) u34) ∧ (¬ x31 = 0 → wp_X3_digest u34 (fun r41 => (¬ (lg_cmp r41 r6) = 0 → post (0 : Int32) u34) ∧ ((lg_cmp r41 r6) = 0 → post (1 : Int32) u34)))) (fun (J37 : Prop) => ((6 : Int32) ≤ x33 → J37) ∧ (¬ (6 : Int32) ≤ x33 → (x31 = 0 → J37) ∧ (¬ x31 = 0 → wp_X3_undo u34 (fun r45 u46 => jn (fun (x47 : Int32) => K35 x47 (x33 + 1) u46) (fun (J49 : Int32 → Prop) => (r45 < 0 → J49 (0 : Int32)) ∧ (¬ r45 < 0 → J49 (1 : Int32)))))))) x25 (0 : Int32) u27) (fun (J28 : Int32 → Ne → Prop) => jn (fun (u53 : Ne) => J28 (0 : Int32) u53) (fun (J54 : Ne → Prop) => (x11 = 0 → J54 u18) ∧ (¬ x11 = 0 → (r17 < 0 → J54 u18) ∧ (¬ r17 < 0 → wp_X3_pass u18 (4 : Int32) (fun r59 u60 => (¬ r59 = x19 → J54 u60) ∧ (r59 = x19 → wp_X3_envelopes u60 (fun r62 => (¬ r62 = 0 → J54 u60) ∧ (r62 = 0 → wp_X3_letter u60 r7 (fun r64 => (¬ r64 = p2 → J54 u60) ∧ (r64 = p2 → wp_X3_answer u60 r7 p3 (fun r66 u67 => (¬ r66 = 0 → J54 u67) ∧ (r66 = 0 → wp_X3_pass u67 (3 : Int32) (fun r69 u70 => (¬ r69 = 0 → J54 u70) ∧ (r69 = 0 → wp_X3_pass u70 (1 : Int32) (fun r72 u73 => (¬ r72 = (1 : Int32) → J54 u73) ∧ (r72 = (1 : Int32) → wp_X3_lastAnswer u73 (fun r75 => (¬ r75 = p3 → J54 u73) ∧ (r75 = p3 → J28 (1 : Int32) u73))))))))))))))))))) ∧ (¬ r23 ≤ x20 → wp_X3_ticksTo u18 x20 (fun r77 => jn (fun (x78 : Int32) => K21 (x19 + x78) (x20 + 1)) (fun (J80 : Int32 → Prop) => (¬ r77 = (-1 : Int32) → J80 (1 : Int32)) ∧ (r77 = (-1 : Int32) → J80 (0 : Int32))))))) (0 : Int32) (0 : Int32)))) (fun (J13 : Int32 → Prop) => jn (J13 (0 : Int32)) (fun (J84 : Prop) => (¬ r8 = (r10 - (1 : Int32)) → J84) ∧ (r8 = (r10 - (1 : Int32)) → wp_X3_envelope u9 r8 (1 : Int32) (fun r88 => (¬ r88 = 0 → J84) ∧ (r88 = 0 → wp_X3_envelope u9 r8 (3 : Int32) (fun r90 => (¬ r90 = 0 → J84) ∧ (r90 = 0 → wp_X3_ticksTo u9 r8 (fun r92 => (¬ r92 = (4 : Int32) → J84) ∧ (r92 = (4 : Int32) → J13 (1 : Int32))))))))))))))) ∧ (r4 = (12 : Int32) → post (1 : Int32) u))))
set_option maxHeartbeats 4000000 in
set_option maxRecDepth 100000 in
theorem c_L_isBrought (l : Launch) (D : va_G) (cI cS cJ : ClassId) (G : Nat → Nat → Nat) (u : Ne) (sz : Nat) (p1 : Int32) (p2 : Int32) (p3 : Int32) {post : Int32 → Ne → Prop} (h : wp_L_isBrought u p1 p2 p3 post) : Met l yL_isBrought (wsA yL_isBrought cL_isBrought 12 (some .boolean)) rm_L_isBrought (va_Pc [.ref (G 2 0), .int p1, .int p2, .int p3] (rwP D (tysA cI cS cJ) (neW cI cS G u) sz)) (va_Qi (fun r u9 => bz r ∧ post r u9) (fun u9 t => va_P D vwCl (neW cI cS G u9) t.heap ∧ va_D (va_A (neW cI cS G u) sz) (neW cI cS G u9)) (va_A (neW cI cS G u) sz)) 0 0 (va_A (neW cI cS G u) sz) := by
  refine mkRWz (wf := neW cI cS G) (by decide +kernel) (Nat.le_of_ble_eq_true rfl) (fun {p e s m args below meth c Q ls A H0 H locs} hx hb F hts hown hK hP hD hS hA hl hQ => ?_)
  have hown : s.vm.findClass RL = some m.cls := hown
  have F : CallFix p m c cL_isBrought 12 s args wsT RL := F
  have hl : lv_has ls 12 [(0, .ref (G 2 0)), (1, .int p1), (2, .int p2), (3, .int p3)] := hl
  unfold wp_L_isBrought at h
  refine lv_aload_n hx hb dL_isBrought_0 rfl (lv_at hl 0 rfl) ?_
  refine lv_iload_n hx hb dL_isBrought_1 rfl (lv_at hl 1 rfl) ?_
  refine roVi (As := [.int p1]) (rest := []) F (c_X3_stands l D cI cS cJ G u H p1 h) (cw_L_85 hts (Nat.le_of_ble_eq_true rfl) (Nat.le_of_ble_eq_true rfl)) hK hP (recv (ci := 3) (k0 := 0) hK hP rfl rfl) rfl hl.1 rfl (Nat.le_of_ble_eq_true rfl) dL_isBrought_2 ⟨(Nat.le_of_ble_eq_true rfl), (Nat.le_of_ble_eq_true rfl)⟩ (fun r1 h => ?_)
  obtain ⟨b2, h⟩ := h
  refine lv_if_eq (tgt := 17) hx hb dL_isBrought_5 (by decide) (fun c3 => ?_) (fun c3 => ?_)
  · replace h := h.1 c3
    refine lv_iconst (v := (1 : Int32)) hx hb dL_isBrought_17 (by decide) ?_
    exact hQ bz1 h hP hD hS dL_isBrought_18
  · replace h := h.2 c3
    refine lv_aload_n hx hb dL_isBrought_8 rfl (lv_at hl 0 rfl) ?_
    refine roVi (As := []) (rest := []) F (c_X3_envelopes l D cI cS cJ G u H  h) (cw_L_21 hts (Nat.le_of_ble_eq_true rfl) (Nat.le_of_ble_eq_true rfl)) hK hP (recv (ci := 3) (k0 := 0) hK hP rfl rfl) rfl hl.1 rfl (Nat.le_of_ble_eq_true rfl) dL_isBrought_9 ⟨(Nat.le_of_ble_eq_true rfl), (Nat.le_of_ble_eq_true rfl)⟩ (fun r4 h => ?_)
    refine lv_bipush (v := (12 : Int32)) hx hb dL_isBrought_12 (by decide) ?_
    refine lv_icmp_ne (tgt := 19) hx hb dL_isBrought_14 (by decide) (fun c5 => ?_) (fun c5 => ?_)
    · replace h := h.1 c5
      refine lv_aload_n hx hb dL_isBrought_19 rfl (lv_at hl 0 rfl) ?_
      refine roVl (As := []) (rest := []) F (c_X3_digest l D cI cS cJ G u H  h) (cw_L_91 hts (Nat.le_of_ble_eq_true rfl) (Nat.le_of_ble_eq_true rfl)) hK hP (recv (ci := 3) (k0 := 0) hK hP rfl rfl) rfl hl.1 rfl (Nat.le_of_ble_eq_true rfl) dL_isBrought_20 ⟨(Nat.le_of_ble_eq_true rfl), (Nat.le_of_ble_eq_true rfl)⟩ (fun r6 h => ?_)
      refine lv_lstore (lv' := [(4, .long r6), (0, .ref (G 2 0)), (1, .int p1), (2, .int p2), (3, .int p3)]) hx hb dL_isBrought_23 hl (by decide) rfl (fun ls hl => ?_)
      refine lv_aload_n hx hb dL_isBrought_25 rfl (lv_at hl 1 rfl) ?_
      refine lv_iload_n hx hb dL_isBrought_26 rfl (lv_at hl 2 rfl) ?_
      refine roVi (As := [.int p1]) (rest := []) F (c_X3_hall l D cI cS cJ G u H p1 h) (cw_L_59 hts (Nat.le_of_ble_eq_true rfl) (Nat.le_of_ble_eq_true rfl)) hK hP (recv (ci := 3) (k0 := 0) hK hP rfl rfl) rfl hl.1 rfl (Nat.le_of_ble_eq_true rfl) dL_isBrought_27 ⟨(Nat.le_of_ble_eq_true rfl), (Nat.le_of_ble_eq_true rfl)⟩ (fun r7 h => ?_)
      refine lv_istore (lv' := [(6, .int r7), (4, .long r6), (0, .ref (G 2 0)), (1, .int p1), (2, .int p2), (3, .int p3)]) hx hb dL_isBrought_30 hl (by decide) rfl (fun ls hl => ?_)
      refine lv_aload_n hx hb dL_isBrought_32 rfl (lv_at hl 2 rfl) ?_
      refine lv_iload_n hx hb dL_isBrought_33 rfl (lv_at hl 3 rfl) ?_
      refine lv_iload_n hx hb dL_isBrought_34 rfl (lv_at hl 4 rfl) ?_
      refine rwVi0 (As := [.int p1, .int p2]) (rest := []) F (c_X3_send l D cI cS cJ G u H.size p1 p2 h) (cw_L_52 hts (Nat.le_of_ble_eq_true rfl) (Nat.le_of_ble_eq_true rfl)) hK hP hD hS hA (recv (ci := 3) (k0 := 0) hK hP rfl rfl) rfl hl.1 rfl (Nat.le_of_ble_eq_true rfl) dL_isBrought_35 ⟨(Nat.le_of_ble_eq_true rfl), (Nat.le_of_ble_eq_true rfl)⟩ (fun r8 u9 H locs h hP hD hS => ?_)
      refine lv_istore (lv' := [(7, .int r8), (6, .int r7), (4, .long r6), (0, .ref (G 2 0)), (1, .int p1), (2, .int p2), (3, .int p3)]) hx hb dL_isBrought_38 hl (by decide) rfl (fun ls hl => ?_)
      refine lv_iload hx hb dL_isBrought_40 (lv_at hl 0 rfl) ?_
      refine lv_aload_n hx hb dL_isBrought_42 rfl (lv_at hl 3 rfl) ?_
      refine roVi (As := []) (rest := [.int r8]) F (c_X3_envelopes l D cI cS cJ G u9 H  h) (cw_L_21 hts (Nat.le_of_ble_eq_true rfl) (Nat.le_of_ble_eq_true rfl)) hK hP (recv (ci := 3) (k0 := 0) hK hP rfl rfl) rfl hl.1 rfl (Nat.le_of_ble_eq_true rfl) dL_isBrought_43 ⟨(Nat.le_of_ble_eq_true rfl), (Nat.le_of_ble_eq_true rfl)⟩ (fun r10 h => ?_)
      refine lv_iconst (v := (1 : Int32)) hx hb dL_isBrought_46 (by decide) ?_
      refine lv_isub hx hb dL_isBrought_47 ?_
      refine jn_e h (fun J13 e15 h => ?_)
      have w14 : ∀ (x11 : Int32) (ls : Array Slot) (H : Heap) (locs : List Loc), bz x11 → lv_has ls 12 [(0, .ref (G 2 0)), (1, .int p1), (2, .int p2), (3, .int p3), (4, .long r6), (6, .int r7)] → va_P D vwCl (neW cI cS G u9) H → va_D A (neW cI cS G u9) → va_S A H0 H locs → J13 x11 → W p l e rm_L_isBrought s m args below meth c H locs 0 0 Q (F0 m 86 ls [.int x11]) := by
        intro x11 ls H locs b12 hl hP hD hS h
        subst e15
        refine lv_istore (lv' := [(8, .int x11), (0, .ref (G 2 0)), (1, .int p1), (2, .int p2), (3, .int p3), (4, .long r6), (6, .int r7)]) hx hb dL_isBrought_86 hl (by decide) rfl (fun ls hl => ?_)
        refine lv_aload_n hx hb dL_isBrought_88 rfl (lv_at hl 1 rfl) ?_
        refine lv_aload_n hx hb dL_isBrought_89 rfl (lv_at hl 1 rfl) ?_
        refine lv_iload_n hx hb dL_isBrought_90 rfl (lv_at hl 2 rfl) ?_
        refine lv_iconst (v := (2 : Int32)) hx hb dL_isBrought_91 (by decide) ?_
        refine roVi (As := [.int p1, .int (2 : Int32)]) (rest := [.ref (G 2 0)]) F (c_X3_inn l D cI cS cJ G u9 H p1 (2 : Int32) h) (cw_L_76 hts (Nat.le_of_ble_eq_true rfl) (Nat.le_of_ble_eq_true rfl)) hK hP (recv (ci := 3) (k0 := 0) hK hP rfl rfl) rfl hl.1 rfl (Nat.le_of_ble_eq_true rfl) dL_isBrought_92 ⟨(Nat.le_of_ble_eq_true rfl), (Nat.le_of_ble_eq_true rfl)⟩ (fun r16 h => ?_)
        refine lv_iload_n hx hb dL_isBrought_95 rfl (lv_at hl 4 rfl) ?_
        refine rwVi0 (As := [.int r16, .int p3]) (rest := []) F (c_X3_setKey l D cI cS cJ G u9 H.size r16 p3 h) (cw_L_28 hts (Nat.le_of_ble_eq_true rfl) (Nat.le_of_ble_eq_true rfl)) hK hP hD hS hA (recv (ci := 3) (k0 := 0) hK hP rfl rfl) rfl hl.1 rfl (Nat.le_of_ble_eq_true rfl) dL_isBrought_96 ⟨(Nat.le_of_ble_eq_true rfl), (Nat.le_of_ble_eq_true rfl)⟩ (fun r17 u18 H locs h hP hD hS => ?_)
        refine lv_istore (lv' := [(9, .int r17), (8, .int x11), (0, .ref (G 2 0)), (1, .int p1), (2, .int p2), (3, .int p3), (4, .long r6), (6, .int r7)]) hx hb dL_isBrought_99 hl (by decide) rfl (fun ls hl => ?_)
        refine lv_iconst (v := (0 : Int32)) hx hb dL_isBrought_101 (by decide) ?_
        refine lv_istore (lv' := [(10, .int (0 : Int32)), (9, .int r17), (8, .int x11), (0, .ref (G 2 0)), (1, .int p1), (2, .int p2), (3, .int p3), (4, .long r6), (6, .int r7)]) hx hb dL_isBrought_102 hl (by decide) rfl (fun ls hl => ?_)
        refine lv_iconst (v := (0 : Int32)) hx hb dL_isBrought_104 (by decide) ?_
        refine lv_istore (lv' := [(11, .int (0 : Int32)), (10, .int (0 : Int32)), (9, .int r17), (8, .int x11), (0, .ref (G 2 0)), (1, .int p1), (2, .int p2), (3, .int p3), (4, .long r6), (6, .int r7)]) hx hb dL_isBrought_105 hl (by decide) rfl (fun ls hl => ?_)
        refine lpu2 h (fun K21 : Int32 → Int32 → Prop => ∀ (x19 : Int32) (x20 : Int32) (ls : Array Slot) (H : Heap) (locs : List Loc), lv_has ls 12 [(0, .ref (G 2 0)), (2, .int p2), (3, .int p3), (4, .long r6), (6, .int r7), (8, .int x11), (9, .int r17), (10, .int x19), (11, .int x20)] → va_P D vwCl (neW cI cS G u18) H → va_D A (neW cI cS G u18) → va_S A H0 H locs → K21 x19 x20 → W p l e rm_L_isBrought s m args below meth c H locs 0 0 Q (F0 m 107 ls [])) ?_ ?_ ?_
        · intro x19 x20 ls H locs hl hP hD hS h
          exact h.elim
        · intro K21
          intro w22 x19 x20 ls H locs hl hP hD hS h
          refine lv_iload hx hb dL_isBrought_107 (lv_at hl 8 rfl) ?_
          refine lv_aload_n hx hb dL_isBrought_109 rfl (lv_at hl 0 rfl) ?_
          refine roVi (As := []) (rest := [.int x20]) F (c_X3_envelopes l D cI cS cJ G u18 H  h) (cw_L_21 hts (Nat.le_of_ble_eq_true rfl) (Nat.le_of_ble_eq_true rfl)) hK hP (recv (ci := 3) (k0 := 0) hK hP rfl rfl) rfl hl.1 rfl (Nat.le_of_ble_eq_true rfl) dL_isBrought_110 ⟨(Nat.le_of_ble_eq_true rfl), (Nat.le_of_ble_eq_true rfl)⟩ (fun r23 h => ?_)
          refine lv_icmp_ge (tgt := 142) hx hb dL_isBrought_113 (by decide) (fun c24 => ?_) (fun c24 => ?_)
          · replace h := h.1 c24
            refine lv_iload hx hb dL_isBrought_142 (lv_at hl 5 rfl) ?_
            refine jn_e h (fun J28 e30 h => ?_)
            have w29 : ∀ (x25 : Int32) (u27 : Ne) (ls : Array Slot) (H : Heap) (locs : List Loc), bz x25 → lv_has ls 12 [(0, .ref (G 2 0)), (4, .long r6)] → va_P D vwCl (neW cI cS G u27) H → va_D A (neW cI cS G u27) → va_S A H0 H locs → J28 x25 u27 → W p l e rm_L_isBrought s m args below meth c H locs 0 0 Q (F0 m 219 ls [.int x25]) := by
              intro x25 u27 ls H locs b26 hl hP hD hS h
              subst e30
              refine lv_istore (lv' := [(8, .int x25), (0, .ref (G 2 0)), (4, .long r6)]) hx hb dL_isBrought_219 hl (by decide) rfl (fun ls hl => ?_)
              refine lv_iconst (v := (0 : Int32)) hx hb dL_isBrought_221 (by decide) ?_
              refine lv_istore (lv' := [(11, .int (0 : Int32)), (8, .int x25), (0, .ref (G 2 0)), (4, .long r6)]) hx hb dL_isBrought_222 hl (by decide) rfl (fun ls hl => ?_)
              refine lpu3 h (fun K35 : Int32 → Int32 → Ne → Prop => ∀ (x31 : Int32) (x33 : Int32) (u34 : Ne) (ls : Array Slot) (H : Heap) (locs : List Loc), bz x31 → lv_has ls 12 [(0, .ref (G 2 0)), (4, .long r6), (8, .int x31), (11, .int x33)] → va_P D vwCl (neW cI cS G u34) H → va_D A (neW cI cS G u34) → va_S A H0 H locs → K35 x31 x33 u34 → W p l e rm_L_isBrought s m args below meth c H locs 0 0 Q (F0 m 224 ls [])) ?_ ?_ ?_
              · intro x31 x33 u34 ls H locs b32 hl hP hD hS h
                exact h.elim
              · intro K35
                intro w36 x31 x33 u34 ls H locs b32 hl hP hD hS h
                refine lv_iload hx hb dL_isBrought_224 (lv_at hl 3 rfl) ?_
                refine lv_bipush (v := (6 : Int32)) hx hb dL_isBrought_226 (by decide) ?_
                refine jn_e h (fun J37 e39 h => ?_)
                have w38 : ∀  (ls : Array Slot) (H : Heap) (locs : List Loc), lv_has ls 12 [(0, .ref (G 2 0)), (4, .long r6), (8, .int x31)] → va_P D vwCl (neW cI cS G u34) H → va_D A (neW cI cS G u34) → va_S A H0 H locs → J37 → W p l e rm_L_isBrought s m args below meth c H locs 0 0 Q (F0 m 256 ls []) := by
                  intro ls H locs hl hP hD hS h
                  subst e39
                  refine lv_iload hx hb dL_isBrought_256 (lv_at hl 2 rfl) ?_
                  refine lv_if_eq (tgt := 275) hx hb dL_isBrought_258 (by decide) (fun c40 => ?_) (fun c40 => ?_)
                  · replace h := h.1 c40
                    refine lv_iconst (v := (0 : Int32)) hx hb dL_isBrought_275 (by decide) ?_
                    exact hQ bz0 h hP hD hS dL_isBrought_276
                  · replace h := h.2 c40
                    refine lv_aload_n hx hb dL_isBrought_261 rfl (lv_at hl 0 rfl) ?_
                    refine roVl (As := []) (rest := []) F (c_X3_digest l D cI cS cJ G u34 H  h) (cw_L_91 hts (Nat.le_of_ble_eq_true rfl) (Nat.le_of_ble_eq_true rfl)) hK hP (recv (ci := 3) (k0 := 0) hK hP rfl rfl) rfl hl.1 rfl (Nat.le_of_ble_eq_true rfl) dL_isBrought_262 ⟨(Nat.le_of_ble_eq_true rfl), (Nat.le_of_ble_eq_true rfl)⟩ (fun r41 h => ?_)
                    refine lv_lload hx hb dL_isBrought_265 (lv_at hl 1 rfl) ?_
                    refine W.lcmp hx hb dL_isBrought_267 ?_
                    refine lv_if_ne (tgt := 275) hx hb dL_isBrought_268 (by decide) (fun c42 => ?_) (fun c42 => ?_)
                    · replace h := h.1 c42
                      refine lv_iconst (v := (0 : Int32)) hx hb dL_isBrought_275 (by decide) ?_
                      exact hQ bz0 h hP hD hS dL_isBrought_276
                    · replace h := h.2 c42
                      refine lv_iconst (v := (1 : Int32)) hx hb dL_isBrought_271 (by decide) ?_
                      refine lv_goto (tgt := 276) hx hb dL_isBrought_272 (by decide) ?_
                      exact hQ bz1 h hP hD hS dL_isBrought_276
                clear e39
                refine lv_icmp_ge (tgt := 256) hx hb dL_isBrought_228 (by decide) (fun c43 => ?_) (fun c43 => ?_)
                · replace h := h.1 c43
                  exact w38 _ _ _ (lv_sub hl [0, 1, 2] rfl) hP hD hS h
                · replace h := h.2 c43
                  refine lv_iload hx hb dL_isBrought_231 (lv_at hl 2 rfl) ?_
                  refine lv_if_eq (tgt := 256) hx hb dL_isBrought_233 (by decide) (fun c44 => ?_) (fun c44 => ?_)
                  · replace h := h.1 c44
                    exact w38 _ _ _ (lv_sub hl [0, 1, 2] rfl) hP hD hS h
                  · replace h := h.2 c44
                    refine lv_aload_n hx hb dL_isBrought_236 rfl (lv_at hl 0 rfl) ?_
                    refine rwVi0 (As := []) (rest := []) F (c_X3_undo l D cI cS cJ G u34 H.size  h) (cw_L_101 hts (Nat.le_of_ble_eq_true rfl) (Nat.le_of_ble_eq_true rfl)) hK hP hD hS hA (recv (ci := 3) (k0 := 0) hK hP rfl rfl) rfl hl.1 rfl (Nat.le_of_ble_eq_true rfl) dL_isBrought_237 ⟨(Nat.le_of_ble_eq_true rfl), (Nat.le_of_ble_eq_true rfl)⟩ (fun r45 u46 H locs h hP hD hS => ?_)
                    refine jn_e h (fun J49 e51 h => ?_)
                    have w50 : ∀ (x47 : Int32) (ls : Array Slot) (H : Heap) (locs : List Loc), bz x47 → lv_has ls 12 [(0, .ref (G 2 0)), (4, .long r6), (11, .int x33)] → va_P D vwCl (neW cI cS G u46) H → va_D A (neW cI cS G u46) → va_S A H0 H locs → J49 x47 → W p l e rm_L_isBrought s m args below meth c H locs 0 0 Q (F0 m 248 ls [.int x47]) := by
                      intro x47 ls H locs b48 hl hP hD hS h
                      subst e51
                      refine lv_istore (lv' := [(8, .int x47), (0, .ref (G 2 0)), (4, .long r6), (11, .int x33)]) hx hb dL_isBrought_248 hl (by decide) rfl (fun ls hl => ?_)
                      refine lv_iinc (v := (x33 + 1)) (lv' := [(11, .int (x33 + 1)), (8, .int x47), (0, .ref (G 2 0)), (4, .long r6)]) hx hb dL_isBrought_250 hl (k := 3) rfl rfl (by decide) rfl (fun ls hl => ?_)
                      refine lv_goto (tgt := 224) hx hb dL_isBrought_253 (by decide) ?_
                      exact w36 x47 (x33 + 1) u46 _ _ _ b48 (lv_sub hl [2, 3, 1, 0] rfl) hP hD hS h
                    clear e51
                    refine lv_if_lt (tgt := 247) hx hb dL_isBrought_240 (by decide) (fun c52 => ?_) (fun c52 => ?_)
                    · replace h := h.1 c52
                      refine lv_iconst (v := (0 : Int32)) hx hb dL_isBrought_247 (by decide) ?_
                      exact w50 (0 : Int32) _ _ _ bz0 (lv_sub hl [0, 1, 3] rfl) hP hD hS h
                    · replace h := h.2 c52
                      refine lv_iconst (v := (1 : Int32)) hx hb dL_isBrought_243 (by decide) ?_
                      refine lv_goto (tgt := 248) hx hb dL_isBrought_244 (by decide) ?_
                      exact w50 (1 : Int32) _ _ _ bz1 (lv_sub hl [0, 1, 3] rfl) hP hD hS h
              · intro K35 w36 h
                exact w36 x25 (0 : Int32) u27 _ _ _ b26 (lv_sub hl [2, 3, 1, 0] rfl) hP hD hS h
            clear e30
            refine jn_e h (fun J54 e56 h => ?_)
            have w55 : ∀ (u53 : Ne) (ls : Array Slot) (H : Heap) (locs : List Loc), lv_has ls 12 [(0, .ref (G 2 0)), (4, .long r6)] → va_P D vwCl (neW cI cS G u53) H → va_D A (neW cI cS G u53) → va_S A H0 H locs → J54 u53 → W p l e rm_L_isBrought s m args below meth c H locs 0 0 Q (F0 m 218 ls []) := by
              intro u53 ls H locs hl hP hD hS h
              subst e56
              refine lv_iconst (v := (0 : Int32)) hx hb dL_isBrought_218 (by decide) ?_
              exact w29 (0 : Int32) u53 _ _ _ bz0 hl hP hD hS h
            clear e56
            refine lv_if_eq (tgt := 218) hx hb dL_isBrought_144 (by decide) (fun c57 => ?_) (fun c57 => ?_)
            · replace h := h.1 c57
              exact w55 u18 _ _ _ (lv_sub hl [0, 3] rfl) hP hD hS h
            · replace h := h.2 c57
              refine lv_iload hx hb dL_isBrought_147 (lv_at hl 6 rfl) ?_
              refine lv_if_lt (tgt := 218) hx hb dL_isBrought_149 (by decide) (fun c58 => ?_) (fun c58 => ?_)
              · replace h := h.1 c58
                exact w55 u18 _ _ _ (lv_sub hl [0, 3] rfl) hP hD hS h
              · replace h := h.2 c58
                refine lv_aload_n hx hb dL_isBrought_152 rfl (lv_at hl 0 rfl) ?_
                refine lv_iconst (v := (4 : Int32)) hx hb dL_isBrought_153 (by decide) ?_
                refine rwVi0 (As := [.int (4 : Int32)]) (rest := []) F (c_X3_pass l D cI cS cJ G u18 H.size (4 : Int32) h) (cw_L_62 hts (Nat.le_of_ble_eq_true rfl) (Nat.le_of_ble_eq_true rfl)) hK hP hD hS hA (recv (ci := 3) (k0 := 0) hK hP rfl rfl) rfl hl.1 rfl (Nat.le_of_ble_eq_true rfl) dL_isBrought_154 ⟨(Nat.le_of_ble_eq_true rfl), (Nat.le_of_ble_eq_true rfl)⟩ (fun r59 u60 H locs h hP hD hS => ?_)
                refine lv_iload hx hb dL_isBrought_157 (lv_at hl 7 rfl) ?_
                refine lv_icmp_ne (tgt := 218) hx hb dL_isBrought_159 (by decide) (fun c61 => ?_) (fun c61 => ?_)
                · replace h := h.1 c61
                  exact w55 u60 _ _ _ (lv_sub hl [0, 3] rfl) hP hD hS h
                · replace h := h.2 c61
                  refine lv_aload_n hx hb dL_isBrought_162 rfl (lv_at hl 0 rfl) ?_
                  refine roVi (As := []) (rest := []) F (c_X3_envelopes l D cI cS cJ G u60 H  h) (cw_L_21 hts (Nat.le_of_ble_eq_true rfl) (Nat.le_of_ble_eq_true rfl)) hK hP (recv (ci := 3) (k0 := 0) hK hP rfl rfl) rfl hl.1 rfl (Nat.le_of_ble_eq_true rfl) dL_isBrought_163 ⟨(Nat.le_of_ble_eq_true rfl), (Nat.le_of_ble_eq_true rfl)⟩ (fun r62 h => ?_)
                  refine lv_if_ne (tgt := 218) hx hb dL_isBrought_166 (by decide) (fun c63 => ?_) (fun c63 => ?_)
                  · replace h := h.1 c63
                    exact w55 u60 _ _ _ (lv_sub hl [0, 3] rfl) hP hD hS h
                  · replace h := h.2 c63
                    refine lv_aload_n hx hb dL_isBrought_169 rfl (lv_at hl 0 rfl) ?_
                    refine lv_iload hx hb dL_isBrought_170 (lv_at hl 4 rfl) ?_
                    refine roVi (As := [.int r7]) (rest := []) F (c_X3_letter l D cI cS cJ G u60 H r7 h) (cw_L_95 hts (Nat.le_of_ble_eq_true rfl) (Nat.le_of_ble_eq_true rfl)) hK hP (recv (ci := 3) (k0 := 0) hK hP rfl rfl) rfl hl.1 rfl (Nat.le_of_ble_eq_true rfl) dL_isBrought_172 ⟨(Nat.le_of_ble_eq_true rfl), (Nat.le_of_ble_eq_true rfl)⟩ (fun r64 h => ?_)
                    refine lv_iload_n hx hb dL_isBrought_175 rfl (lv_at hl 1 rfl) ?_
                    refine lv_icmp_ne (tgt := 218) hx hb dL_isBrought_176 (by decide) (fun c65 => ?_) (fun c65 => ?_)
                    · replace h := h.1 c65
                      exact w55 u60 _ _ _ (lv_sub hl [0, 3] rfl) hP hD hS h
                    · replace h := h.2 c65
                      refine lv_aload_n hx hb dL_isBrought_179 rfl (lv_at hl 0 rfl) ?_
                      refine lv_iload hx hb dL_isBrought_180 (lv_at hl 4 rfl) ?_
                      refine lv_iload_n hx hb dL_isBrought_182 rfl (lv_at hl 2 rfl) ?_
                      refine rwVi0 (As := [.int r7, .int p3]) (rest := []) F (c_X3_answer l D cI cS cJ G u60 H.size r7 p3 h) (cw_L_49 hts (Nat.le_of_ble_eq_true rfl) (Nat.le_of_ble_eq_true rfl)) hK hP hD hS hA (recv (ci := 3) (k0 := 0) hK hP rfl rfl) rfl hl.1 rfl (Nat.le_of_ble_eq_true rfl) dL_isBrought_183 ⟨(Nat.le_of_ble_eq_true rfl), (Nat.le_of_ble_eq_true rfl)⟩ (fun r66 u67 H locs h hP hD hS => ?_)
                      refine lv_if_ne (tgt := 218) hx hb dL_isBrought_186 (by decide) (fun c68 => ?_) (fun c68 => ?_)
                      · replace h := h.1 c68
                        exact w55 u67 _ _ _ (lv_sub hl [0, 3] rfl) hP hD hS h
                      · replace h := h.2 c68
                        refine lv_aload_n hx hb dL_isBrought_189 rfl (lv_at hl 0 rfl) ?_
                        refine lv_iconst (v := (3 : Int32)) hx hb dL_isBrought_190 (by decide) ?_
                        refine rwVi0 (As := [.int (3 : Int32)]) (rest := []) F (c_X3_pass l D cI cS cJ G u67 H.size (3 : Int32) h) (cw_L_62 hts (Nat.le_of_ble_eq_true rfl) (Nat.le_of_ble_eq_true rfl)) hK hP hD hS hA (recv (ci := 3) (k0 := 0) hK hP rfl rfl) rfl hl.1 rfl (Nat.le_of_ble_eq_true rfl) dL_isBrought_191 ⟨(Nat.le_of_ble_eq_true rfl), (Nat.le_of_ble_eq_true rfl)⟩ (fun r69 u70 H locs h hP hD hS => ?_)
                        refine lv_if_ne (tgt := 218) hx hb dL_isBrought_194 (by decide) (fun c71 => ?_) (fun c71 => ?_)
                        · replace h := h.1 c71
                          exact w55 u70 _ _ _ (lv_sub hl [0, 3] rfl) hP hD hS h
                        · replace h := h.2 c71
                          refine lv_aload_n hx hb dL_isBrought_197 rfl (lv_at hl 0 rfl) ?_
                          refine lv_iconst (v := (1 : Int32)) hx hb dL_isBrought_198 (by decide) ?_
                          refine rwVi0 (As := [.int (1 : Int32)]) (rest := []) F (c_X3_pass l D cI cS cJ G u70 H.size (1 : Int32) h) (cw_L_62 hts (Nat.le_of_ble_eq_true rfl) (Nat.le_of_ble_eq_true rfl)) hK hP hD hS hA (recv (ci := 3) (k0 := 0) hK hP rfl rfl) rfl hl.1 rfl (Nat.le_of_ble_eq_true rfl) dL_isBrought_199 ⟨(Nat.le_of_ble_eq_true rfl), (Nat.le_of_ble_eq_true rfl)⟩ (fun r72 u73 H locs h hP hD hS => ?_)
                          refine lv_iconst (v := (1 : Int32)) hx hb dL_isBrought_202 (by decide) ?_
                          refine lv_icmp_ne (tgt := 218) hx hb dL_isBrought_203 (by decide) (fun c74 => ?_) (fun c74 => ?_)
                          · replace h := h.1 c74
                            exact w55 u73 _ _ _ (lv_sub hl [0, 3] rfl) hP hD hS h
                          · replace h := h.2 c74
                            refine lv_aload_n hx hb dL_isBrought_206 rfl (lv_at hl 0 rfl) ?_
                            refine roVi (As := []) (rest := []) F (c_X3_lastAnswer l D cI cS cJ G u73 H  h) (cw_L_98 hts (Nat.le_of_ble_eq_true rfl) (Nat.le_of_ble_eq_true rfl)) hK hP (recv (ci := 3) (k0 := 0) hK hP rfl rfl) rfl hl.1 rfl (Nat.le_of_ble_eq_true rfl) dL_isBrought_207 ⟨(Nat.le_of_ble_eq_true rfl), (Nat.le_of_ble_eq_true rfl)⟩ (fun r75 h => ?_)
                            refine lv_iload_n hx hb dL_isBrought_210 rfl (lv_at hl 2 rfl) ?_
                            refine lv_icmp_ne (tgt := 218) hx hb dL_isBrought_211 (by decide) (fun c76 => ?_) (fun c76 => ?_)
                            · replace h := h.1 c76
                              exact w55 u73 _ _ _ (lv_sub hl [0, 3] rfl) hP hD hS h
                            · replace h := h.2 c76
                              refine lv_iconst (v := (1 : Int32)) hx hb dL_isBrought_214 (by decide) ?_
                              refine lv_goto (tgt := 219) hx hb dL_isBrought_215 (by decide) ?_
                              exact w29 (1 : Int32) u73 _ _ _ bz1 (lv_sub hl [0, 3] rfl) hP hD hS h
          · replace h := h.2 c24
            refine lv_iload hx hb dL_isBrought_116 (lv_at hl 7 rfl) ?_
            refine lv_aload_n hx hb dL_isBrought_118 rfl (lv_at hl 0 rfl) ?_
            refine lv_iload hx hb dL_isBrought_119 (lv_at hl 8 rfl) ?_
            refine roVi (As := [.int x20]) (rest := [.int x19]) F (c_X3_ticksTo l D cI cS cJ G u18 H x20 h) (cw_L_55 hts (Nat.le_of_ble_eq_true rfl) (Nat.le_of_ble_eq_true rfl)) hK hP (recv (ci := 3) (k0 := 0) hK hP rfl rfl) rfl hl.1 rfl (Nat.le_of_ble_eq_true rfl) dL_isBrought_121 ⟨(Nat.le_of_ble_eq_true rfl), (Nat.le_of_ble_eq_true rfl)⟩ (fun r77 h => ?_)
            refine lv_iconst (v := (-1 : Int32)) hx hb dL_isBrought_124 (by decide) ?_
            refine jn_e h (fun J80 e82 h => ?_)
            have w81 : ∀ (x78 : Int32) (ls : Array Slot) (H : Heap) (locs : List Loc), bz x78 → lv_has ls 12 [(0, .ref (G 2 0)), (2, .int p2), (3, .int p3), (4, .long r6), (6, .int r7), (8, .int x11), (9, .int r17), (11, .int x20)] → va_P D vwCl (neW cI cS G u18) H → va_D A (neW cI cS G u18) → va_S A H0 H locs → J80 x78 → W p l e rm_L_isBrought s m args below meth c H locs 0 0 Q (F0 m 133 ls [.int x78, .int x19]) := by
              intro x78 ls H locs b79 hl hP hD hS h
              subst e82
              refine lv_iadd hx hb dL_isBrought_133 ?_
              refine lv_istore (lv' := [(10, .int (x19 + x78)), (0, .ref (G 2 0)), (2, .int p2), (3, .int p3), (4, .long r6), (6, .int r7), (8, .int x11), (9, .int r17), (11, .int x20)]) hx hb dL_isBrought_134 hl (by decide) rfl (fun ls hl => ?_)
              refine lv_iinc (v := (x20 + 1)) (lv' := [(11, .int (x20 + 1)), (10, .int (x19 + x78)), (0, .ref (G 2 0)), (2, .int p2), (3, .int p3), (4, .long r6), (6, .int r7), (8, .int x11), (9, .int r17)]) hx hb dL_isBrought_136 hl (k := 8) rfl rfl (by decide) rfl (fun ls hl => ?_)
              refine lv_goto (tgt := 107) hx hb dL_isBrought_139 (by decide) ?_
              exact w22 (x19 + x78) (x20 + 1) _ _ _ (lv_sub hl [2, 3, 4, 5, 6, 7, 8, 1, 0] rfl) hP hD hS h
            clear e82
            refine lv_icmp_ne (tgt := 132) hx hb dL_isBrought_125 (by decide) (fun c83 => ?_) (fun c83 => ?_)
            · replace h := h.1 c83
              refine lv_iconst (v := (1 : Int32)) hx hb dL_isBrought_132 (by decide) ?_
              exact w81 (1 : Int32) _ _ _ bz1 (lv_sub hl [0, 1, 2, 3, 4, 5, 6, 8] rfl) hP hD hS h
            · replace h := h.2 c83
              refine lv_iconst (v := (0 : Int32)) hx hb dL_isBrought_128 (by decide) ?_
              refine lv_goto (tgt := 133) hx hb dL_isBrought_129 (by decide) ?_
              exact w81 (0 : Int32) _ _ _ bz0 (lv_sub hl [0, 1, 2, 3, 4, 5, 6, 8] rfl) hP hD hS h
        · intro K21 w22 h
          exact w22 (0 : Int32) (0 : Int32) _ _ _ (lv_sub hl [4, 6, 7, 8, 9, 3, 2, 1, 0] rfl) hP hD hS h
      clear e15
      refine jn_e h (fun J84 e86 h => ?_)
      have w85 : ∀  (ls : Array Slot) (H : Heap) (locs : List Loc), lv_has ls 12 [(0, .ref (G 2 0)), (1, .int p1), (2, .int p2), (3, .int p3), (4, .long r6), (6, .int r7)] → va_P D vwCl (neW cI cS G u9) H → va_D A (neW cI cS G u9) → va_S A H0 H locs → J84 → W p l e rm_L_isBrought s m args below meth c H locs 0 0 Q (F0 m 85 ls []) := by
        intro ls H locs hl hP hD hS h
        subst e86
        refine lv_iconst (v := (0 : Int32)) hx hb dL_isBrought_85 (by decide) ?_
        exact w14 (0 : Int32) _ _ _ bz0 hl hP hD hS h
      clear e86
      refine lv_icmp_ne (tgt := 85) hx hb dL_isBrought_48 (by decide) (fun c87 => ?_) (fun c87 => ?_)
      · replace h := h.1 c87
        exact w85 _ _ _ (lv_sub hl [3, 4, 5, 6, 2, 1] rfl) hP hD hS h
      · replace h := h.2 c87
        refine lv_aload_n hx hb dL_isBrought_51 rfl (lv_at hl 3 rfl) ?_
        refine lv_iload hx hb dL_isBrought_52 (lv_at hl 0 rfl) ?_
        refine lv_iconst (v := (1 : Int32)) hx hb dL_isBrought_54 (by decide) ?_
        refine roVi (As := [.int r8, .int (1 : Int32)]) (rest := []) F (c_X3_envelope l D cI cS cJ G u9 H r8 (1 : Int32) h) (cw_L_39 hts (Nat.le_of_ble_eq_true rfl) (Nat.le_of_ble_eq_true rfl)) hK hP (recv (ci := 3) (k0 := 0) hK hP rfl rfl) rfl hl.1 rfl (Nat.le_of_ble_eq_true rfl) dL_isBrought_55 ⟨(Nat.le_of_ble_eq_true rfl), (Nat.le_of_ble_eq_true rfl)⟩ (fun r88 h => ?_)
        refine lv_if_ne (tgt := 85) hx hb dL_isBrought_58 (by decide) (fun c89 => ?_) (fun c89 => ?_)
        · replace h := h.1 c89
          exact w85 _ _ _ (lv_sub hl [3, 4, 5, 6, 2, 1] rfl) hP hD hS h
        · replace h := h.2 c89
          refine lv_aload_n hx hb dL_isBrought_61 rfl (lv_at hl 3 rfl) ?_
          refine lv_iload hx hb dL_isBrought_62 (lv_at hl 0 rfl) ?_
          refine lv_iconst (v := (3 : Int32)) hx hb dL_isBrought_64 (by decide) ?_
          refine roVi (As := [.int r8, .int (3 : Int32)]) (rest := []) F (c_X3_envelope l D cI cS cJ G u9 H r8 (3 : Int32) h) (cw_L_39 hts (Nat.le_of_ble_eq_true rfl) (Nat.le_of_ble_eq_true rfl)) hK hP (recv (ci := 3) (k0 := 0) hK hP rfl rfl) rfl hl.1 rfl (Nat.le_of_ble_eq_true rfl) dL_isBrought_65 ⟨(Nat.le_of_ble_eq_true rfl), (Nat.le_of_ble_eq_true rfl)⟩ (fun r90 h => ?_)
          refine lv_if_ne (tgt := 85) hx hb dL_isBrought_68 (by decide) (fun c91 => ?_) (fun c91 => ?_)
          · replace h := h.1 c91
            exact w85 _ _ _ (lv_sub hl [3, 4, 5, 6, 2, 1] rfl) hP hD hS h
          · replace h := h.2 c91
            refine lv_aload_n hx hb dL_isBrought_71 rfl (lv_at hl 3 rfl) ?_
            refine lv_iload hx hb dL_isBrought_72 (lv_at hl 0 rfl) ?_
            refine roVi (As := [.int r8]) (rest := []) F (c_X3_ticksTo l D cI cS cJ G u9 H r8 h) (cw_L_55 hts (Nat.le_of_ble_eq_true rfl) (Nat.le_of_ble_eq_true rfl)) hK hP (recv (ci := 3) (k0 := 0) hK hP rfl rfl) rfl hl.1 rfl (Nat.le_of_ble_eq_true rfl) dL_isBrought_74 ⟨(Nat.le_of_ble_eq_true rfl), (Nat.le_of_ble_eq_true rfl)⟩ (fun r92 h => ?_)
            refine lv_iconst (v := (4 : Int32)) hx hb dL_isBrought_77 (by decide) ?_
            refine lv_icmp_ne (tgt := 85) hx hb dL_isBrought_78 (by decide) (fun c93 => ?_) (fun c93 => ?_)
            · replace h := h.1 c93
              exact w85 _ _ _ (lv_sub hl [3, 4, 5, 6, 2, 1] rfl) hP hD hS h
            · replace h := h.2 c93
              refine lv_iconst (v := (1 : Int32)) hx hb dL_isBrought_81 (by decide) ?_
              refine lv_goto (tgt := 86) hx hb dL_isBrought_82 (by decide) ?_
              exact w14 (1 : Int32) _ _ _ bz1 (lv_sub hl [3, 4, 5, 6, 2, 1] rfl) hP hD hS h
    · replace h := h.2 c5
      refine lv_iconst (v := (1 : Int32)) hx hb dL_isBrought_17 (by decide) ?_
      exact hQ bz1 h hP hD hS dL_isBrought_18

def wp_L_holds (u : Ne)  (post : Int32 → Prop) : Prop :=
  wp_X3_envelopes u (fun r1 => wp_X3_count u (0 : Int32) (fun r2 => wp_X3_count u (2 : Int32) (fun r3 => wp_X3_count u (1 : Int32) (fun r4 => wp_X3_count u (3 : Int32) (fun r5 => wp_X3_count u (4 : Int32) (fun r6 => jn (fun (x7 : Int32) => LP3 (fun (K16 : Int32 → Int32 → Int32 → Prop) (x12 : Int32) (x13 : Int32) (x15 : Int32) => wp_X3_envelopes u (fun r18 => (r18 ≤ x15 → LP2 (fun (K23 : Int32 → Int32 → Prop) (x20 : Int32) (x22 : Int32) => ((8 : Int32) ≤ x22 → LP2 (fun (K29 : Int32 → Int32 → Prop) (x26 : Int32) (x28 : Int32) => wp_X3_roads u (fun r31 => (r31 ≤ x28 → wp_X3_leastWork u (1 : Int32) (fun r33 => wp_X3_leastWork u (2 : Int32) (fun r34 => wp_X3_leastWork u (3 : Int32) (fun r35 => (x26 = 0 → post (0 : Int32)) ∧ (¬ x26 = 0 → jn (jn ((r35 = (-1 : Int32) → post (1 : Int32)) ∧ (¬ r35 = (-1 : Int32) → (r34 < 0 → post (0 : Int32)) ∧ (¬ r34 < 0 → (r35 = r33 → post (0 : Int32)) ∧ (¬ r35 = r33 → (r35 = r34 → post (0 : Int32)) ∧ (¬ r35 = r34 → wp_X3_isOpen u r35 (fun r47 => (r47 = 0 → post (0 : Int32)) ∧ (¬ r47 = 0 → post (1 : Int32)))))))) (fun (J40 : Prop) => (r34 = (-1 : Int32) → J40) ∧ (¬ r34 = (-1 : Int32) → (r33 < 0 → post (0 : Int32)) ∧ (¬ r33 < 0 → (r33 = r34 → post (0 : Int32)) ∧ (¬ r33 = r34 → wp_X3_isOpen u r34 (fun r53 => (r53 = 0 → post (0 : Int32)) ∧ (¬ r53 = 0 → J40))))))) (fun (J37 : Prop) => (r33 = (-1 : Int32) → J37) ∧ (¬ r33 = (-1 : Int32) → wp_X3_isOpen u r33 (fun r57 => (r57 = 0 → post (0 : Int32)) ∧ (¬ r57 = 0 → J37))))))))) ∧ (¬ r31 ≤ x28 → jn (fun (x60 : Int32) => K29 x60 (x28 + 1)) (fun (J62 : Int32 → Prop) => jn (J62 (0 : Int32)) (fun (J65 : Prop) => (x26 = 0 → J65) ∧ (¬ x26 = 0 → wp_X3_stands u x28 (fun r69 => wp_X3_inn u x28 (1 : Int32) (fun r71 => wp_X3_isOpen u r71 (fun r72 => jn (fun (x74 : Int32) => (¬ r69 = x74 → J65) ∧ (r69 = x74 → J62 (1 : Int32))) (fun (J76 : Int32 → Prop) => jn (J76 (0 : Int32)) (fun (J80 : Prop) => (r72 = 0 → J80) ∧ (¬ r72 = 0 → wp_X3_inn u x28 (2 : Int32) (fun r84 => wp_X3_isOpen u r84 (fun r85 => (r85 = 0 → J80) ∧ (¬ r85 = 0 → wp_X3_inn u x28 (3 : Int32) (fun r88 => wp_X3_isOpen u r88 (fun r89 => (r89 = 0 → J80) ∧ (¬ r89 = 0 → J76 (1 : Int32))))))))))))))))))) x20 (0 : Int32)) ∧ (¬ (8 : Int32) ≤ x22 → LP3 (fun (K96 : Int32 → Int32 → Int32 → Prop) (x92 : Int32) (x94 : Int32) (x95 : Int32) => wp_X3_roads u (fun r98 => (r98 ≤ x95 → jn (fun (x100 : Int32) => LP2 (fun (K108 : Int32 → Int32 → Prop) (x105 : Int32) (x107 : Int32) => ((8 : Int32) ≤ x107 → K23 x105 (x22 + 1)) ∧ (¬ (8 : Int32) ≤ x107 → jn (fun (x111 : Int32) => K108 x111 (x107 + 1)) (fun (J113 : Int32 → Prop) => jn (J113 (0 : Int32)) (fun (J116 : Prop) => (x105 = 0 → J116) ∧ (¬ x105 = 0 → wp_X3_known u x22 (fun r120 => wp_X3_known u x107 (fun r121 => (¬ ((r120 >>> (x107 &&& 31)) &&& (1 : Int32)) = ((r121 >>> (x22 &&& 31)) &&& (1 : Int32)) → J116) ∧ (((r120 >>> (x107 &&& 31)) &&& (1 : Int32)) = ((r121 >>> (x22 &&& 31)) &&& (1 : Int32)) → J113 (1 : Int32))))))))) x100 (0 : Int32)) (fun (J102 : Int32 → Prop) => jn (J102 (0 : Int32)) (fun (J123 : Prop) => (x92 = 0 → J123) ∧ (¬ x92 = 0 → wp_X3_known u x22 (fun r127 => (¬ r127 = x94 → J123) ∧ (r127 = x94 → (¬ ((x94 >>> (x22 &&& 31)) &&& (1 : Int32)) = 0 → J123) ∧ (((x94 >>> (x22 &&& 31)) &&& (1 : Int32)) = 0 → wp_X3_isOpen u x22 (fun r130 => jn (wp_X3_lostIfClosed u x22 (fun r135 => (r135 < x12 → J123) ∧ (¬ r135 < x12 → J102 (1 : Int32)))) (fun (J132 : Prop) => (¬ r130 = 0 → J132) ∧ (r130 = 0 → wp_X3_lostIfClosed u x22 (fun r138 => (¬ r138 = x12 → J123) ∧ (r138 = x12 → J132)))))))))))) ∧ (¬ r98 ≤ x95 → wp_X3_see u x22 x95 (0 : Int32) (fun r140 => wp_X3_see u x22 x95 (1 : Int32) (fun r141 => wp_X3_inn u x95 (1 : Int32) (fun r142 => jn (fun (x143 : Int32) => jn (fun (x147 : Int32) => jn (fun (x151 : Int32) => jn (fun (x155 : Int32) => K96 x155 ((x94 ||| x147) ||| x151) (x95 + 1)) (fun (J157 : Int32 → Prop) => jn (J157 (0 : Int32)) (fun (J160 : Prop) => (x92 = 0 → J160) ∧ (¬ x92 = 0 → jn (fun (x164 : Int32) => (¬ r140 = x164 → J160) ∧ (r140 = x164 → jn (fun (x169 : Int32) => (¬ r141 = x169 → J160) ∧ (r141 = x169 → J157 (1 : Int32))) (fun (J170 : Int32 → Prop) => (¬ x143 = 0 → (¬ x143 = (3 : Int32) → wp_X3_inn u x95 (x143 + (1 : Int32)) (fun r176 => J170 r176)) ∧ (x143 = (3 : Int32) → wp_X3_hall u x95 (fun r177 => J170 ((10 : Int32) + r177)))) ∧ (x143 = 0 → J170 (-1 : Int32))))) (fun (J165 : Int32 → Prop) => (¬ x143 = 0 → (¬ x143 = (1 : Int32) → wp_X3_inn u x95 (x143 - (1 : Int32)) (fun r180 => J165 r180)) ∧ (x143 = (1 : Int32) → J165 (8 : Int32))) ∧ (x143 = 0 → J165 (-1 : Int32))))))) (fun (J152 : Int32 → Prop) => jn (J152 (0 : Int32)) (fun (J181 : Prop) => (r141 < 0 → J181) ∧ (¬ r141 < 0 → ((8 : Int32) ≤ r141 → J181) ∧ (¬ (8 : Int32) ≤ r141 → J152 ((1 : Int32) <<< (r141 &&& 31))))))) (fun (J148 : Int32 → Prop) => jn (J148 (0 : Int32)) (fun (J186 : Prop) => (r140 < 0 → J186) ∧ (¬ r140 < 0 → ((8 : Int32) ≤ r140 → J186) ∧ (¬ (8 : Int32) ≤ r140 → J148 ((1 : Int32) <<< (r140 &&& 31))))))) (fun (J144 : Int32 → Prop) => (¬ r142 = x22 → wp_X3_inn u x95 (2 : Int32) (fun r192 => (¬ r192 = x22 → wp_X3_inn u x95 (3 : Int32) (fun r194 => (¬ r194 = x22 → J144 (0 : Int32)) ∧ (r194 = x22 → J144 (3 : Int32)))) ∧ (r192 = x22 → J144 (2 : Int32)))) ∧ (r142 = x22 → J144 (1 : Int32))))))))) x20 (0 : Int32) (0 : Int32))) x13 (0 : Int32)) ∧ (¬ r18 ≤ x15 → wp_X3_envelope u x15 (3 : Int32) (fun r196 => jn (fun (x197 : Int32) => wp_X3_envelope u x15 (1 : Int32) (fun r202 => wp_X3_ticksTo u x15 (fun r203 => jn (fun (x204 : Int32) => jn (fun (x209 : Int32) => K16 (x12 + x204) x209 (x15 + 1)) (fun (J211 : Int32 → Prop) => jn (J211 (0 : Int32)) (fun (J214 : Prop) => (x13 = 0 → J214) ∧ (¬ x13 = 0 → wp_X3_envelope u x15 (2 : Int32) (fun r218 => (r218 < 0 → J214) ∧ (¬ r218 < 0 → wp_X3_envelope u x15 (2 : Int32) (fun r220 => ((9999 : Int32) < r220 → J214) ∧ (¬ (9999 : Int32) < r220 → wp_X3_envelope u x15 (0 : Int32) (fun r222 => (r222 < 0 → J214) ∧ (¬ r222 < 0 → wp_X3_envelope u x15 (0 : Int32) (fun r224 => wp_X3_roads u (fun r225 => (r225 ≤ r224 → J214) ∧ (¬ r225 ≤ r224 → jn (J211 (1 : Int32)) (fun (J227 : Prop) => (r203 = (-1 : Int32) → J227) ∧ (¬ r203 = (-1 : Int32) → jn (fun (x231 : Int32) => (¬ r203 = x231 → J214) ∧ (r203 = x231 → J227)) (fun (J232 : Int32 → Prop) => (x197 = 0 → J232 ((4 : Int32) - r202)) ∧ (¬ x197 = 0 → J232 r202))))))))))))))))) (fun (J206 : Int32 → Prop) => (¬ r203 = (-1 : Int32) → J206 (0 : Int32)) ∧ (r203 = (-1 : Int32) → J206 (1 : Int32)))))) (fun (J199 : Int32 → Prop) => (¬ r196 = (1 : Int32) → J199 (0 : Int32)) ∧ (r196 = (1 : Int32) → J199 (1 : Int32))))))) (0 : Int32) x7 (0 : Int32)) (fun (J9 : Int32 → Prop) => jn (J9 (0 : Int32)) (fun (J239 : Prop) => (¬ r1 = ((((r2 + r3) - r4) - r5) - r6) → J239) ∧ (r1 = ((((r2 + r3) - r4) - r5) - r6) → wp_X3_envelopes u (fun r243 => (r243 < 0 → J239) ∧ (¬ r243 < 0 → wp_X3_envelopes u (fun r245 => ((12 : Int32) < r245 → J239) ∧ (¬ (12 : Int32) < r245 → wp_X3_roads u (fun r247 => ((6 : Int32) < r247 → J239) ∧ (¬ (6 : Int32) < r247 → wp_X3_deliveredShare u (fun r249 => ((Op.cmpValue (FP.dcmp r249 FP.dconst0) CmpOp.l) < 0 → J239) ∧ (¬ (Op.cmpValue (FP.dcmp r249 FP.dconst0) CmpOp.l) < 0 → wp_X3_deliveredShare u (fun r251 => (0 < (Op.cmpValue (FP.dcmp r251 FP.dconst1) CmpOp.g) → J239) ∧ (¬ 0 < (Op.cmpValue (FP.dcmp r251 FP.dconst1) CmpOp.g) → J9 (1 : Int32))))))))))))))))))))
set_option maxHeartbeats 4000000 in
set_option maxRecDepth 100000 in
theorem c_L_holds (l : Launch) (D : va_G) (cI cS cJ : ClassId) (G : Nat → Nat → Nat) (u : Ne) (H0 : Heap)  {post : Int32 → Prop} (h : wp_L_holds u  post) : Met l yL_holds (wsA yL_holds cL_holds 9 (some .boolean)) rm_L_holds (va_Pc [.ref (G 2 0)] (roP D (tysA cI cS cJ) (neW cI cS G u) H0)) (va_Qi (fun r (_ : Unit) => bz r ∧ post r) (fun _ t => t.heap = H0) nF) 0 0 nF := by
  refine mkROz (by decide +kernel) (Nat.le_of_ble_eq_true rfl) (fun {p e s m args below meth c Q ls} hx hb F hts hown hK hP hl hQ => ?_)
  have hown : s.vm.findClass RL = some m.cls := hown
  have F : CallFix p m c cL_holds 9 s args wsT RL := F
  have hl : lv_has ls 9 [(0, .ref (G 2 0))] := hl
  unfold wp_L_holds at h
  refine lv_iconst (v := (0 : Int32)) hx hb dL_holds_0 (by decide) ?_
  refine lv_istore_n (lv' := [(1, .int (0 : Int32)), (0, .ref (G 2 0))]) hx hb dL_holds_1 rfl hl (by decide) rfl (fun ls hl => ?_)
  refine lv_aload_n hx hb dL_holds_2 rfl (lv_at hl 1 rfl) ?_
  refine roVi (As := []) (rest := []) F (c_X3_envelopes l D cI cS cJ G u H0  h) (cw_L_21 hts (Nat.le_of_ble_eq_true rfl) (Nat.le_of_ble_eq_true rfl)) hK hP (recv (ci := 3) (k0 := 0) hK hP rfl rfl) rfl hl.1 rfl (Nat.le_of_ble_eq_true rfl) dL_holds_3 ⟨(Nat.le_of_ble_eq_true rfl), (Nat.le_of_ble_eq_true rfl)⟩ (fun r1 h => ?_)
  refine lv_aload_n hx hb dL_holds_6 rfl (lv_at hl 1 rfl) ?_
  refine lv_iconst (v := (0 : Int32)) hx hb dL_holds_7 (by decide) ?_
  refine roVi (As := [.int (0 : Int32)]) (rest := [.int r1]) F (c_X3_count l D cI cS cJ G u H0 (0 : Int32) h) (cw_L_65 hts (Nat.le_of_ble_eq_true rfl) (Nat.le_of_ble_eq_true rfl)) hK hP (recv (ci := 3) (k0 := 0) hK hP rfl rfl) rfl hl.1 rfl (Nat.le_of_ble_eq_true rfl) dL_holds_8 ⟨(Nat.le_of_ble_eq_true rfl), (Nat.le_of_ble_eq_true rfl)⟩ (fun r2 h => ?_)
  refine lv_aload_n hx hb dL_holds_11 rfl (lv_at hl 1 rfl) ?_
  refine lv_iconst (v := (2 : Int32)) hx hb dL_holds_12 (by decide) ?_
  refine roVi (As := [.int (2 : Int32)]) (rest := [.int r2, .int r1]) F (c_X3_count l D cI cS cJ G u H0 (2 : Int32) h) (cw_L_65 hts (Nat.le_of_ble_eq_true rfl) (Nat.le_of_ble_eq_true rfl)) hK hP (recv (ci := 3) (k0 := 0) hK hP rfl rfl) rfl hl.1 rfl (Nat.le_of_ble_eq_true rfl) dL_holds_13 ⟨(Nat.le_of_ble_eq_true rfl), (Nat.le_of_ble_eq_true rfl)⟩ (fun r3 h => ?_)
  refine lv_iadd hx hb dL_holds_16 ?_
  refine lv_aload_n hx hb dL_holds_17 rfl (lv_at hl 1 rfl) ?_
  refine lv_iconst (v := (1 : Int32)) hx hb dL_holds_18 (by decide) ?_
  refine roVi (As := [.int (1 : Int32)]) (rest := [.int (r2 + r3), .int r1]) F (c_X3_count l D cI cS cJ G u H0 (1 : Int32) h) (cw_L_65 hts (Nat.le_of_ble_eq_true rfl) (Nat.le_of_ble_eq_true rfl)) hK hP (recv (ci := 3) (k0 := 0) hK hP rfl rfl) rfl hl.1 rfl (Nat.le_of_ble_eq_true rfl) dL_holds_19 ⟨(Nat.le_of_ble_eq_true rfl), (Nat.le_of_ble_eq_true rfl)⟩ (fun r4 h => ?_)
  refine lv_isub hx hb dL_holds_22 ?_
  refine lv_aload_n hx hb dL_holds_23 rfl (lv_at hl 1 rfl) ?_
  refine lv_iconst (v := (3 : Int32)) hx hb dL_holds_24 (by decide) ?_
  refine roVi (As := [.int (3 : Int32)]) (rest := [.int ((r2 + r3) - r4), .int r1]) F (c_X3_count l D cI cS cJ G u H0 (3 : Int32) h) (cw_L_65 hts (Nat.le_of_ble_eq_true rfl) (Nat.le_of_ble_eq_true rfl)) hK hP (recv (ci := 3) (k0 := 0) hK hP rfl rfl) rfl hl.1 rfl (Nat.le_of_ble_eq_true rfl) dL_holds_25 ⟨(Nat.le_of_ble_eq_true rfl), (Nat.le_of_ble_eq_true rfl)⟩ (fun r5 h => ?_)
  refine lv_isub hx hb dL_holds_28 ?_
  refine lv_aload_n hx hb dL_holds_29 rfl (lv_at hl 1 rfl) ?_
  refine lv_iconst (v := (4 : Int32)) hx hb dL_holds_30 (by decide) ?_
  refine roVi (As := [.int (4 : Int32)]) (rest := [.int (((r2 + r3) - r4) - r5), .int r1]) F (c_X3_count l D cI cS cJ G u H0 (4 : Int32) h) (cw_L_65 hts (Nat.le_of_ble_eq_true rfl) (Nat.le_of_ble_eq_true rfl)) hK hP (recv (ci := 3) (k0 := 0) hK hP rfl rfl) rfl hl.1 rfl (Nat.le_of_ble_eq_true rfl) dL_holds_31 ⟨(Nat.le_of_ble_eq_true rfl), (Nat.le_of_ble_eq_true rfl)⟩ (fun r6 h => ?_)
  refine lv_isub hx hb dL_holds_34 ?_
  refine jn_e h (fun J9 e11 h => ?_)
  have w10 : ∀ (x7 : Int32) (ls : Array Slot), bz x7 → lv_has ls 9 [(0, .ref (G 2 0)), (1, .int (0 : Int32))] → J9 x7 → W p l e rm_L_holds s m args below meth c H0 [] 0 0 Q (F0 m 86 ls [.int x7]) := by
    intro x7 ls b8 hl h
    subst e11
    refine lv_istore_n (lv' := [(2, .int x7), (0, .ref (G 2 0)), (1, .int (0 : Int32))]) hx hb dL_holds_86 rfl hl (by decide) rfl (fun ls hl => ?_)
    refine lv_iconst (v := (0 : Int32)) hx hb dL_holds_87 (by decide) ?_
    refine lv_istore_n (lv' := [(3, .int (0 : Int32)), (2, .int x7), (0, .ref (G 2 0)), (1, .int (0 : Int32))]) hx hb dL_holds_88 rfl hl (by decide) rfl (fun ls hl => ?_)
    refine lpu3 h (fun K16 : Int32 → Int32 → Int32 → Prop => ∀ (x12 : Int32) (x13 : Int32) (x15 : Int32) (ls : Array Slot), bz x13 → lv_has ls 9 [(0, .ref (G 2 0)), (1, .int x12), (2, .int x13), (3, .int x15)] → K16 x12 x13 x15 → W p l e rm_L_holds s m args below meth c H0 [] 0 0 Q (F0 m 89 ls [])) ?_ ?_ ?_
    · intro x12 x13 x15 ls b14 hl h
      exact h.elim
    · intro K16
      intro w17 x12 x13 x15 ls b14 hl h
      refine lv_iload_n hx hb dL_holds_89 rfl (lv_at hl 3 rfl) ?_
      refine lv_aload_n hx hb dL_holds_90 rfl (lv_at hl 0 rfl) ?_
      refine roVi (As := []) (rest := [.int x15]) F (c_X3_envelopes l D cI cS cJ G u H0  h) (cw_L_21 hts (Nat.le_of_ble_eq_true rfl) (Nat.le_of_ble_eq_true rfl)) hK hP (recv (ci := 3) (k0 := 0) hK hP rfl rfl) rfl hl.1 rfl (Nat.le_of_ble_eq_true rfl) dL_holds_91 ⟨(Nat.le_of_ble_eq_true rfl), (Nat.le_of_ble_eq_true rfl)⟩ (fun r18 h => ?_)
      refine lv_icmp_ge (tgt := 227) hx hb dL_holds_94 (by decide) (fun c19 => ?_) (fun c19 => ?_)
      · replace h := h.1 c19
        refine lv_iconst (v := (0 : Int32)) hx hb dL_holds_227 (by decide) ?_
        refine lv_istore_n (lv' := [(3, .int (0 : Int32)), (0, .ref (G 2 0)), (1, .int x12), (2, .int x13)]) hx hb dL_holds_228 rfl hl (by decide) rfl (fun ls hl => ?_)
        refine lpu2 h (fun K23 : Int32 → Int32 → Prop => ∀ (x20 : Int32) (x22 : Int32) (ls : Array Slot), bz x20 → lv_has ls 9 [(0, .ref (G 2 0)), (1, .int x12), (2, .int x20), (3, .int x22)] → K23 x20 x22 → W p l e rm_L_holds s m args below meth c H0 [] 0 0 Q (F0 m 229 ls [])) ?_ ?_ ?_
        · intro x20 x22 ls b21 hl h
          exact h.elim
        · intro K23
          intro w24 x20 x22 ls b21 hl h
          refine lv_iload_n hx hb dL_holds_229 rfl (lv_at hl 3 rfl) ?_
          refine lv_bipush (v := (8 : Int32)) hx hb dL_holds_230 (by decide) ?_
          refine lv_icmp_ge (tgt := 571) hx hb dL_holds_232 (by decide) (fun c25 => ?_) (fun c25 => ?_)
          · replace h := h.1 c25
            refine lv_iconst (v := (0 : Int32)) hx hb dL_holds_571 (by decide) ?_
            refine lv_istore_n (lv' := [(3, .int (0 : Int32)), (0, .ref (G 2 0)), (1, .int x12), (2, .int x20)]) hx hb dL_holds_572 rfl hl (by decide) rfl (fun ls hl => ?_)
            refine lpu2 h (fun K29 : Int32 → Int32 → Prop => ∀ (x26 : Int32) (x28 : Int32) (ls : Array Slot), bz x26 → lv_has ls 9 [(0, .ref (G 2 0)), (2, .int x26), (3, .int x28)] → K29 x26 x28 → W p l e rm_L_holds s m args below meth c H0 [] 0 0 Q (F0 m 573 ls [])) ?_ ?_ ?_
            · intro x26 x28 ls b27 hl h
              exact h.elim
            · intro K29
              intro w30 x26 x28 ls b27 hl h
              refine lv_iload_n hx hb dL_holds_573 rfl (lv_at hl 2 rfl) ?_
              refine lv_aload_n hx hb dL_holds_574 rfl (lv_at hl 0 rfl) ?_
              refine roVi (As := []) (rest := [.int x28]) F (c_X3_roads l D cI cS cJ G u H0  h) (cw_L_15 hts (Nat.le_of_ble_eq_true rfl) (Nat.le_of_ble_eq_true rfl)) hK hP (recv (ci := 3) (k0 := 0) hK hP rfl rfl) rfl hl.1 rfl (Nat.le_of_ble_eq_true rfl) dL_holds_575 ⟨(Nat.le_of_ble_eq_true rfl), (Nat.le_of_ble_eq_true rfl)⟩ (fun r31 h => ?_)
              refine lv_icmp_ge (tgt := 649) hx hb dL_holds_578 (by decide) (fun c32 => ?_) (fun c32 => ?_)
              · replace h := h.1 c32
                refine lv_aload_n hx hb dL_holds_649 rfl (lv_at hl 0 rfl) ?_
                refine lv_iconst (v := (1 : Int32)) hx hb dL_holds_650 (by decide) ?_
                refine roVi (As := [.int (1 : Int32)]) (rest := []) F (c_X3_leastWork l D cI cS cJ G u H0 (1 : Int32) h) (cw_L_88 hts (Nat.le_of_ble_eq_true rfl) (Nat.le_of_ble_eq_true rfl)) hK hP (recv (ci := 3) (k0 := 0) hK hP rfl rfl) rfl hl.1 rfl (Nat.le_of_ble_eq_true rfl) dL_holds_651 ⟨(Nat.le_of_ble_eq_true rfl), (Nat.le_of_ble_eq_true rfl)⟩ (fun r33 h => ?_)
                refine lv_istore_n (lv' := [(3, .int r33), (0, .ref (G 2 0)), (2, .int x26)]) hx hb dL_holds_654 rfl hl (by decide) rfl (fun ls hl => ?_)
                refine lv_aload_n hx hb dL_holds_655 rfl (lv_at hl 1 rfl) ?_
                refine lv_iconst (v := (2 : Int32)) hx hb dL_holds_656 (by decide) ?_
                refine roVi (As := [.int (2 : Int32)]) (rest := []) F (c_X3_leastWork l D cI cS cJ G u H0 (2 : Int32) h) (cw_L_88 hts (Nat.le_of_ble_eq_true rfl) (Nat.le_of_ble_eq_true rfl)) hK hP (recv (ci := 3) (k0 := 0) hK hP rfl rfl) rfl hl.1 rfl (Nat.le_of_ble_eq_true rfl) dL_holds_657 ⟨(Nat.le_of_ble_eq_true rfl), (Nat.le_of_ble_eq_true rfl)⟩ (fun r34 h => ?_)
                refine lv_istore (lv' := [(4, .int r34), (3, .int r33), (0, .ref (G 2 0)), (2, .int x26)]) hx hb dL_holds_660 hl (by decide) rfl (fun ls hl => ?_)
                refine lv_aload_n hx hb dL_holds_662 rfl (lv_at hl 2 rfl) ?_
                refine lv_iconst (v := (3 : Int32)) hx hb dL_holds_663 (by decide) ?_
                refine roVi (As := [.int (3 : Int32)]) (rest := []) F (c_X3_leastWork l D cI cS cJ G u H0 (3 : Int32) h) (cw_L_88 hts (Nat.le_of_ble_eq_true rfl) (Nat.le_of_ble_eq_true rfl)) hK hP (recv (ci := 3) (k0 := 0) hK hP rfl rfl) rfl hl.1 rfl (Nat.le_of_ble_eq_true rfl) dL_holds_664 ⟨(Nat.le_of_ble_eq_true rfl), (Nat.le_of_ble_eq_true rfl)⟩ (fun r35 h => ?_)
                refine lv_istore (lv' := [(5, .int r35), (4, .int r34), (3, .int r33), (0, .ref (G 2 0)), (2, .int x26)]) hx hb dL_holds_667 hl (by decide) rfl (fun ls hl => ?_)
                refine lv_iload_n hx hb dL_holds_669 rfl (lv_at hl 4 rfl) ?_
                refine lv_if_eq (tgt := 748) hx hb dL_holds_670 (by decide) (fun c36 => ?_) (fun c36 => ?_)
                · replace h := h.1 c36
                  refine lv_iconst (v := (0 : Int32)) hx hb dL_holds_748 (by decide) ?_
                  exact hQ bz0 h dL_holds_749
                · replace h := h.2 c36
                  refine lv_iload_n hx hb dL_holds_673 rfl (lv_at hl 2 rfl) ?_
                  refine lv_iconst (v := (-1 : Int32)) hx hb dL_holds_674 (by decide) ?_
                  refine jn_e h (fun J37 e39 h => ?_)
                  have w38 : ∀  (ls : Array Slot), lv_has ls 9 [(0, .ref (G 2 0)), (3, .int r33), (4, .int r34), (5, .int r35)] → J37 → W p l e rm_L_holds s m args below meth c H0 [] 0 0 Q (F0 m 686 ls []) := by
                    intro ls hl h
                    subst e39
                    refine lv_iload hx hb dL_holds_686 (lv_at hl 2 rfl) ?_
                    refine lv_iconst (v := (-1 : Int32)) hx hb dL_holds_688 (by decide) ?_
                    refine jn_e h (fun J40 e42 h => ?_)
                    have w41 : ∀  (ls : Array Slot), lv_has ls 9 [(0, .ref (G 2 0)), (3, .int r33), (4, .int r34), (5, .int r35)] → J40 → W p l e rm_L_holds s m args below meth c H0 [] 0 0 Q (F0 m 711 ls []) := by
                      intro ls hl h
                      subst e42
                      refine lv_iload hx hb dL_holds_711 (lv_at hl 3 rfl) ?_
                      refine lv_iconst (v := (-1 : Int32)) hx hb dL_holds_713 (by decide) ?_
                      refine lv_icmp_eq (tgt := 744) hx hb dL_holds_714 (by decide) (fun c43 => ?_) (fun c43 => ?_)
                      · replace h := h.1 c43
                        refine lv_iconst (v := (1 : Int32)) hx hb dL_holds_744 (by decide) ?_
                        refine lv_goto (tgt := 749) hx hb dL_holds_745 (by decide) ?_
                        exact hQ bz1 h dL_holds_749
                      · replace h := h.2 c43
                        refine lv_iload hx hb dL_holds_717 (lv_at hl 2 rfl) ?_
                        refine lv_if_lt (tgt := 748) hx hb dL_holds_719 (by decide) (fun c44 => ?_) (fun c44 => ?_)
                        · replace h := h.1 c44
                          refine lv_iconst (v := (0 : Int32)) hx hb dL_holds_748 (by decide) ?_
                          exact hQ bz0 h dL_holds_749
                        · replace h := h.2 c44
                          refine lv_iload hx hb dL_holds_722 (lv_at hl 3 rfl) ?_
                          refine lv_iload_n hx hb dL_holds_724 rfl (lv_at hl 1 rfl) ?_
                          refine lv_icmp_eq (tgt := 748) hx hb dL_holds_725 (by decide) (fun c45 => ?_) (fun c45 => ?_)
                          · replace h := h.1 c45
                            refine lv_iconst (v := (0 : Int32)) hx hb dL_holds_748 (by decide) ?_
                            exact hQ bz0 h dL_holds_749
                          · replace h := h.2 c45
                            refine lv_iload hx hb dL_holds_728 (lv_at hl 3 rfl) ?_
                            refine lv_iload hx hb dL_holds_730 (lv_at hl 2 rfl) ?_
                            refine lv_icmp_eq (tgt := 748) hx hb dL_holds_732 (by decide) (fun c46 => ?_) (fun c46 => ?_)
                            · replace h := h.1 c46
                              refine lv_iconst (v := (0 : Int32)) hx hb dL_holds_748 (by decide) ?_
                              exact hQ bz0 h dL_holds_749
                            · replace h := h.2 c46
                              refine lv_aload_n hx hb dL_holds_735 rfl (lv_at hl 0 rfl) ?_
                              refine lv_iload hx hb dL_holds_736 (lv_at hl 3 rfl) ?_
                              refine roVi (As := [.int r35]) (rest := []) F (c_X3_isOpen l D cI cS cJ G u H0 r35 h) (cw_L_31 hts (Nat.le_of_ble_eq_true rfl) (Nat.le_of_ble_eq_true rfl)) hK hP (recv (ci := 3) (k0 := 0) hK hP rfl rfl) rfl hl.1 rfl (Nat.le_of_ble_eq_true rfl) dL_holds_738 ⟨(Nat.le_of_ble_eq_true rfl), (Nat.le_of_ble_eq_true rfl)⟩ (fun r47 h => ?_)
                              obtain ⟨b48, h⟩ := h
                              refine lv_if_eq (tgt := 748) hx hb dL_holds_741 (by decide) (fun c49 => ?_) (fun c49 => ?_)
                              · replace h := h.1 c49
                                refine lv_iconst (v := (0 : Int32)) hx hb dL_holds_748 (by decide) ?_
                                exact hQ bz0 h dL_holds_749
                              · replace h := h.2 c49
                                refine lv_iconst (v := (1 : Int32)) hx hb dL_holds_744 (by decide) ?_
                                refine lv_goto (tgt := 749) hx hb dL_holds_745 (by decide) ?_
                                exact hQ bz1 h dL_holds_749
                    clear e42
                    refine lv_icmp_eq (tgt := 711) hx hb dL_holds_689 (by decide) (fun c50 => ?_) (fun c50 => ?_)
                    · replace h := h.1 c50
                      exact w41 _ hl h
                    · replace h := h.2 c50
                      refine lv_iload_n hx hb dL_holds_692 rfl (lv_at hl 1 rfl) ?_
                      refine lv_if_lt (tgt := 748) hx hb dL_holds_693 (by decide) (fun c51 => ?_) (fun c51 => ?_)
                      · replace h := h.1 c51
                        refine lv_iconst (v := (0 : Int32)) hx hb dL_holds_748 (by decide) ?_
                        exact hQ bz0 h dL_holds_749
                      · replace h := h.2 c51
                        refine lv_iload_n hx hb dL_holds_696 rfl (lv_at hl 1 rfl) ?_
                        refine lv_iload hx hb dL_holds_697 (lv_at hl 2 rfl) ?_
                        refine lv_icmp_eq (tgt := 748) hx hb dL_holds_699 (by decide) (fun c52 => ?_) (fun c52 => ?_)
                        · replace h := h.1 c52
                          refine lv_iconst (v := (0 : Int32)) hx hb dL_holds_748 (by decide) ?_
                          exact hQ bz0 h dL_holds_749
                        · replace h := h.2 c52
                          refine lv_aload_n hx hb dL_holds_702 rfl (lv_at hl 0 rfl) ?_
                          refine lv_iload hx hb dL_holds_703 (lv_at hl 2 rfl) ?_
                          refine roVi (As := [.int r34]) (rest := []) F (c_X3_isOpen l D cI cS cJ G u H0 r34 h) (cw_L_31 hts (Nat.le_of_ble_eq_true rfl) (Nat.le_of_ble_eq_true rfl)) hK hP (recv (ci := 3) (k0 := 0) hK hP rfl rfl) rfl hl.1 rfl (Nat.le_of_ble_eq_true rfl) dL_holds_705 ⟨(Nat.le_of_ble_eq_true rfl), (Nat.le_of_ble_eq_true rfl)⟩ (fun r53 h => ?_)
                          obtain ⟨b54, h⟩ := h
                          refine lv_if_eq (tgt := 748) hx hb dL_holds_708 (by decide) (fun c55 => ?_) (fun c55 => ?_)
                          · replace h := h.1 c55
                            refine lv_iconst (v := (0 : Int32)) hx hb dL_holds_748 (by decide) ?_
                            exact hQ bz0 h dL_holds_749
                          · replace h := h.2 c55
                            exact w41 _ hl h
                  clear e39
                  refine lv_icmp_eq (tgt := 686) hx hb dL_holds_675 (by decide) (fun c56 => ?_) (fun c56 => ?_)
                  · replace h := h.1 c56
                    exact w38 _ (lv_sub hl [3, 2, 1, 0] rfl) h
                  · replace h := h.2 c56
                    refine lv_aload_n hx hb dL_holds_678 rfl (lv_at hl 3 rfl) ?_
                    refine lv_iload_n hx hb dL_holds_679 rfl (lv_at hl 2 rfl) ?_
                    refine roVi (As := [.int r33]) (rest := []) F (c_X3_isOpen l D cI cS cJ G u H0 r33 h) (cw_L_31 hts (Nat.le_of_ble_eq_true rfl) (Nat.le_of_ble_eq_true rfl)) hK hP (recv (ci := 3) (k0 := 0) hK hP rfl rfl) rfl hl.1 rfl (Nat.le_of_ble_eq_true rfl) dL_holds_680 ⟨(Nat.le_of_ble_eq_true rfl), (Nat.le_of_ble_eq_true rfl)⟩ (fun r57 h => ?_)
                    obtain ⟨b58, h⟩ := h
                    refine lv_if_eq (tgt := 748) hx hb dL_holds_683 (by decide) (fun c59 => ?_) (fun c59 => ?_)
                    · replace h := h.1 c59
                      refine lv_iconst (v := (0 : Int32)) hx hb dL_holds_748 (by decide) ?_
                      exact hQ bz0 h dL_holds_749
                    · replace h := h.2 c59
                      exact w38 _ (lv_sub hl [3, 2, 1, 0] rfl) h
              · replace h := h.2 c32
                refine lv_iload_n hx hb dL_holds_581 rfl (lv_at hl 1 rfl) ?_
                refine jn_e h (fun J62 e64 h => ?_)
                have w63 : ∀ (x60 : Int32) (ls : Array Slot), bz x60 → lv_has ls 9 [(0, .ref (G 2 0)), (3, .int x28)] → J62 x60 → W p l e rm_L_holds s m args below meth c H0 [] 0 0 Q (F0 m 642 ls [.int x60]) := by
                  intro x60 ls b61 hl h
                  subst e64
                  refine lv_istore_n (lv' := [(2, .int x60), (0, .ref (G 2 0)), (3, .int x28)]) hx hb dL_holds_642 rfl hl (by decide) rfl (fun ls hl => ?_)
                  refine lv_iinc (v := (x28 + 1)) (lv' := [(3, .int (x28 + 1)), (2, .int x60), (0, .ref (G 2 0))]) hx hb dL_holds_643 hl (k := 2) rfl rfl (by decide) rfl (fun ls hl => ?_)
                  refine lv_goto (tgt := 573) hx hb dL_holds_646 (by decide) ?_
                  exact w30 x60 (x28 + 1) _ b61 (lv_sub hl [2, 1, 0] rfl) h
                clear e64
                refine jn_e h (fun J65 e67 h => ?_)
                have w66 : ∀  (ls : Array Slot), lv_has ls 9 [(0, .ref (G 2 0)), (3, .int x28)] → J65 → W p l e rm_L_holds s m args below meth c H0 [] 0 0 Q (F0 m 641 ls []) := by
                  intro ls hl h
                  subst e67
                  refine lv_iconst (v := (0 : Int32)) hx hb dL_holds_641 (by decide) ?_
                  exact w63 (0 : Int32) _ bz0 hl h
                clear e67
                refine lv_if_eq (tgt := 641) hx hb dL_holds_582 (by decide) (fun c68 => ?_) (fun c68 => ?_)
                · replace h := h.1 c68
                  exact w66 _ (lv_sub hl [0, 2] rfl) h
                · replace h := h.2 c68
                  refine lv_aload_n hx hb dL_holds_585 rfl (lv_at hl 0 rfl) ?_
                  refine lv_iload_n hx hb dL_holds_586 rfl (lv_at hl 2 rfl) ?_
                  refine roVi (As := [.int x28]) (rest := []) F (c_X3_stands l D cI cS cJ G u H0 x28 h) (cw_L_85 hts (Nat.le_of_ble_eq_true rfl) (Nat.le_of_ble_eq_true rfl)) hK hP (recv (ci := 3) (k0 := 0) hK hP rfl rfl) rfl hl.1 rfl (Nat.le_of_ble_eq_true rfl) dL_holds_587 ⟨(Nat.le_of_ble_eq_true rfl), (Nat.le_of_ble_eq_true rfl)⟩ (fun r69 h => ?_)
                  obtain ⟨b70, h⟩ := h
                  refine lv_aload_n hx hb dL_holds_590 rfl (lv_at hl 0 rfl) ?_
                  refine lv_aload_n hx hb dL_holds_591 rfl (lv_at hl 0 rfl) ?_
                  refine lv_iload_n hx hb dL_holds_592 rfl (lv_at hl 2 rfl) ?_
                  refine lv_iconst (v := (1 : Int32)) hx hb dL_holds_593 (by decide) ?_
                  refine roVi (As := [.int x28, .int (1 : Int32)]) (rest := [.ref (G 2 0), .int r69]) F (c_X3_inn l D cI cS cJ G u H0 x28 (1 : Int32) h) (cw_L_76 hts (Nat.le_of_ble_eq_true rfl) (Nat.le_of_ble_eq_true rfl)) hK hP (recv (ci := 3) (k0 := 0) hK hP rfl rfl) rfl hl.1 rfl (Nat.le_of_ble_eq_true rfl) dL_holds_594 ⟨(Nat.le_of_ble_eq_true rfl), (Nat.le_of_ble_eq_true rfl)⟩ (fun r71 h => ?_)
                  refine roVi (As := [.int r71]) (rest := [.int r69]) F (c_X3_isOpen l D cI cS cJ G u H0 r71 h) (cw_L_31 hts (Nat.le_of_ble_eq_true rfl) (Nat.le_of_ble_eq_true rfl)) hK hP (recv (ci := 3) (k0 := 0) hK hP rfl rfl) rfl hl.1 rfl (Nat.le_of_ble_eq_true rfl) dL_holds_597 ⟨(Nat.le_of_ble_eq_true rfl), (Nat.le_of_ble_eq_true rfl)⟩ (fun r72 h => ?_)
                  obtain ⟨b73, h⟩ := h
                  refine jn_e h (fun J76 e78 h => ?_)
                  have w77 : ∀ (x74 : Int32) (ls : Array Slot), bz x74 → lv_has ls 9 [(0, .ref (G 2 0)), (3, .int x28)] → J76 x74 → W p l e rm_L_holds s m args below meth c H0 [] 0 0 Q (F0 m 634 ls [.int x74, .int r69]) := by
                    intro x74 ls b75 hl h
                    subst e78
                    refine lv_icmp_ne (tgt := 641) hx hb dL_holds_634 (by decide) (fun c79 => ?_) (fun c79 => ?_)
                    · replace h := h.1 c79
                      exact w66 _ hl h
                    · replace h := h.2 c79
                      refine lv_iconst (v := (1 : Int32)) hx hb dL_holds_637 (by decide) ?_
                      refine lv_goto (tgt := 642) hx hb dL_holds_638 (by decide) ?_
                      exact w63 (1 : Int32) _ bz1 hl h
                  clear e78
                  refine jn_e h (fun J80 e82 h => ?_)
                  have w81 : ∀  (ls : Array Slot), lv_has ls 9 [(0, .ref (G 2 0)), (3, .int x28)] → J80 → W p l e rm_L_holds s m args below meth c H0 [] 0 0 Q (F0 m 633 ls [.int r69]) := by
                    intro ls hl h
                    subst e82
                    refine lv_iconst (v := (0 : Int32)) hx hb dL_holds_633 (by decide) ?_
                    exact w77 (0 : Int32) _ bz0 hl h
                  clear e82
                  refine lv_if_eq (tgt := 633) hx hb dL_holds_600 (by decide) (fun c83 => ?_) (fun c83 => ?_)
                  · replace h := h.1 c83
                    exact w81 _ (lv_sub hl [0, 2] rfl) h
                  · replace h := h.2 c83
                    refine lv_aload_n hx hb dL_holds_603 rfl (lv_at hl 0 rfl) ?_
                    refine lv_aload_n hx hb dL_holds_604 rfl (lv_at hl 0 rfl) ?_
                    refine lv_iload_n hx hb dL_holds_605 rfl (lv_at hl 2 rfl) ?_
                    refine lv_iconst (v := (2 : Int32)) hx hb dL_holds_606 (by decide) ?_
                    refine roVi (As := [.int x28, .int (2 : Int32)]) (rest := [.ref (G 2 0), .int r69]) F (c_X3_inn l D cI cS cJ G u H0 x28 (2 : Int32) h) (cw_L_76 hts (Nat.le_of_ble_eq_true rfl) (Nat.le_of_ble_eq_true rfl)) hK hP (recv (ci := 3) (k0 := 0) hK hP rfl rfl) rfl hl.1 rfl (Nat.le_of_ble_eq_true rfl) dL_holds_607 ⟨(Nat.le_of_ble_eq_true rfl), (Nat.le_of_ble_eq_true rfl)⟩ (fun r84 h => ?_)
                    refine roVi (As := [.int r84]) (rest := [.int r69]) F (c_X3_isOpen l D cI cS cJ G u H0 r84 h) (cw_L_31 hts (Nat.le_of_ble_eq_true rfl) (Nat.le_of_ble_eq_true rfl)) hK hP (recv (ci := 3) (k0 := 0) hK hP rfl rfl) rfl hl.1 rfl (Nat.le_of_ble_eq_true rfl) dL_holds_610 ⟨(Nat.le_of_ble_eq_true rfl), (Nat.le_of_ble_eq_true rfl)⟩ (fun r85 h => ?_)
                    obtain ⟨b86, h⟩ := h
                    refine lv_if_eq (tgt := 633) hx hb dL_holds_613 (by decide) (fun c87 => ?_) (fun c87 => ?_)
                    · replace h := h.1 c87
                      exact w81 _ (lv_sub hl [0, 2] rfl) h
                    · replace h := h.2 c87
                      refine lv_aload_n hx hb dL_holds_616 rfl (lv_at hl 0 rfl) ?_
                      refine lv_aload_n hx hb dL_holds_617 rfl (lv_at hl 0 rfl) ?_
                      refine lv_iload_n hx hb dL_holds_618 rfl (lv_at hl 2 rfl) ?_
                      refine lv_iconst (v := (3 : Int32)) hx hb dL_holds_619 (by decide) ?_
                      refine roVi (As := [.int x28, .int (3 : Int32)]) (rest := [.ref (G 2 0), .int r69]) F (c_X3_inn l D cI cS cJ G u H0 x28 (3 : Int32) h) (cw_L_76 hts (Nat.le_of_ble_eq_true rfl) (Nat.le_of_ble_eq_true rfl)) hK hP (recv (ci := 3) (k0 := 0) hK hP rfl rfl) rfl hl.1 rfl (Nat.le_of_ble_eq_true rfl) dL_holds_620 ⟨(Nat.le_of_ble_eq_true rfl), (Nat.le_of_ble_eq_true rfl)⟩ (fun r88 h => ?_)
                      refine roVi (As := [.int r88]) (rest := [.int r69]) F (c_X3_isOpen l D cI cS cJ G u H0 r88 h) (cw_L_31 hts (Nat.le_of_ble_eq_true rfl) (Nat.le_of_ble_eq_true rfl)) hK hP (recv (ci := 3) (k0 := 0) hK hP rfl rfl) rfl hl.1 rfl (Nat.le_of_ble_eq_true rfl) dL_holds_623 ⟨(Nat.le_of_ble_eq_true rfl), (Nat.le_of_ble_eq_true rfl)⟩ (fun r89 h => ?_)
                      obtain ⟨b90, h⟩ := h
                      refine lv_if_eq (tgt := 633) hx hb dL_holds_626 (by decide) (fun c91 => ?_) (fun c91 => ?_)
                      · replace h := h.1 c91
                        exact w81 _ (lv_sub hl [0, 2] rfl) h
                      · replace h := h.2 c91
                        refine lv_iconst (v := (1 : Int32)) hx hb dL_holds_629 (by decide) ?_
                        refine lv_goto (tgt := 634) hx hb dL_holds_630 (by decide) ?_
                        exact w77 (1 : Int32) _ bz1 (lv_sub hl [0, 2] rfl) h
            · intro K29 w30 h
              exact w30 x20 (0 : Int32) _ b21 (lv_sub hl [1, 3, 0] rfl) h
          · replace h := h.2 c25
            refine lv_iconst (v := (0 : Int32)) hx hb dL_holds_235 (by decide) ?_
            refine lv_istore (lv' := [(4, .int (0 : Int32)), (0, .ref (G 2 0)), (1, .int x12), (2, .int x20), (3, .int x22)]) hx hb dL_holds_236 hl (by decide) rfl (fun ls hl => ?_)
            refine lv_iconst (v := (0 : Int32)) hx hb dL_holds_238 (by decide) ?_
            refine lv_istore (lv' := [(5, .int (0 : Int32)), (4, .int (0 : Int32)), (0, .ref (G 2 0)), (1, .int x12), (2, .int x20), (3, .int x22)]) hx hb dL_holds_239 hl (by decide) rfl (fun ls hl => ?_)
            refine lpu3 h (fun K96 : Int32 → Int32 → Int32 → Prop => ∀ (x92 : Int32) (x94 : Int32) (x95 : Int32) (ls : Array Slot), bz x92 → lv_has ls 9 [(0, .ref (G 2 0)), (1, .int x12), (2, .int x92), (3, .int x22), (4, .int x94), (5, .int x95)] → K96 x92 x94 x95 → W p l e rm_L_holds s m args below meth c H0 [] 0 0 Q (F0 m 241 ls [])) ?_ ?_ ?_
            · intro x92 x94 x95 ls b93 hl h
              exact h.elim
            · intro K96
              intro w97 x92 x94 x95 ls b93 hl h
              refine lv_iload hx hb dL_holds_241 (lv_at hl 5 rfl) ?_
              refine lv_aload_n hx hb dL_holds_243 rfl (lv_at hl 0 rfl) ?_
              refine roVi (As := []) (rest := [.int x95]) F (c_X3_roads l D cI cS cJ G u H0  h) (cw_L_15 hts (Nat.le_of_ble_eq_true rfl) (Nat.le_of_ble_eq_true rfl)) hK hP (recv (ci := 3) (k0 := 0) hK hP rfl rfl) rfl hl.1 rfl (Nat.le_of_ble_eq_true rfl) dL_holds_244 ⟨(Nat.le_of_ble_eq_true rfl), (Nat.le_of_ble_eq_true rfl)⟩ (fun r98 h => ?_)
              refine lv_icmp_ge (tgt := 461) hx hb dL_holds_247 (by decide) (fun c99 => ?_) (fun c99 => ?_)
              · replace h := h.1 c99
                refine lv_iload_n hx hb dL_holds_461 rfl (lv_at hl 2 rfl) ?_
                refine jn_e h (fun J102 e104 h => ?_)
                have w103 : ∀ (x100 : Int32) (ls : Array Slot), bz x100 → lv_has ls 9 [(0, .ref (G 2 0)), (1, .int x12), (3, .int x22)] → J102 x100 → W p l e rm_L_holds s m args below meth c H0 [] 0 0 Q (F0 m 515 ls [.int x100]) := by
                  intro x100 ls b101 hl h
                  subst e104
                  refine lv_istore_n (lv' := [(2, .int x100), (0, .ref (G 2 0)), (1, .int x12), (3, .int x22)]) hx hb dL_holds_515 rfl hl (by decide) rfl (fun ls hl => ?_)
                  refine lv_iconst (v := (0 : Int32)) hx hb dL_holds_516 (by decide) ?_
                  refine lv_istore (lv' := [(5, .int (0 : Int32)), (2, .int x100), (0, .ref (G 2 0)), (1, .int x12), (3, .int x22)]) hx hb dL_holds_517 hl (by decide) rfl (fun ls hl => ?_)
                  refine lpu2 h (fun K108 : Int32 → Int32 → Prop => ∀ (x105 : Int32) (x107 : Int32) (ls : Array Slot), bz x105 → lv_has ls 9 [(0, .ref (G 2 0)), (1, .int x12), (2, .int x105), (3, .int x22), (5, .int x107)] → K108 x105 x107 → W p l e rm_L_holds s m args below meth c H0 [] 0 0 Q (F0 m 519 ls [])) ?_ ?_ ?_
                  · intro x105 x107 ls b106 hl h
                    exact h.elim
                  · intro K108
                    intro w109 x105 x107 ls b106 hl h
                    refine lv_iload hx hb dL_holds_519 (lv_at hl 4 rfl) ?_
                    refine lv_bipush (v := (8 : Int32)) hx hb dL_holds_521 (by decide) ?_
                    refine lv_icmp_ge (tgt := 565) hx hb dL_holds_523 (by decide) (fun c110 => ?_) (fun c110 => ?_)
                    · replace h := h.1 c110
                      refine lv_iinc (v := (x22 + 1)) (lv' := [(3, .int (x22 + 1)), (0, .ref (G 2 0)), (1, .int x12), (2, .int x105), (5, .int x107)]) hx hb dL_holds_565 hl (k := 3) rfl rfl (by decide) rfl (fun ls hl => ?_)
                      refine lv_goto (tgt := 229) hx hb dL_holds_568 (by decide) ?_
                      exact w24 x105 (x22 + 1) _ b106 (lv_sub hl [1, 2, 3, 0] rfl) h
                    · replace h := h.2 c110
                      refine lv_iload_n hx hb dL_holds_526 rfl (lv_at hl 2 rfl) ?_
                      refine jn_e h (fun J113 e115 h => ?_)
                      have w114 : ∀ (x111 : Int32) (ls : Array Slot), bz x111 → lv_has ls 9 [(0, .ref (G 2 0)), (1, .int x12), (3, .int x22), (5, .int x107)] → J113 x111 → W p l e rm_L_holds s m args below meth c H0 [] 0 0 Q (F0 m 558 ls [.int x111]) := by
                        intro x111 ls b112 hl h
                        subst e115
                        refine lv_istore_n (lv' := [(2, .int x111), (0, .ref (G 2 0)), (1, .int x12), (3, .int x22), (5, .int x107)]) hx hb dL_holds_558 rfl hl (by decide) rfl (fun ls hl => ?_)
                        refine lv_iinc (v := (x107 + 1)) (lv' := [(5, .int (x107 + 1)), (2, .int x111), (0, .ref (G 2 0)), (1, .int x12), (3, .int x22)]) hx hb dL_holds_559 hl (k := 4) rfl rfl (by decide) rfl (fun ls hl => ?_)
                        refine lv_goto (tgt := 519) hx hb dL_holds_562 (by decide) ?_
                        exact w109 x111 (x107 + 1) _ b112 (lv_sub hl [2, 3, 1, 4, 0] rfl) h
                      clear e115
                      refine jn_e h (fun J116 e118 h => ?_)
                      have w117 : ∀  (ls : Array Slot), lv_has ls 9 [(0, .ref (G 2 0)), (1, .int x12), (3, .int x22), (5, .int x107)] → J116 → W p l e rm_L_holds s m args below meth c H0 [] 0 0 Q (F0 m 557 ls []) := by
                        intro ls hl h
                        subst e118
                        refine lv_iconst (v := (0 : Int32)) hx hb dL_holds_557 (by decide) ?_
                        exact w114 (0 : Int32) _ bz0 hl h
                      clear e118
                      refine lv_if_eq (tgt := 557) hx hb dL_holds_527 (by decide) (fun c119 => ?_) (fun c119 => ?_)
                      · replace h := h.1 c119
                        exact w117 _ (lv_sub hl [0, 1, 3, 4] rfl) h
                      · replace h := h.2 c119
                        refine lv_aload_n hx hb dL_holds_530 rfl (lv_at hl 0 rfl) ?_
                        refine lv_iload_n hx hb dL_holds_531 rfl (lv_at hl 3 rfl) ?_
                        refine roVi (As := [.int x22]) (rest := []) F (c_X3_known l D cI cS cJ G u H0 x22 h) (cw_L_79 hts (Nat.le_of_ble_eq_true rfl) (Nat.le_of_ble_eq_true rfl)) hK hP (recv (ci := 3) (k0 := 0) hK hP rfl rfl) rfl hl.1 rfl (Nat.le_of_ble_eq_true rfl) dL_holds_532 ⟨(Nat.le_of_ble_eq_true rfl), (Nat.le_of_ble_eq_true rfl)⟩ (fun r120 h => ?_)
                        refine lv_iload hx hb dL_holds_535 (lv_at hl 4 rfl) ?_
                        refine lv_ishr hx hb dL_holds_537 ?_
                        refine lv_iconst (v := (1 : Int32)) hx hb dL_holds_538 (by decide) ?_
                        refine lv_iand hx hb dL_holds_539 ?_
                        refine lv_aload_n hx hb dL_holds_540 rfl (lv_at hl 0 rfl) ?_
                        refine lv_iload hx hb dL_holds_541 (lv_at hl 4 rfl) ?_
                        refine roVi (As := [.int x107]) (rest := [.int ((r120 >>> (x107 &&& 31)) &&& (1 : Int32))]) F (c_X3_known l D cI cS cJ G u H0 x107 h) (cw_L_79 hts (Nat.le_of_ble_eq_true rfl) (Nat.le_of_ble_eq_true rfl)) hK hP (recv (ci := 3) (k0 := 0) hK hP rfl rfl) rfl hl.1 rfl (Nat.le_of_ble_eq_true rfl) dL_holds_543 ⟨(Nat.le_of_ble_eq_true rfl), (Nat.le_of_ble_eq_true rfl)⟩ (fun r121 h => ?_)
                        refine lv_iload_n hx hb dL_holds_546 rfl (lv_at hl 3 rfl) ?_
                        refine lv_ishr hx hb dL_holds_547 ?_
                        refine lv_iconst (v := (1 : Int32)) hx hb dL_holds_548 (by decide) ?_
                        refine lv_iand hx hb dL_holds_549 ?_
                        refine lv_icmp_ne (tgt := 557) hx hb dL_holds_550 (by decide) (fun c122 => ?_) (fun c122 => ?_)
                        · replace h := h.1 c122
                          exact w117 _ (lv_sub hl [0, 1, 3, 4] rfl) h
                        · replace h := h.2 c122
                          refine lv_iconst (v := (1 : Int32)) hx hb dL_holds_553 (by decide) ?_
                          refine lv_goto (tgt := 558) hx hb dL_holds_554 (by decide) ?_
                          exact w114 (1 : Int32) _ bz1 (lv_sub hl [0, 1, 3, 4] rfl) h
                  · intro K108 w109 h
                    exact w109 x100 (0 : Int32) _ b101 (lv_sub hl [2, 3, 1, 4, 0] rfl) h
                clear e104
                refine jn_e h (fun J123 e125 h => ?_)
                have w124 : ∀  (ls : Array Slot), lv_has ls 9 [(0, .ref (G 2 0)), (1, .int x12), (3, .int x22)] → J123 → W p l e rm_L_holds s m args below meth c H0 [] 0 0 Q (F0 m 514 ls []) := by
                  intro ls hl h
                  subst e125
                  refine lv_iconst (v := (0 : Int32)) hx hb dL_holds_514 (by decide) ?_
                  exact w103 (0 : Int32) _ bz0 hl h
                clear e125
                refine lv_if_eq (tgt := 514) hx hb dL_holds_462 (by decide) (fun c126 => ?_) (fun c126 => ?_)
                · replace h := h.1 c126
                  exact w124 _ (lv_sub hl [0, 1, 3] rfl) h
                · replace h := h.2 c126
                  refine lv_aload_n hx hb dL_holds_465 rfl (lv_at hl 0 rfl) ?_
                  refine lv_iload_n hx hb dL_holds_466 rfl (lv_at hl 3 rfl) ?_
                  refine roVi (As := [.int x22]) (rest := []) F (c_X3_known l D cI cS cJ G u H0 x22 h) (cw_L_79 hts (Nat.le_of_ble_eq_true rfl) (Nat.le_of_ble_eq_true rfl)) hK hP (recv (ci := 3) (k0 := 0) hK hP rfl rfl) rfl hl.1 rfl (Nat.le_of_ble_eq_true rfl) dL_holds_467 ⟨(Nat.le_of_ble_eq_true rfl), (Nat.le_of_ble_eq_true rfl)⟩ (fun r127 h => ?_)
                  refine lv_iload hx hb dL_holds_470 (lv_at hl 4 rfl) ?_
                  refine lv_icmp_ne (tgt := 514) hx hb dL_holds_472 (by decide) (fun c128 => ?_) (fun c128 => ?_)
                  · replace h := h.1 c128
                    exact w124 _ (lv_sub hl [0, 1, 3] rfl) h
                  · replace h := h.2 c128
                    refine lv_iload hx hb dL_holds_475 (lv_at hl 4 rfl) ?_
                    refine lv_iload_n hx hb dL_holds_477 rfl (lv_at hl 3 rfl) ?_
                    refine lv_ishr hx hb dL_holds_478 ?_
                    refine lv_iconst (v := (1 : Int32)) hx hb dL_holds_479 (by decide) ?_
                    refine lv_iand hx hb dL_holds_480 ?_
                    refine lv_if_ne (tgt := 514) hx hb dL_holds_481 (by decide) (fun c129 => ?_) (fun c129 => ?_)
                    · replace h := h.1 c129
                      exact w124 _ (lv_sub hl [0, 1, 3] rfl) h
                    · replace h := h.2 c129
                      refine lv_aload_n hx hb dL_holds_484 rfl (lv_at hl 0 rfl) ?_
                      refine lv_iload_n hx hb dL_holds_485 rfl (lv_at hl 3 rfl) ?_
                      refine roVi (As := [.int x22]) (rest := []) F (c_X3_isOpen l D cI cS cJ G u H0 x22 h) (cw_L_31 hts (Nat.le_of_ble_eq_true rfl) (Nat.le_of_ble_eq_true rfl)) hK hP (recv (ci := 3) (k0 := 0) hK hP rfl rfl) rfl hl.1 rfl (Nat.le_of_ble_eq_true rfl) dL_holds_486 ⟨(Nat.le_of_ble_eq_true rfl), (Nat.le_of_ble_eq_true rfl)⟩ (fun r130 h => ?_)
                      obtain ⟨b131, h⟩ := h
                      refine jn_e h (fun J132 e134 h => ?_)
                      have w133 : ∀  (ls : Array Slot), lv_has ls 9 [(0, .ref (G 2 0)), (1, .int x12), (3, .int x22)] → J132 → W p l e rm_L_holds s m args below meth c H0 [] 0 0 Q (F0 m 501 ls []) := by
                        intro ls hl h
                        subst e134
                        refine lv_aload_n hx hb dL_holds_501 rfl (lv_at hl 0 rfl) ?_
                        refine lv_iload_n hx hb dL_holds_502 rfl (lv_at hl 2 rfl) ?_
                        refine roVi (As := [.int x22]) (rest := []) F (c_X3_lostIfClosed l D cI cS cJ G u H0 x22 h) (cw_L_82 hts (Nat.le_of_ble_eq_true rfl) (Nat.le_of_ble_eq_true rfl)) hK hP (recv (ci := 3) (k0 := 0) hK hP rfl rfl) rfl hl.1 rfl (Nat.le_of_ble_eq_true rfl) dL_holds_503 ⟨(Nat.le_of_ble_eq_true rfl), (Nat.le_of_ble_eq_true rfl)⟩ (fun r135 h => ?_)
                        refine lv_iload_n hx hb dL_holds_506 rfl (lv_at hl 1 rfl) ?_
                        refine lv_icmp_lt (tgt := 514) hx hb dL_holds_507 (by decide) (fun c136 => ?_) (fun c136 => ?_)
                        · replace h := h.1 c136
                          exact w124 _ hl h
                        · replace h := h.2 c136
                          refine lv_iconst (v := (1 : Int32)) hx hb dL_holds_510 (by decide) ?_
                          refine lv_goto (tgt := 515) hx hb dL_holds_511 (by decide) ?_
                          exact w103 (1 : Int32) _ bz1 hl h
                      clear e134
                      refine lv_if_ne (tgt := 501) hx hb dL_holds_489 (by decide) (fun c137 => ?_) (fun c137 => ?_)
                      · replace h := h.1 c137
                        exact w133 _ (lv_sub hl [0, 1, 3] rfl) h
                      · replace h := h.2 c137
                        refine lv_aload_n hx hb dL_holds_492 rfl (lv_at hl 0 rfl) ?_
                        refine lv_iload_n hx hb dL_holds_493 rfl (lv_at hl 3 rfl) ?_
                        refine roVi (As := [.int x22]) (rest := []) F (c_X3_lostIfClosed l D cI cS cJ G u H0 x22 h) (cw_L_82 hts (Nat.le_of_ble_eq_true rfl) (Nat.le_of_ble_eq_true rfl)) hK hP (recv (ci := 3) (k0 := 0) hK hP rfl rfl) rfl hl.1 rfl (Nat.le_of_ble_eq_true rfl) dL_holds_494 ⟨(Nat.le_of_ble_eq_true rfl), (Nat.le_of_ble_eq_true rfl)⟩ (fun r138 h => ?_)
                        refine lv_iload_n hx hb dL_holds_497 rfl (lv_at hl 1 rfl) ?_
                        refine lv_icmp_ne (tgt := 514) hx hb dL_holds_498 (by decide) (fun c139 => ?_) (fun c139 => ?_)
                        · replace h := h.1 c139
                          exact w124 _ (lv_sub hl [0, 1, 3] rfl) h
                        · replace h := h.2 c139
                          exact w133 _ (lv_sub hl [0, 1, 3] rfl) h
              · replace h := h.2 c99
                refine lv_aload_n hx hb dL_holds_250 rfl (lv_at hl 0 rfl) ?_
                refine lv_iload_n hx hb dL_holds_251 rfl (lv_at hl 3 rfl) ?_
                refine lv_iload hx hb dL_holds_252 (lv_at hl 5 rfl) ?_
                refine lv_iconst (v := (0 : Int32)) hx hb dL_holds_254 (by decide) ?_
                refine roVi (As := [.int x22, .int x95, .int (0 : Int32)]) (rest := []) F (c_X3_see l D cI cS cJ G u H0 x22 x95 (0 : Int32) h) (cw_L_72 hts (Nat.le_of_ble_eq_true rfl) (Nat.le_of_ble_eq_true rfl)) hK hP (recv (ci := 3) (k0 := 0) hK hP rfl rfl) rfl hl.1 rfl (Nat.le_of_ble_eq_true rfl) dL_holds_255 ⟨(Nat.le_of_ble_eq_true rfl), (Nat.le_of_ble_eq_true rfl)⟩ (fun r140 h => ?_)
                refine lv_istore (lv' := [(6, .int r140), (0, .ref (G 2 0)), (1, .int x12), (2, .int x92), (3, .int x22), (4, .int x94), (5, .int x95)]) hx hb dL_holds_258 hl (by decide) rfl (fun ls hl => ?_)
                refine lv_aload_n hx hb dL_holds_260 rfl (lv_at hl 1 rfl) ?_
                refine lv_iload_n hx hb dL_holds_261 rfl (lv_at hl 4 rfl) ?_
                refine lv_iload hx hb dL_holds_262 (lv_at hl 6 rfl) ?_
                refine lv_iconst (v := (1 : Int32)) hx hb dL_holds_264 (by decide) ?_
                refine roVi (As := [.int x22, .int x95, .int (1 : Int32)]) (rest := []) F (c_X3_see l D cI cS cJ G u H0 x22 x95 (1 : Int32) h) (cw_L_72 hts (Nat.le_of_ble_eq_true rfl) (Nat.le_of_ble_eq_true rfl)) hK hP (recv (ci := 3) (k0 := 0) hK hP rfl rfl) rfl hl.1 rfl (Nat.le_of_ble_eq_true rfl) dL_holds_265 ⟨(Nat.le_of_ble_eq_true rfl), (Nat.le_of_ble_eq_true rfl)⟩ (fun r141 h => ?_)
                refine lv_istore (lv' := [(7, .int r141), (6, .int r140), (0, .ref (G 2 0)), (1, .int x12), (2, .int x92), (3, .int x22), (4, .int x94), (5, .int x95)]) hx hb dL_holds_268 hl (by decide) rfl (fun ls hl => ?_)
                refine lv_aload_n hx hb dL_holds_270 rfl (lv_at hl 2 rfl) ?_
                refine lv_iload hx hb dL_holds_271 (lv_at hl 7 rfl) ?_
                refine lv_iconst (v := (1 : Int32)) hx hb dL_holds_273 (by decide) ?_
                refine roVi (As := [.int x95, .int (1 : Int32)]) (rest := []) F (c_X3_inn l D cI cS cJ G u H0 x95 (1 : Int32) h) (cw_L_76 hts (Nat.le_of_ble_eq_true rfl) (Nat.le_of_ble_eq_true rfl)) hK hP (recv (ci := 3) (k0 := 0) hK hP rfl rfl) rfl hl.1 rfl (Nat.le_of_ble_eq_true rfl) dL_holds_274 ⟨(Nat.le_of_ble_eq_true rfl), (Nat.le_of_ble_eq_true rfl)⟩ (fun r142 h => ?_)
                refine lv_iload_n hx hb dL_holds_277 rfl (lv_at hl 5 rfl) ?_
                refine jn_e h (fun J144 e146 h => ?_)
                have w145 : ∀ (x143 : Int32) (ls : Array Slot), lv_has ls 9 [(0, .ref (G 2 0)), (1, .int x12), (2, .int x92), (3, .int x22), (4, .int x94), (5, .int x95), (6, .int r140), (7, .int r141)] → J144 x143 → W p l e rm_L_holds s m args below meth c H0 [] 0 0 Q (F0 m 316 ls [.int x143]) := by
                  intro x143 ls hl h
                  subst e146
                  refine lv_istore (lv' := [(8, .int x143), (0, .ref (G 2 0)), (1, .int x12), (2, .int x92), (3, .int x22), (4, .int x94), (5, .int x95), (6, .int r140), (7, .int r141)]) hx hb dL_holds_316 hl (by decide) rfl (fun ls hl => ?_)
                  refine lv_iload hx hb dL_holds_318 (lv_at hl 5 rfl) ?_
                  refine lv_iload hx hb dL_holds_320 (lv_at hl 7 rfl) ?_
                  refine jn_e h (fun J148 e150 h => ?_)
                  have w149 : ∀ (x147 : Int32) (ls : Array Slot), lv_has ls 9 [(0, .ref (G 2 0)), (1, .int x12), (2, .int x92), (3, .int x22), (5, .int x95), (6, .int r140), (7, .int r141), (8, .int x143)] → J148 x147 → W p l e rm_L_holds s m args below meth c H0 [] 0 0 Q (F0 m 340 ls [.int x147, .int x94]) := by
                    intro x147 ls hl h
                    subst e150
                    refine lv_ior hx hb dL_holds_340 ?_
                    refine lv_istore (lv' := [(4, .int (x94 ||| x147)), (0, .ref (G 2 0)), (1, .int x12), (2, .int x92), (3, .int x22), (5, .int x95), (6, .int r140), (7, .int r141), (8, .int x143)]) hx hb dL_holds_341 hl (by decide) rfl (fun ls hl => ?_)
                    refine lv_iload hx hb dL_holds_343 (lv_at hl 0 rfl) ?_
                    refine lv_iload hx hb dL_holds_345 (lv_at hl 7 rfl) ?_
                    refine jn_e h (fun J152 e154 h => ?_)
                    have w153 : ∀ (x151 : Int32) (ls : Array Slot), lv_has ls 9 [(0, .ref (G 2 0)), (1, .int x12), (2, .int x92), (3, .int x22), (5, .int x95), (6, .int r140), (7, .int r141), (8, .int x143)] → J152 x151 → W p l e rm_L_holds s m args below meth c H0 [] 0 0 Q (F0 m 365 ls [.int x151, .int (x94 ||| x147)]) := by
                      intro x151 ls hl h
                      subst e154
                      refine lv_ior hx hb dL_holds_365 ?_
                      refine lv_istore (lv' := [(4, .int ((x94 ||| x147) ||| x151)), (0, .ref (G 2 0)), (1, .int x12), (2, .int x92), (3, .int x22), (5, .int x95), (6, .int r140), (7, .int r141), (8, .int x143)]) hx hb dL_holds_366 hl (by decide) rfl (fun ls hl => ?_)
                      refine lv_iload_n hx hb dL_holds_368 rfl (lv_at hl 3 rfl) ?_
                      refine jn_e h (fun J157 e159 h => ?_)
                      have w158 : ∀ (x155 : Int32) (ls : Array Slot), bz x155 → lv_has ls 9 [(0, .ref (G 2 0)), (1, .int x12), (3, .int x22), (4, .int ((x94 ||| x147) ||| x151)), (5, .int x95)] → J157 x155 → W p l e rm_L_holds s m args below meth c H0 [] 0 0 Q (F0 m 454 ls [.int x155]) := by
                        intro x155 ls b156 hl h
                        subst e159
                        refine lv_istore_n (lv' := [(2, .int x155), (0, .ref (G 2 0)), (1, .int x12), (3, .int x22), (4, .int ((x94 ||| x147) ||| x151)), (5, .int x95)]) hx hb dL_holds_454 rfl hl (by decide) rfl (fun ls hl => ?_)
                        refine lv_iinc (v := (x95 + 1)) (lv' := [(5, .int (x95 + 1)), (2, .int x155), (0, .ref (G 2 0)), (1, .int x12), (3, .int x22), (4, .int ((x94 ||| x147) ||| x151))]) hx hb dL_holds_455 hl (k := 5) rfl rfl (by decide) rfl (fun ls hl => ?_)
                        refine lv_goto (tgt := 241) hx hb dL_holds_458 (by decide) ?_
                        exact w97 x155 ((x94 ||| x147) ||| x151) (x95 + 1) _ b156 (lv_sub hl [2, 3, 1, 4, 5, 0] rfl) h
                      clear e159
                      refine jn_e h (fun J160 e162 h => ?_)
                      have w161 : ∀  (ls : Array Slot), lv_has ls 9 [(0, .ref (G 2 0)), (1, .int x12), (3, .int x22), (4, .int ((x94 ||| x147) ||| x151)), (5, .int x95)] → J160 → W p l e rm_L_holds s m args below meth c H0 [] 0 0 Q (F0 m 453 ls []) := by
                        intro ls hl h
                        subst e162
                        refine lv_iconst (v := (0 : Int32)) hx hb dL_holds_453 (by decide) ?_
                        exact w158 (0 : Int32) _ bz0 hl h
                      clear e162
                      refine lv_if_eq (tgt := 453) hx hb dL_holds_369 (by decide) (fun c163 => ?_) (fun c163 => ?_)
                      · replace h := h.1 c163
                        exact w161 _ (lv_sub hl [1, 2, 4, 0, 5] rfl) h
                      · replace h := h.2 c163
                        refine lv_iload hx hb dL_holds_372 (lv_at hl 6 rfl) ?_
                        refine lv_iload hx hb dL_holds_374 (lv_at hl 8 rfl) ?_
                        refine jn_e h (fun J165 e167 h => ?_)
                        have w166 : ∀ (x164 : Int32) (ls : Array Slot), lv_has ls 9 [(0, .ref (G 2 0)), (1, .int x12), (3, .int x22), (4, .int ((x94 ||| x147) ||| x151)), (5, .int x95), (7, .int r141), (8, .int x143)] → J165 x164 → W p l e rm_L_holds s m args below meth c H0 [] 0 0 Q (F0 m 404 ls [.int x164, .int r140]) := by
                          intro x164 ls hl h
                          subst e167
                          refine lv_icmp_ne (tgt := 453) hx hb dL_holds_404 (by decide) (fun c168 => ?_) (fun c168 => ?_)
                          · replace h := h.1 c168
                            exact w161 _ (lv_sub hl [0, 1, 2, 3, 4] rfl) h
                          · replace h := h.2 c168
                            refine lv_iload hx hb dL_holds_407 (lv_at hl 5 rfl) ?_
                            refine lv_iload hx hb dL_holds_409 (lv_at hl 6 rfl) ?_
                            refine jn_e h (fun J170 e172 h => ?_)
                            have w171 : ∀ (x169 : Int32) (ls : Array Slot), lv_has ls 9 [(0, .ref (G 2 0)), (1, .int x12), (3, .int x22), (4, .int ((x94 ||| x147) ||| x151)), (5, .int x95)] → J170 x169 → W p l e rm_L_holds s m args below meth c H0 [] 0 0 Q (F0 m 446 ls [.int x169, .int r141]) := by
                              intro x169 ls hl h
                              subst e172
                              refine lv_icmp_ne (tgt := 453) hx hb dL_holds_446 (by decide) (fun c173 => ?_) (fun c173 => ?_)
                              · replace h := h.1 c173
                                exact w161 _ hl h
                              · replace h := h.2 c173
                                refine lv_iconst (v := (1 : Int32)) hx hb dL_holds_449 (by decide) ?_
                                refine lv_goto (tgt := 454) hx hb dL_holds_450 (by decide) ?_
                                exact w158 (1 : Int32) _ bz1 hl h
                            clear e172
                            refine lv_if_ne (tgt := 418) hx hb dL_holds_411 (by decide) (fun c174 => ?_) (fun c174 => ?_)
                            · replace h := h.1 c174
                              refine lv_iload hx hb dL_holds_418 (lv_at hl 6 rfl) ?_
                              refine lv_iconst (v := (3 : Int32)) hx hb dL_holds_420 (by decide) ?_
                              refine lv_icmp_ne (tgt := 436) hx hb dL_holds_421 (by decide) (fun c175 => ?_) (fun c175 => ?_)
                              · replace h := h.1 c175
                                refine lv_aload_n hx hb dL_holds_436 rfl (lv_at hl 0 rfl) ?_
                                refine lv_iload hx hb dL_holds_437 (lv_at hl 4 rfl) ?_
                                refine lv_iload hx hb dL_holds_439 (lv_at hl 6 rfl) ?_
                                refine lv_iconst (v := (1 : Int32)) hx hb dL_holds_441 (by decide) ?_
                                refine lv_iadd hx hb dL_holds_442 ?_
                                refine roVi (As := [.int x95, .int (x143 + (1 : Int32))]) (rest := [.int r141]) F (c_X3_inn l D cI cS cJ G u H0 x95 (x143 + (1 : Int32)) h) (cw_L_76 hts (Nat.le_of_ble_eq_true rfl) (Nat.le_of_ble_eq_true rfl)) hK hP (recv (ci := 3) (k0 := 0) hK hP rfl rfl) rfl hl.1 rfl (Nat.le_of_ble_eq_true rfl) dL_holds_443 ⟨(Nat.le_of_ble_eq_true rfl), (Nat.le_of_ble_eq_true rfl)⟩ (fun r176 h => ?_)
                                exact w171 r176 _ (lv_sub hl [0, 1, 2, 3, 4] rfl) h
                              · replace h := h.2 c175
                                refine lv_bipush (v := (10 : Int32)) hx hb dL_holds_424 (by decide) ?_
                                refine lv_aload_n hx hb dL_holds_426 rfl (lv_at hl 0 rfl) ?_
                                refine lv_iload hx hb dL_holds_427 (lv_at hl 4 rfl) ?_
                                refine roVi (As := [.int x95]) (rest := [.int (10 : Int32), .int r141]) F (c_X3_hall l D cI cS cJ G u H0 x95 h) (cw_L_59 hts (Nat.le_of_ble_eq_true rfl) (Nat.le_of_ble_eq_true rfl)) hK hP (recv (ci := 3) (k0 := 0) hK hP rfl rfl) rfl hl.1 rfl (Nat.le_of_ble_eq_true rfl) dL_holds_429 ⟨(Nat.le_of_ble_eq_true rfl), (Nat.le_of_ble_eq_true rfl)⟩ (fun r177 h => ?_)
                                refine lv_iadd hx hb dL_holds_432 ?_
                                refine lv_goto (tgt := 446) hx hb dL_holds_433 (by decide) ?_
                                exact w171 ((10 : Int32) + r177) _ (lv_sub hl [0, 1, 2, 3, 4] rfl) h
                            · replace h := h.2 c174
                              refine lv_iconst (v := (-1 : Int32)) hx hb dL_holds_414 (by decide) ?_
                              refine lv_goto (tgt := 446) hx hb dL_holds_415 (by decide) ?_
                              exact w171 (-1 : Int32) _ (lv_sub hl [0, 1, 2, 3, 4] rfl) h
                        clear e167
                        refine lv_if_ne (tgt := 383) hx hb dL_holds_376 (by decide) (fun c178 => ?_) (fun c178 => ?_)
                        · replace h := h.1 c178
                          refine lv_iload hx hb dL_holds_383 (lv_at hl 8 rfl) ?_
                          refine lv_iconst (v := (1 : Int32)) hx hb dL_holds_385 (by decide) ?_
                          refine lv_icmp_ne (tgt := 394) hx hb dL_holds_386 (by decide) (fun c179 => ?_) (fun c179 => ?_)
                          · replace h := h.1 c179
                            refine lv_aload_n hx hb dL_holds_394 rfl (lv_at hl 1 rfl) ?_
                            refine lv_iload hx hb dL_holds_395 (lv_at hl 5 rfl) ?_
                            refine lv_iload hx hb dL_holds_397 (lv_at hl 8 rfl) ?_
                            refine lv_iconst (v := (1 : Int32)) hx hb dL_holds_399 (by decide) ?_
                            refine lv_isub hx hb dL_holds_400 ?_
                            refine roVi (As := [.int x95, .int (x143 - (1 : Int32))]) (rest := [.int r140]) F (c_X3_inn l D cI cS cJ G u H0 x95 (x143 - (1 : Int32)) h) (cw_L_76 hts (Nat.le_of_ble_eq_true rfl) (Nat.le_of_ble_eq_true rfl)) hK hP (recv (ci := 3) (k0 := 0) hK hP rfl rfl) rfl hl.1 rfl (Nat.le_of_ble_eq_true rfl) dL_holds_401 ⟨(Nat.le_of_ble_eq_true rfl), (Nat.le_of_ble_eq_true rfl)⟩ (fun r180 h => ?_)
                            exact w166 r180 _ (lv_sub hl [1, 2, 4, 0, 5, 7, 8] rfl) h
                          · replace h := h.2 c179
                            refine lv_bipush (v := (8 : Int32)) hx hb dL_holds_389 (by decide) ?_
                            refine lv_goto (tgt := 404) hx hb dL_holds_391 (by decide) ?_
                            exact w166 (8 : Int32) _ (lv_sub hl [1, 2, 4, 0, 5, 7, 8] rfl) h
                        · replace h := h.2 c178
                          refine lv_iconst (v := (-1 : Int32)) hx hb dL_holds_379 (by decide) ?_
                          refine lv_goto (tgt := 404) hx hb dL_holds_380 (by decide) ?_
                          exact w166 (-1 : Int32) _ (lv_sub hl [1, 2, 4, 0, 5, 7, 8] rfl) h
                    clear e154
                    refine jn_e h (fun J181 e183 h => ?_)
                    have w182 : ∀  (ls : Array Slot), lv_has ls 9 [(0, .ref (G 2 0)), (1, .int x12), (2, .int x92), (3, .int x22), (5, .int x95), (6, .int r140), (7, .int r141), (8, .int x143)] → J181 → W p l e rm_L_holds s m args below meth c H0 [] 0 0 Q (F0 m 364 ls [.int (x94 ||| x147)]) := by
                      intro ls hl h
                      subst e183
                      refine lv_iconst (v := (0 : Int32)) hx hb dL_holds_364 (by decide) ?_
                      exact w153 (0 : Int32) _ hl h
                    clear e183
                    refine lv_if_lt (tgt := 364) hx hb dL_holds_347 (by decide) (fun c184 => ?_) (fun c184 => ?_)
                    · replace h := h.1 c184
                      exact w182 _ (lv_sub hl [1, 2, 3, 4, 5, 6, 7, 8] rfl) h
                    · replace h := h.2 c184
                      refine lv_iload hx hb dL_holds_350 (lv_at hl 7 rfl) ?_
                      refine lv_bipush (v := (8 : Int32)) hx hb dL_holds_352 (by decide) ?_
                      refine lv_icmp_ge (tgt := 364) hx hb dL_holds_354 (by decide) (fun c185 => ?_) (fun c185 => ?_)
                      · replace h := h.1 c185
                        exact w182 _ (lv_sub hl [1, 2, 3, 4, 5, 6, 7, 8] rfl) h
                      · replace h := h.2 c185
                        refine lv_iconst (v := (1 : Int32)) hx hb dL_holds_357 (by decide) ?_
                        refine lv_iload hx hb dL_holds_358 (lv_at hl 7 rfl) ?_
                        refine lv_ishl hx hb dL_holds_360 ?_
                        refine lv_goto (tgt := 365) hx hb dL_holds_361 (by decide) ?_
                        exact w153 ((1 : Int32) <<< (r141 &&& 31)) _ (lv_sub hl [1, 2, 3, 4, 5, 6, 7, 8] rfl) h
                  clear e150
                  refine jn_e h (fun J186 e188 h => ?_)
                  have w187 : ∀  (ls : Array Slot), lv_has ls 9 [(0, .ref (G 2 0)), (1, .int x12), (2, .int x92), (3, .int x22), (5, .int x95), (6, .int r140), (7, .int r141), (8, .int x143)] → J186 → W p l e rm_L_holds s m args below meth c H0 [] 0 0 Q (F0 m 339 ls [.int x94]) := by
                    intro ls hl h
                    subst e188
                    refine lv_iconst (v := (0 : Int32)) hx hb dL_holds_339 (by decide) ?_
                    exact w149 (0 : Int32) _ hl h
                  clear e188
                  refine lv_if_lt (tgt := 339) hx hb dL_holds_322 (by decide) (fun c189 => ?_) (fun c189 => ?_)
                  · replace h := h.1 c189
                    exact w187 _ (lv_sub hl [1, 2, 3, 4, 6, 7, 8, 0] rfl) h
                  · replace h := h.2 c189
                    refine lv_iload hx hb dL_holds_325 (lv_at hl 7 rfl) ?_
                    refine lv_bipush (v := (8 : Int32)) hx hb dL_holds_327 (by decide) ?_
                    refine lv_icmp_ge (tgt := 339) hx hb dL_holds_329 (by decide) (fun c190 => ?_) (fun c190 => ?_)
                    · replace h := h.1 c190
                      exact w187 _ (lv_sub hl [1, 2, 3, 4, 6, 7, 8, 0] rfl) h
                    · replace h := h.2 c190
                      refine lv_iconst (v := (1 : Int32)) hx hb dL_holds_332 (by decide) ?_
                      refine lv_iload hx hb dL_holds_333 (lv_at hl 7 rfl) ?_
                      refine lv_ishl hx hb dL_holds_335 ?_
                      refine lv_goto (tgt := 340) hx hb dL_holds_336 (by decide) ?_
                      exact w149 ((1 : Int32) <<< (r140 &&& 31)) _ (lv_sub hl [1, 2, 3, 4, 6, 7, 8, 0] rfl) h
                clear e146
                refine lv_icmp_ne (tgt := 285) hx hb dL_holds_278 (by decide) (fun c191 => ?_) (fun c191 => ?_)
                · replace h := h.1 c191
                  refine lv_aload_n hx hb dL_holds_285 rfl (lv_at hl 2 rfl) ?_
                  refine lv_iload hx hb dL_holds_286 (lv_at hl 7 rfl) ?_
                  refine lv_iconst (v := (2 : Int32)) hx hb dL_holds_288 (by decide) ?_
                  refine roVi (As := [.int x95, .int (2 : Int32)]) (rest := []) F (c_X3_inn l D cI cS cJ G u H0 x95 (2 : Int32) h) (cw_L_76 hts (Nat.le_of_ble_eq_true rfl) (Nat.le_of_ble_eq_true rfl)) hK hP (recv (ci := 3) (k0 := 0) hK hP rfl rfl) rfl hl.1 rfl (Nat.le_of_ble_eq_true rfl) dL_holds_289 ⟨(Nat.le_of_ble_eq_true rfl), (Nat.le_of_ble_eq_true rfl)⟩ (fun r192 h => ?_)
                  refine lv_iload_n hx hb dL_holds_292 rfl (lv_at hl 5 rfl) ?_
                  refine lv_icmp_ne (tgt := 300) hx hb dL_holds_293 (by decide) (fun c193 => ?_) (fun c193 => ?_)
                  · replace h := h.1 c193
                    refine lv_aload_n hx hb dL_holds_300 rfl (lv_at hl 2 rfl) ?_
                    refine lv_iload hx hb dL_holds_301 (lv_at hl 7 rfl) ?_
                    refine lv_iconst (v := (3 : Int32)) hx hb dL_holds_303 (by decide) ?_
                    refine roVi (As := [.int x95, .int (3 : Int32)]) (rest := []) F (c_X3_inn l D cI cS cJ G u H0 x95 (3 : Int32) h) (cw_L_76 hts (Nat.le_of_ble_eq_true rfl) (Nat.le_of_ble_eq_true rfl)) hK hP (recv (ci := 3) (k0 := 0) hK hP rfl rfl) rfl hl.1 rfl (Nat.le_of_ble_eq_true rfl) dL_holds_304 ⟨(Nat.le_of_ble_eq_true rfl), (Nat.le_of_ble_eq_true rfl)⟩ (fun r194 h => ?_)
                    refine lv_iload_n hx hb dL_holds_307 rfl (lv_at hl 5 rfl) ?_
                    refine lv_icmp_ne (tgt := 315) hx hb dL_holds_308 (by decide) (fun c195 => ?_) (fun c195 => ?_)
                    · replace h := h.1 c195
                      refine lv_iconst (v := (0 : Int32)) hx hb dL_holds_315 (by decide) ?_
                      exact w145 (0 : Int32) _ (lv_sub hl [2, 3, 4, 5, 6, 7, 1, 0] rfl) h
                    · replace h := h.2 c195
                      refine lv_iconst (v := (3 : Int32)) hx hb dL_holds_311 (by decide) ?_
                      refine lv_goto (tgt := 316) hx hb dL_holds_312 (by decide) ?_
                      exact w145 (3 : Int32) _ (lv_sub hl [2, 3, 4, 5, 6, 7, 1, 0] rfl) h
                  · replace h := h.2 c193
                    refine lv_iconst (v := (2 : Int32)) hx hb dL_holds_296 (by decide) ?_
                    refine lv_goto (tgt := 316) hx hb dL_holds_297 (by decide) ?_
                    exact w145 (2 : Int32) _ (lv_sub hl [2, 3, 4, 5, 6, 7, 1, 0] rfl) h
                · replace h := h.2 c191
                  refine lv_iconst (v := (1 : Int32)) hx hb dL_holds_281 (by decide) ?_
                  refine lv_goto (tgt := 316) hx hb dL_holds_282 (by decide) ?_
                  exact w145 (1 : Int32) _ (lv_sub hl [2, 3, 4, 5, 6, 7, 1, 0] rfl) h
            · intro K96 w97 h
              exact w97 x20 (0 : Int32) (0 : Int32) _ b21 (lv_sub hl [2, 3, 4, 5, 1, 0] rfl) h
        · intro K23 w24 h
          exact w24 x13 (0 : Int32) _ b14 (lv_sub hl [1, 2, 3, 0] rfl) h
      · replace h := h.2 c19
        refine lv_aload_n hx hb dL_holds_97 rfl (lv_at hl 0 rfl) ?_
        refine lv_iload_n hx hb dL_holds_98 rfl (lv_at hl 3 rfl) ?_
        refine lv_iconst (v := (3 : Int32)) hx hb dL_holds_99 (by decide) ?_
        refine roVi (As := [.int x15, .int (3 : Int32)]) (rest := []) F (c_X3_envelope l D cI cS cJ G u H0 x15 (3 : Int32) h) (cw_L_39 hts (Nat.le_of_ble_eq_true rfl) (Nat.le_of_ble_eq_true rfl)) hK hP (recv (ci := 3) (k0 := 0) hK hP rfl rfl) rfl hl.1 rfl (Nat.le_of_ble_eq_true rfl) dL_holds_100 ⟨(Nat.le_of_ble_eq_true rfl), (Nat.le_of_ble_eq_true rfl)⟩ (fun r196 h => ?_)
        refine lv_iconst (v := (1 : Int32)) hx hb dL_holds_103 (by decide) ?_
        refine jn_e h (fun J199 e201 h => ?_)
        have w200 : ∀ (x197 : Int32) (ls : Array Slot), bz x197 → lv_has ls 9 [(0, .ref (G 2 0)), (1, .int x12), (2, .int x13), (3, .int x15)] → J199 x197 → W p l e rm_L_holds s m args below meth c H0 [] 0 0 Q (F0 m 112 ls [.int x197]) := by
          intro x197 ls b198 hl h
          subst e201
          refine lv_istore (lv' := [(4, .int x197), (0, .ref (G 2 0)), (1, .int x12), (2, .int x13), (3, .int x15)]) hx hb dL_holds_112 hl (by decide) rfl (fun ls hl => ?_)
          refine lv_aload_n hx hb dL_holds_114 rfl (lv_at hl 1 rfl) ?_
          refine lv_iload_n hx hb dL_holds_115 rfl (lv_at hl 4 rfl) ?_
          refine lv_iconst (v := (1 : Int32)) hx hb dL_holds_116 (by decide) ?_
          refine roVi (As := [.int x15, .int (1 : Int32)]) (rest := []) F (c_X3_envelope l D cI cS cJ G u H0 x15 (1 : Int32) h) (cw_L_39 hts (Nat.le_of_ble_eq_true rfl) (Nat.le_of_ble_eq_true rfl)) hK hP (recv (ci := 3) (k0 := 0) hK hP rfl rfl) rfl hl.1 rfl (Nat.le_of_ble_eq_true rfl) dL_holds_117 ⟨(Nat.le_of_ble_eq_true rfl), (Nat.le_of_ble_eq_true rfl)⟩ (fun r202 h => ?_)
          refine lv_istore (lv' := [(5, .int r202), (4, .int x197), (0, .ref (G 2 0)), (1, .int x12), (2, .int x13), (3, .int x15)]) hx hb dL_holds_120 hl (by decide) rfl (fun ls hl => ?_)
          refine lv_aload_n hx hb dL_holds_122 rfl (lv_at hl 2 rfl) ?_
          refine lv_iload_n hx hb dL_holds_123 rfl (lv_at hl 5 rfl) ?_
          refine roVi (As := [.int x15]) (rest := []) F (c_X3_ticksTo l D cI cS cJ G u H0 x15 h) (cw_L_55 hts (Nat.le_of_ble_eq_true rfl) (Nat.le_of_ble_eq_true rfl)) hK hP (recv (ci := 3) (k0 := 0) hK hP rfl rfl) rfl hl.1 rfl (Nat.le_of_ble_eq_true rfl) dL_holds_124 ⟨(Nat.le_of_ble_eq_true rfl), (Nat.le_of_ble_eq_true rfl)⟩ (fun r203 h => ?_)
          refine lv_istore (lv' := [(6, .int r203), (5, .int r202), (4, .int x197), (0, .ref (G 2 0)), (1, .int x12), (2, .int x13), (3, .int x15)]) hx hb dL_holds_127 hl (by decide) rfl (fun ls hl => ?_)
          refine lv_iload_n hx hb dL_holds_129 rfl (lv_at hl 4 rfl) ?_
          refine lv_iload hx hb dL_holds_130 (lv_at hl 0 rfl) ?_
          refine lv_iconst (v := (-1 : Int32)) hx hb dL_holds_132 (by decide) ?_
          refine jn_e h (fun J206 e208 h => ?_)
          have w207 : ∀ (x204 : Int32) (ls : Array Slot), bz x204 → lv_has ls 9 [(0, .ref (G 2 0)), (2, .int x13), (3, .int x15), (4, .int x197), (5, .int r202), (6, .int r203)] → J206 x204 → W p l e rm_L_holds s m args below meth c H0 [] 0 0 Q (F0 m 141 ls [.int x204, .int x12]) := by
            intro x204 ls b205 hl h
            subst e208
            refine lv_iadd hx hb dL_holds_141 ?_
            refine lv_istore_n (lv' := [(1, .int (x12 + x204)), (0, .ref (G 2 0)), (2, .int x13), (3, .int x15), (4, .int x197), (5, .int r202), (6, .int r203)]) hx hb dL_holds_142 rfl hl (by decide) rfl (fun ls hl => ?_)
            refine lv_iload_n hx hb dL_holds_143 rfl (lv_at hl 2 rfl) ?_
            refine jn_e h (fun J211 e213 h => ?_)
            have w212 : ∀ (x209 : Int32) (ls : Array Slot), bz x209 → lv_has ls 9 [(0, .ref (G 2 0)), (1, .int (x12 + x204)), (3, .int x15)] → J211 x209 → W p l e rm_L_holds s m args below meth c H0 [] 0 0 Q (F0 m 220 ls [.int x209]) := by
              intro x209 ls b210 hl h
              subst e213
              refine lv_istore_n (lv' := [(2, .int x209), (0, .ref (G 2 0)), (1, .int (x12 + x204)), (3, .int x15)]) hx hb dL_holds_220 rfl hl (by decide) rfl (fun ls hl => ?_)
              refine lv_iinc (v := (x15 + 1)) (lv' := [(3, .int (x15 + 1)), (2, .int x209), (0, .ref (G 2 0)), (1, .int (x12 + x204))]) hx hb dL_holds_221 hl (k := 3) rfl rfl (by decide) rfl (fun ls hl => ?_)
              refine lv_goto (tgt := 89) hx hb dL_holds_224 (by decide) ?_
              exact w17 (x12 + x204) x209 (x15 + 1) _ b210 (lv_sub hl [2, 3, 1, 0] rfl) h
            clear e213
            refine jn_e h (fun J214 e216 h => ?_)
            have w215 : ∀  (ls : Array Slot), lv_has ls 9 [(0, .ref (G 2 0)), (1, .int (x12 + x204)), (3, .int x15)] → J214 → W p l e rm_L_holds s m args below meth c H0 [] 0 0 Q (F0 m 219 ls []) := by
              intro ls hl h
              subst e216
              refine lv_iconst (v := (0 : Int32)) hx hb dL_holds_219 (by decide) ?_
              exact w212 (0 : Int32) _ bz0 hl h
            clear e216
            refine lv_if_eq (tgt := 219) hx hb dL_holds_144 (by decide) (fun c217 => ?_) (fun c217 => ?_)
            · replace h := h.1 c217
              exact w215 _ (lv_sub hl [1, 0, 3] rfl) h
            · replace h := h.2 c217
              refine lv_aload_n hx hb dL_holds_147 rfl (lv_at hl 1 rfl) ?_
              refine lv_iload_n hx hb dL_holds_148 rfl (lv_at hl 3 rfl) ?_
              refine lv_iconst (v := (2 : Int32)) hx hb dL_holds_149 (by decide) ?_
              refine roVi (As := [.int x15, .int (2 : Int32)]) (rest := []) F (c_X3_envelope l D cI cS cJ G u H0 x15 (2 : Int32) h) (cw_L_39 hts (Nat.le_of_ble_eq_true rfl) (Nat.le_of_ble_eq_true rfl)) hK hP (recv (ci := 3) (k0 := 0) hK hP rfl rfl) rfl hl.1 rfl (Nat.le_of_ble_eq_true rfl) dL_holds_150 ⟨(Nat.le_of_ble_eq_true rfl), (Nat.le_of_ble_eq_true rfl)⟩ (fun r218 h => ?_)
              refine lv_if_lt (tgt := 219) hx hb dL_holds_153 (by decide) (fun c219 => ?_) (fun c219 => ?_)
              · replace h := h.1 c219
                exact w215 _ (lv_sub hl [1, 0, 3] rfl) h
              · replace h := h.2 c219
                refine lv_aload_n hx hb dL_holds_156 rfl (lv_at hl 1 rfl) ?_
                refine lv_iload_n hx hb dL_holds_157 rfl (lv_at hl 3 rfl) ?_
                refine lv_iconst (v := (2 : Int32)) hx hb dL_holds_158 (by decide) ?_
                refine roVi (As := [.int x15, .int (2 : Int32)]) (rest := []) F (c_X3_envelope l D cI cS cJ G u H0 x15 (2 : Int32) h) (cw_L_39 hts (Nat.le_of_ble_eq_true rfl) (Nat.le_of_ble_eq_true rfl)) hK hP (recv (ci := 3) (k0 := 0) hK hP rfl rfl) rfl hl.1 rfl (Nat.le_of_ble_eq_true rfl) dL_holds_159 ⟨(Nat.le_of_ble_eq_true rfl), (Nat.le_of_ble_eq_true rfl)⟩ (fun r220 h => ?_)
                refine lv_sipush (v := (9999 : Int32)) hx hb dL_holds_162 (by decide) ?_
                refine lv_icmp_gt (tgt := 219) hx hb dL_holds_165 (by decide) (fun c221 => ?_) (fun c221 => ?_)
                · replace h := h.1 c221
                  exact w215 _ (lv_sub hl [1, 0, 3] rfl) h
                · replace h := h.2 c221
                  refine lv_aload_n hx hb dL_holds_168 rfl (lv_at hl 1 rfl) ?_
                  refine lv_iload_n hx hb dL_holds_169 rfl (lv_at hl 3 rfl) ?_
                  refine lv_iconst (v := (0 : Int32)) hx hb dL_holds_170 (by decide) ?_
                  refine roVi (As := [.int x15, .int (0 : Int32)]) (rest := []) F (c_X3_envelope l D cI cS cJ G u H0 x15 (0 : Int32) h) (cw_L_39 hts (Nat.le_of_ble_eq_true rfl) (Nat.le_of_ble_eq_true rfl)) hK hP (recv (ci := 3) (k0 := 0) hK hP rfl rfl) rfl hl.1 rfl (Nat.le_of_ble_eq_true rfl) dL_holds_171 ⟨(Nat.le_of_ble_eq_true rfl), (Nat.le_of_ble_eq_true rfl)⟩ (fun r222 h => ?_)
                  refine lv_if_lt (tgt := 219) hx hb dL_holds_174 (by decide) (fun c223 => ?_) (fun c223 => ?_)
                  · replace h := h.1 c223
                    exact w215 _ (lv_sub hl [1, 0, 3] rfl) h
                  · replace h := h.2 c223
                    refine lv_aload_n hx hb dL_holds_177 rfl (lv_at hl 1 rfl) ?_
                    refine lv_iload_n hx hb dL_holds_178 rfl (lv_at hl 3 rfl) ?_
                    refine lv_iconst (v := (0 : Int32)) hx hb dL_holds_179 (by decide) ?_
                    refine roVi (As := [.int x15, .int (0 : Int32)]) (rest := []) F (c_X3_envelope l D cI cS cJ G u H0 x15 (0 : Int32) h) (cw_L_39 hts (Nat.le_of_ble_eq_true rfl) (Nat.le_of_ble_eq_true rfl)) hK hP (recv (ci := 3) (k0 := 0) hK hP rfl rfl) rfl hl.1 rfl (Nat.le_of_ble_eq_true rfl) dL_holds_180 ⟨(Nat.le_of_ble_eq_true rfl), (Nat.le_of_ble_eq_true rfl)⟩ (fun r224 h => ?_)
                    refine lv_aload_n hx hb dL_holds_183 rfl (lv_at hl 1 rfl) ?_
                    refine roVi (As := []) (rest := [.int r224]) F (c_X3_roads l D cI cS cJ G u H0  h) (cw_L_15 hts (Nat.le_of_ble_eq_true rfl) (Nat.le_of_ble_eq_true rfl)) hK hP (recv (ci := 3) (k0 := 0) hK hP rfl rfl) rfl hl.1 rfl (Nat.le_of_ble_eq_true rfl) dL_holds_184 ⟨(Nat.le_of_ble_eq_true rfl), (Nat.le_of_ble_eq_true rfl)⟩ (fun r225 h => ?_)
                    refine lv_icmp_ge (tgt := 219) hx hb dL_holds_187 (by decide) (fun c226 => ?_) (fun c226 => ?_)
                    · replace h := h.1 c226
                      exact w215 _ (lv_sub hl [1, 0, 3] rfl) h
                    · replace h := h.2 c226
                      refine lv_iload hx hb dL_holds_190 (lv_at hl 6 rfl) ?_
                      refine lv_iconst (v := (-1 : Int32)) hx hb dL_holds_192 (by decide) ?_
                      refine jn_e h (fun J227 e229 h => ?_)
                      have w228 : ∀  (ls : Array Slot), lv_has ls 9 [(0, .ref (G 2 0)), (1, .int (x12 + x204)), (3, .int x15)] → J227 → W p l e rm_L_holds s m args below meth c H0 [] 0 0 Q (F0 m 215 ls []) := by
                        intro ls hl h
                        subst e229
                        refine lv_iconst (v := (1 : Int32)) hx hb dL_holds_215 (by decide) ?_
                        refine lv_goto (tgt := 220) hx hb dL_holds_216 (by decide) ?_
                        exact w212 (1 : Int32) _ bz1 hl h
                      clear e229
                      refine lv_icmp_eq (tgt := 215) hx hb dL_holds_193 (by decide) (fun c230 => ?_) (fun c230 => ?_)
                      · replace h := h.1 c230
                        exact w228 _ (lv_sub hl [1, 0, 3] rfl) h
                      · replace h := h.2 c230
                        refine lv_iload hx hb dL_holds_196 (lv_at hl 6 rfl) ?_
                        refine lv_iload hx hb dL_holds_198 (lv_at hl 4 rfl) ?_
                        refine jn_e h (fun J232 e234 h => ?_)
                        have w233 : ∀ (x231 : Int32) (ls : Array Slot), lv_has ls 9 [(0, .ref (G 2 0)), (1, .int (x12 + x204)), (3, .int x15)] → J232 x231 → W p l e rm_L_holds s m args below meth c H0 [] 0 0 Q (F0 m 212 ls [.int x231, .int r203]) := by
                          intro x231 ls hl h
                          subst e234
                          refine lv_icmp_ne (tgt := 219) hx hb dL_holds_212 (by decide) (fun c235 => ?_) (fun c235 => ?_)
                          · replace h := h.1 c235
                            exact w215 _ hl h
                          · replace h := h.2 c235
                            exact w228 _ hl h
                        clear e234
                        refine lv_if_eq (tgt := 208) hx hb dL_holds_200 (by decide) (fun c236 => ?_) (fun c236 => ?_)
                        · replace h := h.1 c236
                          refine lv_iconst (v := (4 : Int32)) hx hb dL_holds_208 (by decide) ?_
                          refine lv_iload hx hb dL_holds_209 (lv_at hl 5 rfl) ?_
                          refine lv_isub hx hb dL_holds_211 ?_
                          exact w233 ((4 : Int32) - r202) _ (lv_sub hl [1, 0, 3] rfl) h
                        · replace h := h.2 c236
                          refine lv_iload hx hb dL_holds_203 (lv_at hl 5 rfl) ?_
                          refine lv_goto (tgt := 212) hx hb dL_holds_205 (by decide) ?_
                          exact w233 r202 _ (lv_sub hl [1, 0, 3] rfl) h
          clear e208
          refine lv_icmp_ne (tgt := 140) hx hb dL_holds_133 (by decide) (fun c237 => ?_) (fun c237 => ?_)
          · replace h := h.1 c237
            refine lv_iconst (v := (0 : Int32)) hx hb dL_holds_140 (by decide) ?_
            exact w207 (0 : Int32) _ bz0 (lv_sub hl [3, 5, 6, 2, 1, 0] rfl) h
          · replace h := h.2 c237
            refine lv_iconst (v := (1 : Int32)) hx hb dL_holds_136 (by decide) ?_
            refine lv_goto (tgt := 141) hx hb dL_holds_137 (by decide) ?_
            exact w207 (1 : Int32) _ bz1 (lv_sub hl [3, 5, 6, 2, 1, 0] rfl) h
        clear e201
        refine lv_icmp_ne (tgt := 111) hx hb dL_holds_104 (by decide) (fun c238 => ?_) (fun c238 => ?_)
        · replace h := h.1 c238
          refine lv_iconst (v := (0 : Int32)) hx hb dL_holds_111 (by decide) ?_
          exact w200 (0 : Int32) _ bz0 hl h
        · replace h := h.2 c238
          refine lv_iconst (v := (1 : Int32)) hx hb dL_holds_107 (by decide) ?_
          refine lv_goto (tgt := 112) hx hb dL_holds_108 (by decide) ?_
          exact w200 (1 : Int32) _ bz1 hl h
    · intro K16 w17 h
      exact w17 (0 : Int32) x7 (0 : Int32) _ b8 (lv_sub hl [2, 3, 1, 0] rfl) h
  clear e11
  refine jn_e h (fun J239 e241 h => ?_)
  have w240 : ∀  (ls : Array Slot), lv_has ls 9 [(0, .ref (G 2 0)), (1, .int (0 : Int32))] → J239 → W p l e rm_L_holds s m args below meth c H0 [] 0 0 Q (F0 m 85 ls []) := by
    intro ls hl h
    subst e241
    refine lv_iconst (v := (0 : Int32)) hx hb dL_holds_85 (by decide) ?_
    exact w10 (0 : Int32) _ bz0 hl h
  clear e241
  refine lv_icmp_ne (tgt := 85) hx hb dL_holds_35 (by decide) (fun c242 => ?_) (fun c242 => ?_)
  · replace h := h.1 c242
    exact w240 _ (lv_sub hl [1, 0] rfl) h
  · replace h := h.2 c242
    refine lv_aload_n hx hb dL_holds_38 rfl (lv_at hl 1 rfl) ?_
    refine roVi (As := []) (rest := []) F (c_X3_envelopes l D cI cS cJ G u H0  h) (cw_L_21 hts (Nat.le_of_ble_eq_true rfl) (Nat.le_of_ble_eq_true rfl)) hK hP (recv (ci := 3) (k0 := 0) hK hP rfl rfl) rfl hl.1 rfl (Nat.le_of_ble_eq_true rfl) dL_holds_39 ⟨(Nat.le_of_ble_eq_true rfl), (Nat.le_of_ble_eq_true rfl)⟩ (fun r243 h => ?_)
    refine lv_if_lt (tgt := 85) hx hb dL_holds_42 (by decide) (fun c244 => ?_) (fun c244 => ?_)
    · replace h := h.1 c244
      exact w240 _ (lv_sub hl [1, 0] rfl) h
    · replace h := h.2 c244
      refine lv_aload_n hx hb dL_holds_45 rfl (lv_at hl 1 rfl) ?_
      refine roVi (As := []) (rest := []) F (c_X3_envelopes l D cI cS cJ G u H0  h) (cw_L_21 hts (Nat.le_of_ble_eq_true rfl) (Nat.le_of_ble_eq_true rfl)) hK hP (recv (ci := 3) (k0 := 0) hK hP rfl rfl) rfl hl.1 rfl (Nat.le_of_ble_eq_true rfl) dL_holds_46 ⟨(Nat.le_of_ble_eq_true rfl), (Nat.le_of_ble_eq_true rfl)⟩ (fun r245 h => ?_)
      refine lv_bipush (v := (12 : Int32)) hx hb dL_holds_49 (by decide) ?_
      refine lv_icmp_gt (tgt := 85) hx hb dL_holds_51 (by decide) (fun c246 => ?_) (fun c246 => ?_)
      · replace h := h.1 c246
        exact w240 _ (lv_sub hl [1, 0] rfl) h
      · replace h := h.2 c246
        refine lv_aload_n hx hb dL_holds_54 rfl (lv_at hl 1 rfl) ?_
        refine roVi (As := []) (rest := []) F (c_X3_roads l D cI cS cJ G u H0  h) (cw_L_15 hts (Nat.le_of_ble_eq_true rfl) (Nat.le_of_ble_eq_true rfl)) hK hP (recv (ci := 3) (k0 := 0) hK hP rfl rfl) rfl hl.1 rfl (Nat.le_of_ble_eq_true rfl) dL_holds_55 ⟨(Nat.le_of_ble_eq_true rfl), (Nat.le_of_ble_eq_true rfl)⟩ (fun r247 h => ?_)
        refine lv_bipush (v := (6 : Int32)) hx hb dL_holds_58 (by decide) ?_
        refine lv_icmp_gt (tgt := 85) hx hb dL_holds_60 (by decide) (fun c248 => ?_) (fun c248 => ?_)
        · replace h := h.1 c248
          exact w240 _ (lv_sub hl [1, 0] rfl) h
        · replace h := h.2 c248
          refine lv_aload_n hx hb dL_holds_63 rfl (lv_at hl 1 rfl) ?_
          refine roVd (As := []) (rest := []) F (c_X3_deliveredShare l D cI cS cJ G u H0  h) (cw_L_68 hts (Nat.le_of_ble_eq_true rfl) (Nat.le_of_ble_eq_true rfl)) hK hP (recv (ci := 3) (k0 := 0) hK hP rfl rfl) rfl hl.1 rfl (Nat.le_of_ble_eq_true rfl) dL_holds_64 ⟨(Nat.le_of_ble_eq_true rfl), (Nat.le_of_ble_eq_true rfl)⟩ (fun r249 h => ?_)
          refine lv_dconst0 hx hb dL_holds_67 ?_
          refine lv_dcmp hx hb dL_holds_68 ?_
          refine lv_if_lt (tgt := 85) hx hb dL_holds_69 (by decide) (fun c250 => ?_) (fun c250 => ?_)
          · replace h := h.1 c250
            exact w240 _ (lv_sub hl [1, 0] rfl) h
          · replace h := h.2 c250
            refine lv_aload_n hx hb dL_holds_72 rfl (lv_at hl 1 rfl) ?_
            refine roVd (As := []) (rest := []) F (c_X3_deliveredShare l D cI cS cJ G u H0  h) (cw_L_68 hts (Nat.le_of_ble_eq_true rfl) (Nat.le_of_ble_eq_true rfl)) hK hP (recv (ci := 3) (k0 := 0) hK hP rfl rfl) rfl hl.1 rfl (Nat.le_of_ble_eq_true rfl) dL_holds_73 ⟨(Nat.le_of_ble_eq_true rfl), (Nat.le_of_ble_eq_true rfl)⟩ (fun r251 h => ?_)
            refine lv_dconst1 hx hb dL_holds_76 ?_
            refine lv_dcmp hx hb dL_holds_77 ?_
            refine lv_if_gt (tgt := 85) hx hb dL_holds_78 (by decide) (fun c252 => ?_) (fun c252 => ?_)
            · replace h := h.1 c252
              exact w240 _ (lv_sub hl [1, 0] rfl) h
            · replace h := h.2 c252
              refine lv_iconst (v := (1 : Int32)) hx hb dL_holds_81 (by decide) ?_
              refine lv_goto (tgt := 86) hx hb dL_holds_82 (by decide) ?_
              exact w10 (1 : Int32) _ bz1 (lv_sub hl [1, 0] rfl) h
