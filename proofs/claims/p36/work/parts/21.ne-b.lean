def wp_X3_answer (u : Ne) (p1 : Int32) (p2 : Int32) (post : Int32 → Ne → Prop) : Prop :=
  wp_X3_answerFault u p1 p2 (fun r1 => wp_X3_refuse r1 (wp_X1_keep (N_saved u, N_now u) (fun u4 => wp_X2_addAnswer (N_now (sN_saved (sN_now u u4.2) u4.1)) p1 p2 (fun r5 u6 => post r5 (sN_now (sN_saved (sN_now u u4.2) u4.1) u6)))))
set_option maxHeartbeats 4000000 in
set_option maxRecDepth 100000 in
theorem c_X3_answer (l : Launch) (D : va_G) (cI cS cJ : ClassId) (G : Nat → Nat → Nat) (u : Ne) (sz : Nat) (p1 : Int32) (p2 : Int32) {post : Int32 → Ne → Prop} (h : wp_X3_answer u p1 p2 post) : Met l yX3_answer (wsA yX3_answer cX3_answer 3 (some .int)) rm_X3_answer (va_Pc [.ref (G 2 0), .int p1, .int p2] (rwP D (tysA cI cS cJ) (neW cI cS G u) sz)) (va_Qi post (fun u9 t => va_P D vwCl ((neW cI cS G) u9) t.heap ∧ va_D (va_A (neW cI cS G u) sz) ((neW cI cS G) u9)) (va_A (neW cI cS G u) sz)) 0 0 (va_A (neW cI cS G u) sz) := by
  refine mkRWi (wf := (neW cI cS G)) (by decide +kernel) (Nat.le_of_ble_eq_true rfl) (fun {p e s m args below meth c Q ls A H0 H locs} hx hb F hts hown hK hP hD hS hA hl hQ => ?_)
  have hown : s.vm.findClass RX3 = some m.cls := hown
  have F : CallFix p m c cX3_answer 3 s args wsT RX3 := F
  have hl : lv_has ls 3 [(0, .ref (G 2 0)), (1, .int p1), (2, .int p2)] := hl
  unfold wp_X3_answer at h
  refine lv_aload_n hx hb dX3_answer_0 rfl (lv_at hl 0 rfl) ?_
  refine lv_iload_n hx hb dX3_answer_1 rfl (lv_at hl 1 rfl) ?_
  refine lv_iload_n hx hb dX3_answer_2 rfl (lv_at hl 2 rfl) ?_
  refine roVi (As := [.int p1, .int p2]) (rest := []) F (c_X3_answerFault l D cI cS cJ G u H p1 p2 h) (cw_X3_125 hts (Nat.le_of_ble_eq_true rfl) (Nat.le_of_ble_eq_true rfl)) hK hP (recv (ci := 3) (k0 := 0) hK hP rfl rfl) rfl hl.1 rfl (Nat.le_of_ble_eq_true rfl) dX3_answer_3 ⟨(Nat.le_of_ble_eq_true rfl), (Nat.le_of_ble_eq_true rfl)⟩ (fun r1 h => ?_)
  refine roSv (As := [.int r1]) (rest := []) F (c_X3_refuse l D cI cS cJ H r1 h) (cw_X3_34 hts (Nat.le_of_ble_eq_true rfl) (Nat.le_of_ble_eq_true rfl)) hK vP_nil rfl hl.1 rfl (Nat.le_of_ble_eq_true rfl) dX3_answer_6 ⟨(Nat.le_of_ble_eq_true rfl), (Nat.le_of_ble_eq_true rfl)⟩ (fun h => ?_)
  refine lv_aload_n hx hb dX3_answer_9 rfl (lv_at hl 0 rfl) ?_
  refine va_get (D := D) (ci := 3) (v := .ref (G 2 1)) (C := RX3) (T := TX3) (N := 3) hx hb hts inT3 hown hK.k hP 0 rfl rfl 1 (by decide) (hts _ q_133) (fun _ h9 => h9) rfl dX3_answer_10 ?_
  refine lv_aload_n hx hb dX3_answer_13 rfl (lv_at hl 0 rfl) ?_
  refine va_get (D := D) (ci := 3) (v := .ref (G 0 0)) (C := RX3) (T := TX3) (N := 3) hx hb hts inT3 hown hK.k hP 0 rfl rfl 0 (by decide) (hts _ q_132) (fun _ h9 => h9) rfl dX3_answer_14 ?_
  refine rwVv (wr := neRK cI G u) (As := [.ref (G 0 0)]) (rest := []) neK_f F (c_X1_keep l D cI cS cJ G (N_saved u, N_now u) H.size h) (cw_X3_38 hts (Nat.le_of_ble_eq_true rfl) (Nat.le_of_ble_eq_true rfl)) hK hP hD hS hA (recv (ci := 1) (k0 := 12) hK hP rfl rfl) rfl hl.1 rfl (Nat.le_of_ble_eq_true rfl) dX3_answer_17 ⟨(Nat.le_of_ble_eq_true rfl), (Nat.le_of_ble_eq_true rfl)⟩ (fun u4 H locs h hP hD hS => ?_)
  have hP : va_P D vwCl (neW cI cS G (sN_saved (sN_now u u4.2) u4.1)) H := vP_perm (neK_b u4) hP
  have hD : va_D A (neW cI cS G (sN_saved (sN_now u u4.2) u4.1)) := vD_perm (neK_b u4) hD
  refine lv_aload_n hx hb dX3_answer_20 rfl (lv_at hl 0 rfl) ?_
  refine va_get (D := D) (ci := 3) (v := .ref (G 0 0)) (C := RX3) (T := TX3) (N := 3) hx hb hts inT3 hown hK.k hP 0 rfl rfl 0 (by decide) (hts _ q_132) (fun _ h9 => h9) rfl dX3_answer_21 ?_
  refine lv_iload_n hx hb dX3_answer_24 rfl (lv_at hl 1 rfl) ?_
  refine lv_iload_n hx hb dX3_answer_25 rfl (lv_at hl 2 rfl) ?_
  refine rwVi (wr := neRS cI cS G (sN_saved (sN_now u u4.2) u4.1)) (As := [.int p1, .int p2]) (rest := []) neS_f F (c_X2_addAnswer l D cI cS cJ (G 0) (N_now (sN_saved (sN_now u u4.2) u4.1)) H.size p1 p2 h) (cw_X3_128 hts (Nat.le_of_ble_eq_true rfl) (Nat.le_of_ble_eq_true rfl)) hK hP hD hS hA (recv (ci := 2) (k0 := 1) hK hP rfl rfl) rfl hl.1 rfl (Nat.le_of_ble_eq_true rfl) dX3_answer_26 ⟨(Nat.le_of_ble_eq_true rfl), (Nat.le_of_ble_eq_true rfl)⟩ (fun r5 u6 H locs h hP hD hS => ?_)
  have hP : va_P D vwCl (neW cI cS G (sN_now (sN_saved (sN_now u u4.2) u4.1) u6)) H := vP_perm (neS_b u6) hP
  have hD : va_D A (neW cI cS G (sN_now (sN_saved (sN_now u u4.2) u4.1) u6)) := vD_perm (neS_b u6) hD
  exact hQ h hP hD hS dX3_answer_29

def wp_X3_pass (u : Ne) (p1 : Int32) (post : Int32 → Ne → Prop) : Prop :=
  wp_X3_isBetween p1 (1 : Int32) (9 : Int32) (fun r1 => (¬ r1 = 0 → wp_X1_keep (N_saved u, N_now u) (fun u5 => wp_X2_letTicksPass (N_now (sN_saved (sN_now u u5.2) u5.1)) p1 (fun r6 u7 => post r6 (sN_now (sN_saved (sN_now u u5.2) u5.1) u7)))) ∧ (r1 = 0 → False))
set_option maxHeartbeats 4000000 in
set_option maxRecDepth 100000 in
theorem c_X3_pass (l : Launch) (D : va_G) (cI cS cJ : ClassId) (G : Nat → Nat → Nat) (u : Ne) (sz : Nat) (p1 : Int32) {post : Int32 → Ne → Prop} (h : wp_X3_pass u p1 post) : Met l yX3_pass (wsA yX3_pass cX3_pass 2 (some .int)) rm_X3_pass (va_Pc [.ref (G 2 0), .int p1] (rwP D (tysA cI cS cJ) (neW cI cS G u) sz)) (va_Qi post (fun u9 t => va_P D vwCl ((neW cI cS G) u9) t.heap ∧ va_D (va_A (neW cI cS G u) sz) ((neW cI cS G) u9)) (va_A (neW cI cS G u) sz)) 0 0 (va_A (neW cI cS G u) sz) := by
  refine mkRWi (wf := (neW cI cS G)) (by decide +kernel) (Nat.le_of_ble_eq_true rfl) (fun {p e s m args below meth c Q ls A H0 H locs} hx hb F hts hown hK hP hD hS hA hl hQ => ?_)
  have hown : s.vm.findClass RX3 = some m.cls := hown
  have F : CallFix p m c cX3_pass 2 s args wsT RX3 := F
  have hl : lv_has ls 2 [(0, .ref (G 2 0)), (1, .int p1)] := hl
  unfold wp_X3_pass at h
  refine lv_iload_n hx hb dX3_pass_0 rfl (lv_at hl 1 rfl) ?_
  refine lv_iconst (v := (1 : Int32)) hx hb dX3_pass_1 (by decide) ?_
  refine lv_bipush (v := (9 : Int32)) hx hb dX3_pass_2 (by decide) ?_
  refine roSi (As := [.int p1, .int (1 : Int32), .int (9 : Int32)]) (rest := []) F (c_X3_isBetween l D cI cS cJ H p1 (1 : Int32) (9 : Int32) h) (cw_X3_96 hts (Nat.le_of_ble_eq_true rfl) (Nat.le_of_ble_eq_true rfl)) hK vP_nil rfl hl.1 rfl (Nat.le_of_ble_eq_true rfl) dX3_pass_4 ⟨(Nat.le_of_ble_eq_true rfl), (Nat.le_of_ble_eq_true rfl)⟩ (fun r1 h => ?_)
  obtain ⟨b2, h⟩ := h
  refine lv_if_ne (tgt := 20) hx hb dX3_pass_7 (by decide) (fun c3 => ?_) (fun c3 => ?_)
  · replace h := h.1 c3
    refine lv_aload_n hx hb dX3_pass_20 rfl (lv_at hl 0 rfl) ?_
    refine va_get (D := D) (ci := 3) (v := .ref (G 2 1)) (C := RX3) (T := TX3) (N := 3) hx hb hts inT3 hown hK.k hP 0 rfl rfl 1 (by decide) (hts _ q_133) (fun _ h9 => h9) rfl dX3_pass_21 ?_
    refine lv_aload_n hx hb dX3_pass_24 rfl (lv_at hl 0 rfl) ?_
    refine va_get (D := D) (ci := 3) (v := .ref (G 0 0)) (C := RX3) (T := TX3) (N := 3) hx hb hts inT3 hown hK.k hP 0 rfl rfl 0 (by decide) (hts _ q_132) (fun _ h9 => h9) rfl dX3_pass_25 ?_
    refine rwVv (wr := neRK cI G u) (As := [.ref (G 0 0)]) (rest := []) neK_f F (c_X1_keep l D cI cS cJ G (N_saved u, N_now u) H.size h) (cw_X3_38 hts (Nat.le_of_ble_eq_true rfl) (Nat.le_of_ble_eq_true rfl)) hK hP hD hS hA (recv (ci := 1) (k0 := 12) hK hP rfl rfl) rfl hl.1 rfl (Nat.le_of_ble_eq_true rfl) dX3_pass_28 ⟨(Nat.le_of_ble_eq_true rfl), (Nat.le_of_ble_eq_true rfl)⟩ (fun u5 H locs h hP hD hS => ?_)
    have hP : va_P D vwCl (neW cI cS G (sN_saved (sN_now u u5.2) u5.1)) H := vP_perm (neK_b u5) hP
    have hD : va_D A (neW cI cS G (sN_saved (sN_now u u5.2) u5.1)) := vD_perm (neK_b u5) hD
    refine lv_aload_n hx hb dX3_pass_31 rfl (lv_at hl 0 rfl) ?_
    refine va_get (D := D) (ci := 3) (v := .ref (G 0 0)) (C := RX3) (T := TX3) (N := 3) hx hb hts inT3 hown hK.k hP 0 rfl rfl 0 (by decide) (hts _ q_132) (fun _ h9 => h9) rfl dX3_pass_32 ?_
    refine lv_iload_n hx hb dX3_pass_35 rfl (lv_at hl 1 rfl) ?_
    refine rwVi (wr := neRS cI cS G (sN_saved (sN_now u u5.2) u5.1)) (As := [.int p1]) (rest := []) neS_f F (c_X2_letTicksPass l D cI cS cJ (G 0) (N_now (sN_saved (sN_now u u5.2) u5.1)) H.size p1 h) (cw_X3_136 hts (Nat.le_of_ble_eq_true rfl) (Nat.le_of_ble_eq_true rfl)) hK hP hD hS hA (recv (ci := 2) (k0 := 1) hK hP rfl rfl) rfl hl.1 rfl (Nat.le_of_ble_eq_true rfl) dX3_pass_36 ⟨(Nat.le_of_ble_eq_true rfl), (Nat.le_of_ble_eq_true rfl)⟩ (fun r6 u7 H locs h hP hD hS => ?_)
    have hP : va_P D vwCl (neW cI cS G (sN_now (sN_saved (sN_now u u5.2) u5.1) u7)) H := vP_perm (neS_b u7) hP
    have hD : va_D A (neW cI cS G (sN_now (sN_saved (sN_now u u5.2) u5.1) u7)) := vD_perm (neS_b u7) hD
    exact hQ h hP hD hS dX3_pass_39
  · replace h := h.2 c3
    exact h.elim

def wp_X3_envelopes (u : Ne)  (post : Int32 → Prop) : Prop :=
  post (S_envelopeCount (N_now u))
set_option maxHeartbeats 4000000 in
set_option maxRecDepth 100000 in
theorem c_X3_envelopes (l : Launch) (D : va_G) (cI cS cJ : ClassId) (G : Nat → Nat → Nat) (u : Ne) (H0 : Heap)  {post : Int32 → Prop} (h : wp_X3_envelopes u post) : Met l yX3_envelopes (wsA yX3_envelopes cX3_envelopes 1 (some .int)) rm_X3_envelopes (va_Pc [.ref (G 2 0)] (roP D (tysA cI cS cJ) (neW cI cS G u) H0)) (va_Qi (fun r (_ : Unit) => post r) (fun _ t => t.heap = H0) nF) 0 0 nF := by
  refine mkROi (by decide +kernel) (Nat.le_of_ble_eq_true rfl) (fun {p e s m args below meth c Q ls} hx hb F hts hown hK hP hl hQ => ?_)
  have hown : s.vm.findClass RX3 = some m.cls := hown
  have F : CallFix p m c cX3_envelopes 1 s args wsT RX3 := F
  have hl : lv_has ls 1 [(0, .ref (G 2 0))] := hl
  unfold wp_X3_envelopes at h
  refine lv_aload_n hx hb dX3_envelopes_0 rfl (lv_at hl 0 rfl) ?_
  refine va_get (D := D) (ci := 3) (v := .ref (G 0 0)) (C := RX3) (T := TX3) (N := 3) hx hb hts inT3 hown hK.k hP 0 rfl rfl 0 (by decide) (hts _ q_132) (fun _ h9 => h9) rfl dX3_envelopes_1 ?_
  refine va_get (D := D) (ci := 2) (v := .int (S_envelopeCount (N_now u))) (C := RX2) (T := TX2) (N := 12) hx hb hts inT2 hown hK.k hP 1 rfl rfl 6 (by decide) (hts _ q_64) (fun _ h9 => h9) rfl dX3_envelopes_4 ?_
  exact hQ h dX3_envelopes_7

def wp_X3_envelopeFault (u : Ne) (p1 : Int32) (post : Int32 → Prop) : Prop :=
  wp_X3_isBetween p1 (0 : Int32) ((S_envelopeCount (N_now u)) - (1 : Int32)) (fun r1 => (r1 = 0 → post (1 : Int32)) ∧ (¬ r1 = 0 → post (0 : Int32)))
set_option maxHeartbeats 4000000 in
set_option maxRecDepth 100000 in
theorem c_X3_envelopeFault (l : Launch) (D : va_G) (cI cS cJ : ClassId) (G : Nat → Nat → Nat) (u : Ne) (H0 : Heap) (p1 : Int32) {post : Int32 → Prop} (h : wp_X3_envelopeFault u p1 post) : Met l yX3_envelopeFault (wsA yX3_envelopeFault cX3_envelopeFault 2 (some .int)) rm_X3_envelopeFault (va_Pc [.ref (G 2 0), .int p1] (roP D (tysA cI cS cJ) (neW cI cS G u) H0)) (va_Qi (fun r (_ : Unit) => post r) (fun _ t => t.heap = H0) nF) 0 0 nF := by
  refine mkROi (by decide +kernel) (Nat.le_of_ble_eq_true rfl) (fun {p e s m args below meth c Q ls} hx hb F hts hown hK hP hl hQ => ?_)
  have hown : s.vm.findClass RX3 = some m.cls := hown
  have F : CallFix p m c cX3_envelopeFault 2 s args wsT RX3 := F
  have hl : lv_has ls 2 [(0, .ref (G 2 0)), (1, .int p1)] := hl
  unfold wp_X3_envelopeFault at h
  refine lv_iload_n hx hb dX3_envelopeFault_0 rfl (lv_at hl 1 rfl) ?_
  refine lv_iconst (v := (0 : Int32)) hx hb dX3_envelopeFault_1 (by decide) ?_
  refine lv_aload_n hx hb dX3_envelopeFault_2 rfl (lv_at hl 0 rfl) ?_
  refine va_get (D := D) (ci := 3) (v := .ref (G 0 0)) (C := RX3) (T := TX3) (N := 3) hx hb hts inT3 hown hK.k hP 0 rfl rfl 0 (by decide) (hts _ q_132) (fun _ h9 => h9) rfl dX3_envelopeFault_3 ?_
  refine va_get (D := D) (ci := 2) (v := .int (S_envelopeCount (N_now u))) (C := RX2) (T := TX2) (N := 12) hx hb hts inT2 hown hK.k hP 1 rfl rfl 6 (by decide) (hts _ q_64) (fun _ h9 => h9) rfl dX3_envelopeFault_6 ?_
  refine lv_iconst (v := (1 : Int32)) hx hb dX3_envelopeFault_9 (by decide) ?_
  refine lv_isub hx hb dX3_envelopeFault_10 ?_
  refine roSi (As := [.int p1, .int (0 : Int32), .int ((S_envelopeCount (N_now u)) - (1 : Int32))]) (rest := []) F (c_X3_isBetween l D cI cS cJ H0 p1 (0 : Int32) ((S_envelopeCount (N_now u)) - (1 : Int32)) h) (cw_X3_96 hts (Nat.le_of_ble_eq_true rfl) (Nat.le_of_ble_eq_true rfl)) hK vP_nil rfl hl.1 rfl (Nat.le_of_ble_eq_true rfl) dX3_envelopeFault_11 ⟨(Nat.le_of_ble_eq_true rfl), (Nat.le_of_ble_eq_true rfl)⟩ (fun r1 h => ?_)
  obtain ⟨b2, h⟩ := h
  refine lv_if_eq (tgt := 21) hx hb dX3_envelopeFault_14 (by decide) (fun c3 => ?_) (fun c3 => ?_)
  · replace h := h.1 c3
    refine lv_iconst (v := (1 : Int32)) hx hb dX3_envelopeFault_21 (by decide) ?_
    exact hQ h dX3_envelopeFault_22
  · replace h := h.2 c3
    refine lv_iconst (v := (0 : Int32)) hx hb dX3_envelopeFault_17 (by decide) ?_
    refine lv_goto (tgt := 22) hx hb dX3_envelopeFault_18 (by decide) ?_
    exact hQ h dX3_envelopeFault_22

def wp_X3_envelope (u : Ne) (p1 : Int32) (p2 : Int32) (post : Int32 → Prop) : Prop :=
  wp_X3_isBetween p2 (0 : Int32) (3 : Int32) (fun r1 => jn (fun (x3 : Int32) => wp_X3_refuse x3 (wp_X2_ofEnvelope (N_now u) p1 p2 (fun r8 => post r8))) (fun (J4 : Int32 → Prop) => (r1 = 0 → J4 (1 : Int32)) ∧ (¬ r1 = 0 → wp_X3_envelopeFault u p1 (fun r10 => J4 r10))))
set_option maxHeartbeats 4000000 in
set_option maxRecDepth 100000 in
theorem c_X3_envelope (l : Launch) (D : va_G) (cI cS cJ : ClassId) (G : Nat → Nat → Nat) (u : Ne) (H0 : Heap) (p1 : Int32) (p2 : Int32) {post : Int32 → Prop} (h : wp_X3_envelope u p1 p2 post) : Met l yX3_envelope (wsA yX3_envelope cX3_envelope 3 (some .int)) rm_X3_envelope (va_Pc [.ref (G 2 0), .int p1, .int p2] (roP D (tysA cI cS cJ) (neW cI cS G u) H0)) (va_Qi (fun r (_ : Unit) => post r) (fun _ t => t.heap = H0) nF) 0 0 nF := by
  refine mkROi (by decide +kernel) (Nat.le_of_ble_eq_true rfl) (fun {p e s m args below meth c Q ls} hx hb F hts hown hK hP hl hQ => ?_)
  have hown : s.vm.findClass RX3 = some m.cls := hown
  have F : CallFix p m c cX3_envelope 3 s args wsT RX3 := F
  have hl : lv_has ls 3 [(0, .ref (G 2 0)), (1, .int p1), (2, .int p2)] := hl
  unfold wp_X3_envelope at h
  refine lv_iload_n hx hb dX3_envelope_0 rfl (lv_at hl 2 rfl) ?_
  refine lv_iconst (v := (0 : Int32)) hx hb dX3_envelope_1 (by decide) ?_
  refine lv_iconst (v := (3 : Int32)) hx hb dX3_envelope_2 (by decide) ?_
  refine roSi (As := [.int p2, .int (0 : Int32), .int (3 : Int32)]) (rest := []) F (c_X3_isBetween l D cI cS cJ H0 p2 (0 : Int32) (3 : Int32) h) (cw_X3_96 hts (Nat.le_of_ble_eq_true rfl) (Nat.le_of_ble_eq_true rfl)) hK vP_nil rfl hl.1 rfl (Nat.le_of_ble_eq_true rfl) dX3_envelope_3 ⟨(Nat.le_of_ble_eq_true rfl), (Nat.le_of_ble_eq_true rfl)⟩ (fun r1 h => ?_)
  obtain ⟨b2, h⟩ := h
  refine jn_e h (fun J4 e6 h => ?_)
  have w5 : ∀ (x3 : Int32) (ls : Array Slot), lv_has ls 3 [(0, .ref (G 2 0)), (1, .int p1), (2, .int p2)] → J4 x3 → W p l e rm_X3_envelope s m args below meth c H0 [] 0 0 Q (F0 m 18 ls [.int x3]) := by
    intro x3 ls hl h
    subst e6
    refine roSv (As := [.int x3]) (rest := []) F (c_X3_refuse l D cI cS cJ H0 x3 h) (cw_X3_34 hts (Nat.le_of_ble_eq_true rfl) (Nat.le_of_ble_eq_true rfl)) hK vP_nil rfl hl.1 rfl (Nat.le_of_ble_eq_true rfl) dX3_envelope_18 ⟨(Nat.le_of_ble_eq_true rfl), (Nat.le_of_ble_eq_true rfl)⟩ (fun h => ?_)
    refine lv_aload_n hx hb dX3_envelope_21 rfl (lv_at hl 0 rfl) ?_
    refine va_get (D := D) (ci := 3) (v := .ref (G 0 0)) (C := RX3) (T := TX3) (N := 3) hx hb hts inT3 hown hK.k hP 0 rfl rfl 0 (by decide) (hts _ q_132) (fun _ h9 => h9) rfl dX3_envelope_22 ?_
    refine lv_iload_n hx hb dX3_envelope_25 rfl (lv_at hl 1 rfl) ?_
    refine lv_iload_n hx hb dX3_envelope_26 rfl (lv_at hl 2 rfl) ?_
    refine roVi (As := [.int p1, .int p2]) (rest := []) F (c_X2_ofEnvelope l D cI cS cJ (G 0) (N_now u) H0 p1 p2 h) (cw_X3_145 hts (Nat.le_of_ble_eq_true rfl) (Nat.le_of_ble_eq_true rfl)) hK (neS hP) (recv (ci := 2) (k0 := 1) hK hP rfl rfl) rfl hl.1 rfl (Nat.le_of_ble_eq_true rfl) dX3_envelope_27 ⟨(Nat.le_of_ble_eq_true rfl), (Nat.le_of_ble_eq_true rfl)⟩ (fun r8 h => ?_)
    exact hQ h dX3_envelope_30
  clear e6
  refine lv_if_eq (tgt := 17) hx hb dX3_envelope_6 (by decide) (fun c9 => ?_) (fun c9 => ?_)
  · replace h := h.1 c9
    refine lv_iconst (v := (1 : Int32)) hx hb dX3_envelope_17 (by decide) ?_
    exact w5 (1 : Int32) _ hl h
  · replace h := h.2 c9
    refine lv_aload_n hx hb dX3_envelope_9 rfl (lv_at hl 0 rfl) ?_
    refine lv_iload_n hx hb dX3_envelope_10 rfl (lv_at hl 1 rfl) ?_
    refine roVi (As := [.int p1]) (rest := []) F (c_X3_envelopeFault l D cI cS cJ G u H0 p1 h) (cw_X3_142 hts (Nat.le_of_ble_eq_true rfl) (Nat.le_of_ble_eq_true rfl)) hK hP (recv (ci := 3) (k0 := 0) hK hP rfl rfl) rfl hl.1 rfl (Nat.le_of_ble_eq_true rfl) dX3_envelope_11 ⟨(Nat.le_of_ble_eq_true rfl), (Nat.le_of_ble_eq_true rfl)⟩ (fun r10 h => ?_)
    refine lv_goto (tgt := 18) hx hb dX3_envelope_14 (by decide) ?_
    exact w5 r10 _ hl h

def wp_X3_letter (u : Ne) (p1 : Int32) (post : Int32 → Prop) : Prop :=
  wp_X3_hallFault p1 (fun r1 => wp_X3_refuse r1 (wp_X3_read 4 (S_letters (N_now u)) p1 (fun r3 => post r3)))
set_option maxHeartbeats 4000000 in
set_option maxRecDepth 100000 in
theorem c_X3_letter (l : Launch) (D : va_G) (cI cS cJ : ClassId) (G : Nat → Nat → Nat) (u : Ne) (H0 : Heap) (p1 : Int32) {post : Int32 → Prop} (h : wp_X3_letter u p1 post) : Met l yX3_letter (wsA yX3_letter cX3_letter 2 (some .int)) rm_X3_letter (va_Pc [.ref (G 2 0), .int p1] (roP D (tysA cI cS cJ) (neW cI cS G u) H0)) (va_Qi (fun r (_ : Unit) => post r) (fun _ t => t.heap = H0) nF) 0 0 nF := by
  refine mkROi (by decide +kernel) (Nat.le_of_ble_eq_true rfl) (fun {p e s m args below meth c Q ls} hx hb F hts hown hK hP hl hQ => ?_)
  have hown : s.vm.findClass RX3 = some m.cls := hown
  have F : CallFix p m c cX3_letter 2 s args wsT RX3 := F
  have hl : lv_has ls 2 [(0, .ref (G 2 0)), (1, .int p1)] := hl
  unfold wp_X3_letter at h
  refine lv_iload_n hx hb dX3_letter_0 rfl (lv_at hl 1 rfl) ?_
  refine roSi (As := [.int p1]) (rest := []) F (c_X3_hallFault l D cI cS cJ H0 p1 h) (cw_X3_148 hts (Nat.le_of_ble_eq_true rfl) (Nat.le_of_ble_eq_true rfl)) hK vP_nil rfl hl.1 rfl (Nat.le_of_ble_eq_true rfl) dX3_letter_1 ⟨(Nat.le_of_ble_eq_true rfl), (Nat.le_of_ble_eq_true rfl)⟩ (fun r1 h => ?_)
  refine roSv (As := [.int r1]) (rest := []) F (c_X3_refuse l D cI cS cJ H0 r1 h) (cw_X3_34 hts (Nat.le_of_ble_eq_true rfl) (Nat.le_of_ble_eq_true rfl)) hK vP_nil rfl hl.1 rfl (Nat.le_of_ble_eq_true rfl) dX3_letter_4 ⟨(Nat.le_of_ble_eq_true rfl), (Nat.le_of_ble_eq_true rfl)⟩ (fun h => ?_)
  refine lv_aload_n hx hb dX3_letter_7 rfl (lv_at hl 0 rfl) ?_
  refine va_get (D := D) (ci := 3) (v := .ref (G 0 0)) (C := RX3) (T := TX3) (N := 3) hx hb hts inT3 hown hK.k hP 0 rfl rfl 0 (by decide) (hts _ q_132) (fun _ h9 => h9) rfl dX3_letter_8 ?_
  refine va_get (D := D) (ci := 2) (v := .ref ((G 0) 6)) (C := RX2) (T := TX2) (N := 12) hx hb hts inT2 hown hK.k hP 1 rfl rfl 8 (by decide) (hts _ q_67) (fun _ h9 => h9) rfl dX3_letter_11 ?_
  refine lv_iload_n hx hb dX3_letter_14 rfl (lv_at hl 1 rfl) ?_
  refine roSi (As := [.ref ((G 0) 6), .int p1]) (rest := []) F (c_X3_read l D cI cS cJ ((G 0) 6) 4 (S_letters (N_now u)) H0 p1 h) (cw_X3_58 hts (Nat.le_of_ble_eq_true rfl) (Nat.le_of_ble_eq_true rfl)) hK (vP_one hP 7 rfl) rfl hl.1 rfl (Nat.le_of_ble_eq_true rfl) dX3_letter_15 ⟨(Nat.le_of_ble_eq_true rfl), (Nat.le_of_ble_eq_true rfl)⟩ (fun r3 h => ?_)
  exact hQ h dX3_letter_18

def wp_X3_lastAnswer (u : Ne)  (post : Int32 → Prop) : Prop :=
  post (S_answerGot (N_now u))
set_option maxHeartbeats 4000000 in
set_option maxRecDepth 100000 in
theorem c_X3_lastAnswer (l : Launch) (D : va_G) (cI cS cJ : ClassId) (G : Nat → Nat → Nat) (u : Ne) (H0 : Heap)  {post : Int32 → Prop} (h : wp_X3_lastAnswer u post) : Met l yX3_lastAnswer (wsA yX3_lastAnswer cX3_lastAnswer 1 (some .int)) rm_X3_lastAnswer (va_Pc [.ref (G 2 0)] (roP D (tysA cI cS cJ) (neW cI cS G u) H0)) (va_Qi (fun r (_ : Unit) => post r) (fun _ t => t.heap = H0) nF) 0 0 nF := by
  refine mkROi (by decide +kernel) (Nat.le_of_ble_eq_true rfl) (fun {p e s m args below meth c Q ls} hx hb F hts hown hK hP hl hQ => ?_)
  have hown : s.vm.findClass RX3 = some m.cls := hown
  have F : CallFix p m c cX3_lastAnswer 1 s args wsT RX3 := F
  have hl : lv_has ls 1 [(0, .ref (G 2 0))] := hl
  unfold wp_X3_lastAnswer at h
  refine lv_aload_n hx hb dX3_lastAnswer_0 rfl (lv_at hl 0 rfl) ?_
  refine va_get (D := D) (ci := 3) (v := .ref (G 0 0)) (C := RX3) (T := TX3) (N := 3) hx hb hts inT3 hown hK.k hP 0 rfl rfl 0 (by decide) (hts _ q_132) (fun _ h9 => h9) rfl dX3_lastAnswer_1 ?_
  refine va_get (D := D) (ci := 2) (v := .int (S_answerGot (N_now u))) (C := RX2) (T := TX2) (N := 12) hx hb hts inT2 hown hK.k hP 1 rfl rfl 10 (by decide) (hts _ q_71) (fun _ h9 => h9) rfl dX3_lastAnswer_4 ?_
  exact hQ h dX3_lastAnswer_7

def wp_X3_count (u : Ne) (p1 : Int32) (post : Int32 → Prop) : Prop :=
  wp_X3_isBetween p1 (0 : Int32) (4 : Int32) (fun r1 => jn (fun (x3 : Int32) => wp_X3_refuse x3 (wp_X3_read 5 (S_counts (N_now u)) p1 (fun r9 => post r9))) (fun (J5 : Int32 → Prop) => (r1 = 0 → J5 (1 : Int32)) ∧ (¬ r1 = 0 → J5 (0 : Int32))))
set_option maxHeartbeats 4000000 in
set_option maxRecDepth 100000 in
theorem c_X3_count (l : Launch) (D : va_G) (cI cS cJ : ClassId) (G : Nat → Nat → Nat) (u : Ne) (H0 : Heap) (p1 : Int32) {post : Int32 → Prop} (h : wp_X3_count u p1 post) : Met l yX3_count (wsA yX3_count cX3_count 2 (some .int)) rm_X3_count (va_Pc [.ref (G 2 0), .int p1] (roP D (tysA cI cS cJ) (neW cI cS G u) H0)) (va_Qi (fun r (_ : Unit) => post r) (fun _ t => t.heap = H0) nF) 0 0 nF := by
  refine mkROi (by decide +kernel) (Nat.le_of_ble_eq_true rfl) (fun {p e s m args below meth c Q ls} hx hb F hts hown hK hP hl hQ => ?_)
  have hown : s.vm.findClass RX3 = some m.cls := hown
  have F : CallFix p m c cX3_count 2 s args wsT RX3 := F
  have hl : lv_has ls 2 [(0, .ref (G 2 0)), (1, .int p1)] := hl
  unfold wp_X3_count at h
  refine lv_iload_n hx hb dX3_count_0 rfl (lv_at hl 1 rfl) ?_
  refine lv_iconst (v := (0 : Int32)) hx hb dX3_count_1 (by decide) ?_
  refine lv_iconst (v := (4 : Int32)) hx hb dX3_count_2 (by decide) ?_
  refine roSi (As := [.int p1, .int (0 : Int32), .int (4 : Int32)]) (rest := []) F (c_X3_isBetween l D cI cS cJ H0 p1 (0 : Int32) (4 : Int32) h) (cw_X3_96 hts (Nat.le_of_ble_eq_true rfl) (Nat.le_of_ble_eq_true rfl)) hK vP_nil rfl hl.1 rfl (Nat.le_of_ble_eq_true rfl) dX3_count_3 ⟨(Nat.le_of_ble_eq_true rfl), (Nat.le_of_ble_eq_true rfl)⟩ (fun r1 h => ?_)
  obtain ⟨b2, h⟩ := h
  refine jn_e h (fun J5 e7 h => ?_)
  have w6 : ∀ (x3 : Int32) (ls : Array Slot), bz x3 → lv_has ls 2 [(0, .ref (G 2 0)), (1, .int p1)] → J5 x3 → W p l e rm_X3_count s m args below meth c H0 [] 0 0 Q (F0 m 14 ls [.int x3]) := by
    intro x3 ls b4 hl h
    subst e7
    refine roSv (As := [.int x3]) (rest := []) F (c_X3_refuse l D cI cS cJ H0 x3 h) (cw_X3_34 hts (Nat.le_of_ble_eq_true rfl) (Nat.le_of_ble_eq_true rfl)) hK vP_nil rfl hl.1 rfl (Nat.le_of_ble_eq_true rfl) dX3_count_14 ⟨(Nat.le_of_ble_eq_true rfl), (Nat.le_of_ble_eq_true rfl)⟩ (fun h => ?_)
    refine lv_aload_n hx hb dX3_count_17 rfl (lv_at hl 0 rfl) ?_
    refine va_get (D := D) (ci := 3) (v := .ref (G 0 0)) (C := RX3) (T := TX3) (N := 3) hx hb hts inT3 hown hK.k hP 0 rfl rfl 0 (by decide) (hts _ q_132) (fun _ h9 => h9) rfl dX3_count_18 ?_
    refine va_get (D := D) (ci := 2) (v := .ref ((G 0) 8)) (C := RX2) (T := TX2) (N := 12) hx hb hts inT2 hown hK.k hP 1 rfl rfl 11 (by decide) (hts _ q_73) (fun _ h9 => h9) rfl dX3_count_21 ?_
    refine lv_iload_n hx hb dX3_count_24 rfl (lv_at hl 1 rfl) ?_
    refine roSi (As := [.ref ((G 0) 8), .int p1]) (rest := []) F (c_X3_read l D cI cS cJ ((G 0) 8) 5 (S_counts (N_now u)) H0 p1 h) (cw_X3_58 hts (Nat.le_of_ble_eq_true rfl) (Nat.le_of_ble_eq_true rfl)) hK (vP_one hP 9 rfl) rfl hl.1 rfl (Nat.le_of_ble_eq_true rfl) dX3_count_25 ⟨(Nat.le_of_ble_eq_true rfl), (Nat.le_of_ble_eq_true rfl)⟩ (fun r9 h => ?_)
    exact hQ h dX3_count_28
  clear e7
  refine lv_if_eq (tgt := 13) hx hb dX3_count_6 (by decide) (fun c10 => ?_) (fun c10 => ?_)
  · replace h := h.1 c10
    refine lv_iconst (v := (1 : Int32)) hx hb dX3_count_13 (by decide) ?_
    exact w6 (1 : Int32) _ bz1 hl h
  · replace h := h.2 c10
    refine lv_iconst (v := (0 : Int32)) hx hb dX3_count_9 (by decide) ?_
    refine lv_goto (tgt := 14) hx hb dX3_count_10 (by decide) ?_
    exact w6 (0 : Int32) _ bz0 hl h

def wp_X3_deliveredShare (u : Ne)  (post : UInt64 → Prop) : Prop :=
  wp_X3_read 5 (S_counts (N_now u)) (0 : Int32) (fun r1 => (¬ r1 = 0 → wp_X3_read 5 (S_counts (N_now u)) (1 : Int32) (fun r3 => vf_n64 (FP.ddiv (FP.i2d r3) (FP.i2d r1)) ∧ (post (FP.ddiv (FP.i2d r3) (FP.i2d r1))))) ∧ (r1 = 0 → post FP.dconst1))
set_option maxHeartbeats 4000000 in
set_option maxRecDepth 100000 in
theorem c_X3_deliveredShare (l : Launch) (D : va_G) (cI cS cJ : ClassId) (G : Nat → Nat → Nat) (u : Ne) (H0 : Heap)  {post : UInt64 → Prop} (h : wp_X3_deliveredShare u post) : Met l yX3_deliveredShare (wsA yX3_deliveredShare cX3_deliveredShare 2 (some .double)) rm_X3_deliveredShare (va_Pc [.ref (G 2 0)] (roP D (tysA cI cS cJ) (neW cI cS G u) H0)) (va_Qd (fun r (_ : Unit) => post r) (fun _ t => t.heap = H0) nF) 0 0 nF := by
  refine mkROd (by decide +kernel) (Nat.le_of_ble_eq_true rfl) (fun {p e s m args below meth c Q ls} hx hb F hts hown hK hP hl hQ => ?_)
  have hown : s.vm.findClass RX3 = some m.cls := hown
  have F : CallFix p m c cX3_deliveredShare 2 s args wsT RX3 := F
  have hl : lv_has ls 2 [(0, .ref (G 2 0))] := hl
  unfold wp_X3_deliveredShare at h
  refine lv_aload_n hx hb dX3_deliveredShare_0 rfl (lv_at hl 0 rfl) ?_
  refine va_get (D := D) (ci := 3) (v := .ref (G 0 0)) (C := RX3) (T := TX3) (N := 3) hx hb hts inT3 hown hK.k hP 0 rfl rfl 0 (by decide) (hts _ q_132) (fun _ h9 => h9) rfl dX3_deliveredShare_1 ?_
  refine va_get (D := D) (ci := 2) (v := .ref ((G 0) 8)) (C := RX2) (T := TX2) (N := 12) hx hb hts inT2 hown hK.k hP 1 rfl rfl 11 (by decide) (hts _ q_73) (fun _ h9 => h9) rfl dX3_deliveredShare_4 ?_
  refine lv_iconst (v := (0 : Int32)) hx hb dX3_deliveredShare_7 (by decide) ?_
  refine roSi (As := [.ref ((G 0) 8), .int (0 : Int32)]) (rest := []) F (c_X3_read l D cI cS cJ ((G 0) 8) 5 (S_counts (N_now u)) H0 (0 : Int32) h) (cw_X3_58 hts (Nat.le_of_ble_eq_true rfl) (Nat.le_of_ble_eq_true rfl)) hK (vP_one hP 9 rfl) rfl hl.1 rfl (Nat.le_of_ble_eq_true rfl) dX3_deliveredShare_8 ⟨(Nat.le_of_ble_eq_true rfl), (Nat.le_of_ble_eq_true rfl)⟩ (fun r1 h => ?_)
  refine lv_istore_n (lv' := [(1, .int r1), (0, .ref (G 2 0))]) hx hb dX3_deliveredShare_11 rfl hl (by decide) rfl (fun ls hl => ?_)
  refine lv_iload_n hx hb dX3_deliveredShare_12 rfl (lv_at hl 0 rfl) ?_
  refine lv_if_ne (tgt := 18) hx hb dX3_deliveredShare_13 (by decide) (fun c2 => ?_) (fun c2 => ?_)
  · replace h := h.1 c2
    refine lv_aload_n hx hb dX3_deliveredShare_18 rfl (lv_at hl 1 rfl) ?_
    refine va_get (D := D) (ci := 3) (v := .ref (G 0 0)) (C := RX3) (T := TX3) (N := 3) hx hb hts inT3 hown hK.k hP 0 rfl rfl 0 (by decide) (hts _ q_132) (fun _ h9 => h9) rfl dX3_deliveredShare_19 ?_
    refine va_get (D := D) (ci := 2) (v := .ref ((G 0) 8)) (C := RX2) (T := TX2) (N := 12) hx hb hts inT2 hown hK.k hP 1 rfl rfl 11 (by decide) (hts _ q_73) (fun _ h9 => h9) rfl dX3_deliveredShare_22 ?_
    refine lv_iconst (v := (1 : Int32)) hx hb dX3_deliveredShare_25 (by decide) ?_
    refine roSi (As := [.ref ((G 0) 8), .int (1 : Int32)]) (rest := []) F (c_X3_read l D cI cS cJ ((G 0) 8) 5 (S_counts (N_now u)) H0 (1 : Int32) h) (cw_X3_58 hts (Nat.le_of_ble_eq_true rfl) (Nat.le_of_ble_eq_true rfl)) hK (vP_one hP 9 rfl) rfl hl.1 rfl (Nat.le_of_ble_eq_true rfl) dX3_deliveredShare_26 ⟨(Nat.le_of_ble_eq_true rfl), (Nat.le_of_ble_eq_true rfl)⟩ (fun r3 h => ?_)
    refine lv_i2d hx hb dX3_deliveredShare_29 ?_
    refine lv_iload_n hx hb dX3_deliveredShare_30 rfl (lv_at hl 0 rfl) ?_
    refine lv_i2d hx hb dX3_deliveredShare_31 ?_
    refine lv_ddiv hx hb dX3_deliveredShare_32 h.1 ?_
    replace h := h.2
    exact hQ h dX3_deliveredShare_33
  · replace h := h.2 c2
    refine lv_dconst1 hx hb dX3_deliveredShare_16 ?_
    exact hQ h dX3_deliveredShare_17

def wp_X3_lostIfClosed (u : Ne) (p1 : Int32) (post : Int32 → Prop) : Prop :=
  wp_X3_innFault p1 (fun r1 => wp_X3_refuse r1 (wp_X2_lostWithout (N_now u) p1 (fun r3 => post r3)))
set_option maxHeartbeats 4000000 in
set_option maxRecDepth 100000 in
theorem c_X3_lostIfClosed (l : Launch) (D : va_G) (cI cS cJ : ClassId) (G : Nat → Nat → Nat) (u : Ne) (H0 : Heap) (p1 : Int32) {post : Int32 → Prop} (h : wp_X3_lostIfClosed u p1 post) : Met l yX3_lostIfClosed (wsA yX3_lostIfClosed cX3_lostIfClosed 2 (some .int)) rm_X3_lostIfClosed (va_Pc [.ref (G 2 0), .int p1] (roP D (tysA cI cS cJ) (neW cI cS G u) H0)) (va_Qi (fun r (_ : Unit) => post r) (fun _ t => t.heap = H0) nF) 0 0 nF := by
  refine mkROi (by decide +kernel) (Nat.le_of_ble_eq_true rfl) (fun {p e s m args below meth c Q ls} hx hb F hts hown hK hP hl hQ => ?_)
  have hown : s.vm.findClass RX3 = some m.cls := hown
  have F : CallFix p m c cX3_lostIfClosed 2 s args wsT RX3 := F
  have hl : lv_has ls 2 [(0, .ref (G 2 0)), (1, .int p1)] := hl
  unfold wp_X3_lostIfClosed at h
  refine lv_iload_n hx hb dX3_lostIfClosed_0 rfl (lv_at hl 1 rfl) ?_
  refine roSi (As := [.int p1]) (rest := []) F (c_X3_innFault l D cI cS cJ H0 p1 h) (cw_X3_30 hts (Nat.le_of_ble_eq_true rfl) (Nat.le_of_ble_eq_true rfl)) hK vP_nil rfl hl.1 rfl (Nat.le_of_ble_eq_true rfl) dX3_lostIfClosed_1 ⟨(Nat.le_of_ble_eq_true rfl), (Nat.le_of_ble_eq_true rfl)⟩ (fun r1 h => ?_)
  refine roSv (As := [.int r1]) (rest := []) F (c_X3_refuse l D cI cS cJ H0 r1 h) (cw_X3_34 hts (Nat.le_of_ble_eq_true rfl) (Nat.le_of_ble_eq_true rfl)) hK vP_nil rfl hl.1 rfl (Nat.le_of_ble_eq_true rfl) dX3_lostIfClosed_4 ⟨(Nat.le_of_ble_eq_true rfl), (Nat.le_of_ble_eq_true rfl)⟩ (fun h => ?_)
  refine lv_aload_n hx hb dX3_lostIfClosed_7 rfl (lv_at hl 0 rfl) ?_
  refine va_get (D := D) (ci := 3) (v := .ref (G 0 0)) (C := RX3) (T := TX3) (N := 3) hx hb hts inT3 hown hK.k hP 0 rfl rfl 0 (by decide) (hts _ q_132) (fun _ h9 => h9) rfl dX3_lostIfClosed_8 ?_
  refine lv_iload_n hx hb dX3_lostIfClosed_11 rfl (lv_at hl 1 rfl) ?_
  refine roVi (As := [.int p1]) (rest := []) F (c_X2_lostWithout l D cI cS cJ (G 0) (N_now u) H0 p1 h) (cw_X3_160 hts (Nat.le_of_ble_eq_true rfl) (Nat.le_of_ble_eq_true rfl)) hK (neS hP) (recv (ci := 2) (k0 := 1) hK hP rfl rfl) rfl hl.1 rfl (Nat.le_of_ble_eq_true rfl) dX3_lostIfClosed_12 ⟨(Nat.le_of_ble_eq_true rfl), (Nat.le_of_ble_eq_true rfl)⟩ (fun r3 h => ?_)
  exact hQ h dX3_lostIfClosed_15

def wp_X3_ticksTo (u : Ne) (p1 : Int32) (post : Int32 → Prop) : Prop :=
  wp_X3_envelopeFault u p1 (fun r1 => wp_X3_refuse r1 (wp_X2_ticksLeft (N_now u) p1 (S_openMask (N_now u)) (fun r3 => post r3)))
set_option maxHeartbeats 4000000 in
set_option maxRecDepth 100000 in
theorem c_X3_ticksTo (l : Launch) (D : va_G) (cI cS cJ : ClassId) (G : Nat → Nat → Nat) (u : Ne) (H0 : Heap) (p1 : Int32) {post : Int32 → Prop} (h : wp_X3_ticksTo u p1 post) : Met l yX3_ticksTo (wsA yX3_ticksTo cX3_ticksTo 2 (some .int)) rm_X3_ticksTo (va_Pc [.ref (G 2 0), .int p1] (roP D (tysA cI cS cJ) (neW cI cS G u) H0)) (va_Qi (fun r (_ : Unit) => post r) (fun _ t => t.heap = H0) nF) 0 0 nF := by
  refine mkROi (by decide +kernel) (Nat.le_of_ble_eq_true rfl) (fun {p e s m args below meth c Q ls} hx hb F hts hown hK hP hl hQ => ?_)
  have hown : s.vm.findClass RX3 = some m.cls := hown
  have F : CallFix p m c cX3_ticksTo 2 s args wsT RX3 := F
  have hl : lv_has ls 2 [(0, .ref (G 2 0)), (1, .int p1)] := hl
  unfold wp_X3_ticksTo at h
  refine lv_aload_n hx hb dX3_ticksTo_0 rfl (lv_at hl 0 rfl) ?_
  refine lv_iload_n hx hb dX3_ticksTo_1 rfl (lv_at hl 1 rfl) ?_
  refine roVi (As := [.int p1]) (rest := []) F (c_X3_envelopeFault l D cI cS cJ G u H0 p1 h) (cw_X3_142 hts (Nat.le_of_ble_eq_true rfl) (Nat.le_of_ble_eq_true rfl)) hK hP (recv (ci := 3) (k0 := 0) hK hP rfl rfl) rfl hl.1 rfl (Nat.le_of_ble_eq_true rfl) dX3_ticksTo_2 ⟨(Nat.le_of_ble_eq_true rfl), (Nat.le_of_ble_eq_true rfl)⟩ (fun r1 h => ?_)
  refine roSv (As := [.int r1]) (rest := []) F (c_X3_refuse l D cI cS cJ H0 r1 h) (cw_X3_34 hts (Nat.le_of_ble_eq_true rfl) (Nat.le_of_ble_eq_true rfl)) hK vP_nil rfl hl.1 rfl (Nat.le_of_ble_eq_true rfl) dX3_ticksTo_5 ⟨(Nat.le_of_ble_eq_true rfl), (Nat.le_of_ble_eq_true rfl)⟩ (fun h => ?_)
  refine lv_aload_n hx hb dX3_ticksTo_8 rfl (lv_at hl 0 rfl) ?_
  refine va_get (D := D) (ci := 3) (v := .ref (G 0 0)) (C := RX3) (T := TX3) (N := 3) hx hb hts inT3 hown hK.k hP 0 rfl rfl 0 (by decide) (hts _ q_132) (fun _ h9 => h9) rfl dX3_ticksTo_9 ?_
  refine lv_iload_n hx hb dX3_ticksTo_12 rfl (lv_at hl 1 rfl) ?_
  refine lv_aload_n hx hb dX3_ticksTo_13 rfl (lv_at hl 0 rfl) ?_
  refine va_get (D := D) (ci := 3) (v := .ref (G 0 0)) (C := RX3) (T := TX3) (N := 3) hx hb hts inT3 hown hK.k hP 0 rfl rfl 0 (by decide) (hts _ q_132) (fun _ h9 => h9) rfl dX3_ticksTo_14 ?_
  refine va_get (D := D) (ci := 2) (v := .int (S_openMask (N_now u))) (C := RX2) (T := TX2) (N := 12) hx hb hts inT2 hown hK.k hP 1 rfl rfl 0 (by decide) (hts _ q_54) (fun _ h9 => h9) rfl dX3_ticksTo_17 ?_
  refine roVi (As := [.int p1, .int (S_openMask (N_now u))]) (rest := []) F (c_X2_ticksLeft l D cI cS cJ (G 0) (N_now u) H0 p1 (S_openMask (N_now u)) h) (cw_X3_166 hts (Nat.le_of_ble_eq_true rfl) (Nat.le_of_ble_eq_true rfl)) hK (neS hP) (recv (ci := 2) (k0 := 1) hK hP rfl rfl) rfl hl.1 rfl (Nat.le_of_ble_eq_true rfl) dX3_ticksTo_20 ⟨(Nat.le_of_ble_eq_true rfl), (Nat.le_of_ble_eq_true rfl)⟩ (fun r3 h => ?_)
  exact hQ h dX3_ticksTo_23

def wp_X3_leastWork (u : Ne) (p1 : Int32) (post : Int32 → Prop) : Prop :=
  wp_X3_isBetween p1 (1 : Int32) (3 : Int32) (fun r1 => jn (fun (x3 : Int32) => wp_X3_refuse x3 (wp_X2_leastUsedInn (N_now u) p1 (fun r9 => post r9))) (fun (J5 : Int32 → Prop) => (r1 = 0 → J5 (1 : Int32)) ∧ (¬ r1 = 0 → J5 (0 : Int32))))
set_option maxHeartbeats 4000000 in
set_option maxRecDepth 100000 in
theorem c_X3_leastWork (l : Launch) (D : va_G) (cI cS cJ : ClassId) (G : Nat → Nat → Nat) (u : Ne) (H0 : Heap) (p1 : Int32) {post : Int32 → Prop} (h : wp_X3_leastWork u p1 post) : Met l yX3_leastWork (wsA yX3_leastWork cX3_leastWork 2 (some .int)) rm_X3_leastWork (va_Pc [.ref (G 2 0), .int p1] (roP D (tysA cI cS cJ) (neW cI cS G u) H0)) (va_Qi (fun r (_ : Unit) => post r) (fun _ t => t.heap = H0) nF) 0 0 nF := by
  refine mkROi (by decide +kernel) (Nat.le_of_ble_eq_true rfl) (fun {p e s m args below meth c Q ls} hx hb F hts hown hK hP hl hQ => ?_)
  have hown : s.vm.findClass RX3 = some m.cls := hown
  have F : CallFix p m c cX3_leastWork 2 s args wsT RX3 := F
  have hl : lv_has ls 2 [(0, .ref (G 2 0)), (1, .int p1)] := hl
  unfold wp_X3_leastWork at h
  refine lv_iload_n hx hb dX3_leastWork_0 rfl (lv_at hl 1 rfl) ?_
  refine lv_iconst (v := (1 : Int32)) hx hb dX3_leastWork_1 (by decide) ?_
  refine lv_iconst (v := (3 : Int32)) hx hb dX3_leastWork_2 (by decide) ?_
  refine roSi (As := [.int p1, .int (1 : Int32), .int (3 : Int32)]) (rest := []) F (c_X3_isBetween l D cI cS cJ H0 p1 (1 : Int32) (3 : Int32) h) (cw_X3_96 hts (Nat.le_of_ble_eq_true rfl) (Nat.le_of_ble_eq_true rfl)) hK vP_nil rfl hl.1 rfl (Nat.le_of_ble_eq_true rfl) dX3_leastWork_3 ⟨(Nat.le_of_ble_eq_true rfl), (Nat.le_of_ble_eq_true rfl)⟩ (fun r1 h => ?_)
  obtain ⟨b2, h⟩ := h
  refine jn_e h (fun J5 e7 h => ?_)
  have w6 : ∀ (x3 : Int32) (ls : Array Slot), bz x3 → lv_has ls 2 [(0, .ref (G 2 0)), (1, .int p1)] → J5 x3 → W p l e rm_X3_leastWork s m args below meth c H0 [] 0 0 Q (F0 m 14 ls [.int x3]) := by
    intro x3 ls b4 hl h
    subst e7
    refine roSv (As := [.int x3]) (rest := []) F (c_X3_refuse l D cI cS cJ H0 x3 h) (cw_X3_34 hts (Nat.le_of_ble_eq_true rfl) (Nat.le_of_ble_eq_true rfl)) hK vP_nil rfl hl.1 rfl (Nat.le_of_ble_eq_true rfl) dX3_leastWork_14 ⟨(Nat.le_of_ble_eq_true rfl), (Nat.le_of_ble_eq_true rfl)⟩ (fun h => ?_)
    refine lv_aload_n hx hb dX3_leastWork_17 rfl (lv_at hl 0 rfl) ?_
    refine va_get (D := D) (ci := 3) (v := .ref (G 0 0)) (C := RX3) (T := TX3) (N := 3) hx hb hts inT3 hown hK.k hP 0 rfl rfl 0 (by decide) (hts _ q_132) (fun _ h9 => h9) rfl dX3_leastWork_18 ?_
    refine lv_iload_n hx hb dX3_leastWork_21 rfl (lv_at hl 1 rfl) ?_
    refine roVi (As := [.int p1]) (rest := []) F (c_X2_leastUsedInn l D cI cS cJ (G 0) (N_now u) H0 p1 h) (cw_X3_169 hts (Nat.le_of_ble_eq_true rfl) (Nat.le_of_ble_eq_true rfl)) hK (neS hP) (recv (ci := 2) (k0 := 1) hK hP rfl rfl) rfl hl.1 rfl (Nat.le_of_ble_eq_true rfl) dX3_leastWork_22 ⟨(Nat.le_of_ble_eq_true rfl), (Nat.le_of_ble_eq_true rfl)⟩ (fun r9 h => ?_)
    exact hQ h dX3_leastWork_25
  clear e7
  refine lv_if_eq (tgt := 13) hx hb dX3_leastWork_6 (by decide) (fun c10 => ?_) (fun c10 => ?_)
  · replace h := h.1 c10
    refine lv_iconst (v := (1 : Int32)) hx hb dX3_leastWork_13 (by decide) ?_
    exact w6 (1 : Int32) _ bz1 hl h
  · replace h := h.2 c10
    refine lv_iconst (v := (0 : Int32)) hx hb dX3_leastWork_9 (by decide) ?_
    refine lv_goto (tgt := 14) hx hb dX3_leastWork_10 (by decide) ?_
    exact w6 (0 : Int32) _ bz0 hl h

def wp_X3_undo (u : Ne)  (post : Int32 → Ne → Prop) : Prop :=
  (¬ (V_size (N_saved u)) = 0 → wp_X1_giveBack (N_saved u, N_now u) (fun u3 => post (V_size (N_saved (sN_saved (sN_now u u3.2) u3.1))) (sN_saved (sN_now u u3.2) u3.1))) ∧ ((V_size (N_saved u)) = 0 → False)
set_option maxHeartbeats 4000000 in
set_option maxRecDepth 100000 in
theorem c_X3_undo (l : Launch) (D : va_G) (cI cS cJ : ClassId) (G : Nat → Nat → Nat) (u : Ne) (sz : Nat)  {post : Int32 → Ne → Prop} (h : wp_X3_undo u post) : Met l yX3_undo (wsA yX3_undo cX3_undo 1 (some .int)) rm_X3_undo (va_Pc [.ref (G 2 0)] (rwP D (tysA cI cS cJ) (neW cI cS G u) sz)) (va_Qi post (fun u9 t => va_P D vwCl ((neW cI cS G) u9) t.heap ∧ va_D (va_A (neW cI cS G u) sz) ((neW cI cS G) u9)) (va_A (neW cI cS G u) sz)) 0 0 (va_A (neW cI cS G u) sz) := by
  refine mkRWi (wf := (neW cI cS G)) (by decide +kernel) (Nat.le_of_ble_eq_true rfl) (fun {p e s m args below meth c Q ls A H0 H locs} hx hb F hts hown hK hP hD hS hA hl hQ => ?_)
  have hown : s.vm.findClass RX3 = some m.cls := hown
  have F : CallFix p m c cX3_undo 1 s args wsT RX3 := F
  have hl : lv_has ls 1 [(0, .ref (G 2 0))] := hl
  unfold wp_X3_undo at h
  refine lv_aload_n hx hb dX3_undo_0 rfl (lv_at hl 0 rfl) ?_
  refine va_get (D := D) (ci := 3) (v := .ref (G 2 1)) (C := RX3) (T := TX3) (N := 3) hx hb hts inT3 hown hK.k hP 0 rfl rfl 1 (by decide) (hts _ q_133) (fun _ h9 => h9) rfl dX3_undo_1 ?_
  refine va_get (D := D) (ci := 1) (v := .int (V_size (N_saved u))) (C := RX1) (T := TX1) (N := 3) hx hb hts inT1 hown hK.k hP 12 rfl rfl 2 (by decide) (hts _ q_112) (fun _ h9 => h9) rfl dX3_undo_4 ?_
  refine lv_if_ne (tgt := 20) hx hb dX3_undo_7 (by decide) (fun c1 => ?_) (fun c1 => ?_)
  · replace h := h.1 c1
    refine lv_aload_n hx hb dX3_undo_20 rfl (lv_at hl 0 rfl) ?_
    refine va_get (D := D) (ci := 3) (v := .ref (G 2 1)) (C := RX3) (T := TX3) (N := 3) hx hb hts inT3 hown hK.k hP 0 rfl rfl 1 (by decide) (hts _ q_133) (fun _ h9 => h9) rfl dX3_undo_21 ?_
    refine lv_aload_n hx hb dX3_undo_24 rfl (lv_at hl 0 rfl) ?_
    refine va_get (D := D) (ci := 3) (v := .ref (G 0 0)) (C := RX3) (T := TX3) (N := 3) hx hb hts inT3 hown hK.k hP 0 rfl rfl 0 (by decide) (hts _ q_132) (fun _ h9 => h9) rfl dX3_undo_25 ?_
    refine rwVv (wr := neRK cI G u) (As := [.ref (G 0 0)]) (rest := []) neK_f F (c_X1_giveBack l D cI cS cJ G (N_saved u, N_now u) H.size h) (cw_X3_207 hts (Nat.le_of_ble_eq_true rfl) (Nat.le_of_ble_eq_true rfl)) hK hP hD hS hA (recv (ci := 1) (k0 := 12) hK hP rfl rfl) rfl hl.1 rfl (Nat.le_of_ble_eq_true rfl) dX3_undo_28 ⟨(Nat.le_of_ble_eq_true rfl), (Nat.le_of_ble_eq_true rfl)⟩ (fun u3 H locs h hP hD hS => ?_)
    have hP : va_P D vwCl (neW cI cS G (sN_saved (sN_now u u3.2) u3.1)) H := vP_perm (neK_b u3) hP
    have hD : va_D A (neW cI cS G (sN_saved (sN_now u u3.2) u3.1)) := vD_perm (neK_b u3) hD
    refine lv_aload_n hx hb dX3_undo_31 rfl (lv_at hl 0 rfl) ?_
    refine va_get (D := D) (ci := 3) (v := .ref (G 2 1)) (C := RX3) (T := TX3) (N := 3) hx hb hts inT3 hown hK.k hP 0 rfl rfl 1 (by decide) (hts _ q_133) (fun _ h9 => h9) rfl dX3_undo_32 ?_
    refine va_get (D := D) (ci := 1) (v := .int (V_size (N_saved (sN_saved (sN_now u u3.2) u3.1)))) (C := RX1) (T := TX1) (N := 3) hx hb hts inT1 hown hK.k hP 12 rfl rfl 2 (by decide) (hts _ q_112) (fun _ h9 => h9) rfl dX3_undo_35 ?_
    exact hQ h hP hD hS dX3_undo_38
  · replace h := h.2 c1
    exact h.elim

def wp_X3_savedStates (u : Ne)  (post : Int32 → Prop) : Prop :=
  post (V_size (N_saved u))
set_option maxHeartbeats 4000000 in
set_option maxRecDepth 100000 in
theorem c_X3_savedStates (l : Launch) (D : va_G) (cI cS cJ : ClassId) (G : Nat → Nat → Nat) (u : Ne) (H0 : Heap)  {post : Int32 → Prop} (h : wp_X3_savedStates u post) : Met l yX3_savedStates (wsA yX3_savedStates cX3_savedStates 1 (some .int)) rm_X3_savedStates (va_Pc [.ref (G 2 0)] (roP D (tysA cI cS cJ) (neW cI cS G u) H0)) (va_Qi (fun r (_ : Unit) => post r) (fun _ t => t.heap = H0) nF) 0 0 nF := by
  refine mkROi (by decide +kernel) (Nat.le_of_ble_eq_true rfl) (fun {p e s m args below meth c Q ls} hx hb F hts hown hK hP hl hQ => ?_)
  have hown : s.vm.findClass RX3 = some m.cls := hown
  have F : CallFix p m c cX3_savedStates 1 s args wsT RX3 := F
  have hl : lv_has ls 1 [(0, .ref (G 2 0))] := hl
  unfold wp_X3_savedStates at h
  refine lv_aload_n hx hb dX3_savedStates_0 rfl (lv_at hl 0 rfl) ?_
  refine va_get (D := D) (ci := 3) (v := .ref (G 2 1)) (C := RX3) (T := TX3) (N := 3) hx hb hts inT3 hown hK.k hP 0 rfl rfl 1 (by decide) (hts _ q_133) (fun _ h9 => h9) rfl dX3_savedStates_1 ?_
  refine va_get (D := D) (ci := 1) (v := .int (V_size (N_saved u))) (C := RX1) (T := TX1) (N := 3) hx hb hts inT1 hown hK.k hP 12 rfl rfl 2 (by decide) (hts _ q_112) (fun _ h9 => h9) rfl dX3_savedStates_4 ?_
  exact hQ h dX3_savedStates_7

def wp_X3_mixedInns (u : Ne) (p1 : Int64) (post : Int64 → Prop) : Prop :=
  LP2 (fun (K3 : Int64 → Int32 → Prop) (x1 : Int64) (x2 : Int32) => ((8 : Int32) ≤ x2 → post x1) ∧ (¬ (8 : Int32) ≤ x2 → wp_X2_hasOpen (N_now u) x2 (fun r6 => jn (fun (x8 : Int32) => wp_X3_mixed x1 x8 (fun r13 => wp_X3_read 8 (S_keys (N_now u)) x2 (fun r14 => wp_X3_mixed r13 r14 (fun r15 => wp_X2_knownMask (N_now u) x2 (fun r16 => wp_X3_mixed r15 r16 (fun r17 => wp_X2_lostWithout (N_now u) x2 (fun r18 => wp_X3_mixed r17 r18 (fun r19 => K3 r19 (x2 + 1))))))))) (fun (J10 : Int32 → Prop) => (r6 = 0 → J10 (0 : Int32)) ∧ (¬ r6 = 0 → J10 (1 : Int32)))))) p1 (0 : Int32)
set_option maxHeartbeats 4000000 in
set_option maxRecDepth 100000 in
theorem c_X3_mixedInns (l : Launch) (D : va_G) (cI cS cJ : ClassId) (G : Nat → Nat → Nat) (u : Ne) (H0 : Heap) (p1 : Int64) {post : Int64 → Prop} (h : wp_X3_mixedInns u p1 post) : Met l yX3_mixedInns (wsA yX3_mixedInns cX3_mixedInns 6 (some .long)) rm_X3_mixedInns (va_Pc [.ref (G 2 0), .long p1] (roP D (tysA cI cS cJ) (neW cI cS G u) H0)) (va_Ql (fun r (_ : Unit) => post r) (fun _ t => t.heap = H0) nF) 0 0 nF := by
  refine mkROl (by decide +kernel) (Nat.le_of_ble_eq_true rfl) (fun {p e s m args below meth c Q ls} hx hb F hts hown hK hP hl hQ => ?_)
  have hown : s.vm.findClass RX3 = some m.cls := hown
  have F : CallFix p m c cX3_mixedInns 6 s args wsT RX3 := F
  have hl : lv_has ls 6 [(0, .ref (G 2 0)), (1, .long p1)] := hl
  unfold wp_X3_mixedInns at h
  refine lv_lload_n hx hb dX3_mixedInns_0 rfl (lv_at hl 1 rfl) ?_
  refine lv_lstore_n (lv' := [(3, .long p1), (0, .ref (G 2 0)), (1, .long p1)]) hx hb dX3_mixedInns_1 rfl hl (by decide) rfl (fun ls hl => ?_)
  refine lv_iconst (v := (0 : Int32)) hx hb dX3_mixedInns_2 (by decide) ?_
  refine lv_istore (lv' := [(5, .int (0 : Int32)), (3, .long p1), (0, .ref (G 2 0)), (1, .long p1)]) hx hb dX3_mixedInns_3 hl (by decide) rfl (fun ls hl => ?_)
  refine lpu2 h (fun K3 : Int64 → Int32 → Prop => ∀ (x1 : Int64) (x2 : Int32) (ls : Array Slot), lv_has ls 6 [(0, .ref (G 2 0)), (3, .long x1), (5, .int x2)] → K3 x1 x2 → W p l e rm_X3_mixedInns s m args below meth c H0 [] 0 0 Q (F0 m 5 ls [])) ?_ ?_ ?_
  · intro x1 x2 ls hl h
    exact h.elim
  · intro K3
    intro w4 x1 x2 ls hl h
    refine lv_iload hx hb dX3_mixedInns_5 (lv_at hl 2 rfl) ?_
    refine lv_bipush (v := (8 : Int32)) hx hb dX3_mixedInns_7 (by decide) ?_
    refine lv_icmp_ge (tgt := 85) hx hb dX3_mixedInns_9 (by decide) (fun c5 => ?_) (fun c5 => ?_)
    · replace h := h.1 c5
      refine lv_lload_n hx hb dX3_mixedInns_85 rfl (lv_at hl 1 rfl) ?_
      exact hQ h dX3_mixedInns_86
    · replace h := h.2 c5
      refine lv_lload_n hx hb dX3_mixedInns_12 rfl (lv_at hl 1 rfl) ?_
      refine lv_aload_n hx hb dX3_mixedInns_13 rfl (lv_at hl 0 rfl) ?_
      refine va_get (D := D) (ci := 3) (v := .ref (G 0 0)) (C := RX3) (T := TX3) (N := 3) hx hb hts inT3 hown hK.k hP 0 rfl rfl 0 (by decide) (hts _ q_132) (fun _ h9 => h9) rfl dX3_mixedInns_14 ?_
      refine lv_iload hx hb dX3_mixedInns_17 (lv_at hl 2 rfl) ?_
      refine roVi (As := [.int x2]) (rest := [.long x1]) F (c_X2_hasOpen l D cI cS cJ (G 0) (N_now u) H0 x2 h) (cw_X3_42 hts (Nat.le_of_ble_eq_true rfl) (Nat.le_of_ble_eq_true rfl)) hK (neS hP) (recv (ci := 2) (k0 := 1) hK hP rfl rfl) rfl hl.1 rfl (Nat.le_of_ble_eq_true rfl) dX3_mixedInns_19 ⟨(Nat.le_of_ble_eq_true rfl), (Nat.le_of_ble_eq_true rfl)⟩ (fun r6 h => ?_)
      obtain ⟨b7, h⟩ := h
      refine jn_e h (fun J10 e12 h => ?_)
      have w11 : ∀ (x8 : Int32) (ls : Array Slot), bz x8 → lv_has ls 6 [(0, .ref (G 2 0)), (5, .int x2)] → J10 x8 → W p l e rm_X3_mixedInns s m args below meth c H0 [] 0 0 Q (F0 m 30 ls [.int x8, .long x1]) := by
        intro x8 ls b9 hl h
        subst e12
        refine roSl (As := [.long x1, .int x8]) (rest := []) F (c_X3_mixed l D cI cS cJ H0 x1 x8 h) (cw_X3_212 hts (Nat.le_of_ble_eq_true rfl) (Nat.le_of_ble_eq_true rfl)) hK vP_nil rfl hl.1 rfl (Nat.le_of_ble_eq_true rfl) dX3_mixedInns_30 ⟨(Nat.le_of_ble_eq_true rfl), (Nat.le_of_ble_eq_true rfl)⟩ (fun r13 h => ?_)
        refine lv_lstore_n (lv' := [(3, .long r13), (0, .ref (G 2 0)), (5, .int x2)]) hx hb dX3_mixedInns_33 rfl hl (by decide) rfl (fun ls hl => ?_)
        refine lv_lload_n hx hb dX3_mixedInns_34 rfl (lv_at hl 0 rfl) ?_
        refine lv_aload_n hx hb dX3_mixedInns_35 rfl (lv_at hl 1 rfl) ?_
        refine va_get (D := D) (ci := 3) (v := .ref (G 0 0)) (C := RX3) (T := TX3) (N := 3) hx hb hts inT3 hown hK.k hP 0 rfl rfl 0 (by decide) (hts _ q_132) (fun _ h9 => h9) rfl dX3_mixedInns_36 ?_
        refine va_get (D := D) (ci := 2) (v := .ref ((G 0) 1)) (C := RX2) (T := TX2) (N := 12) hx hb hts inT2 hown hK.k hP 1 rfl rfl 1 (by decide) (hts _ q_56) (fun _ h9 => h9) rfl dX3_mixedInns_39 ?_
        refine lv_iload hx hb dX3_mixedInns_42 (lv_at hl 2 rfl) ?_
        refine roSi (As := [.ref ((G 0) 1), .int x2]) (rest := [.long r13]) F (c_X3_read l D cI cS cJ ((G 0) 1) 8 (S_keys (N_now u)) H0 x2 h) (cw_X3_58 hts (Nat.le_of_ble_eq_true rfl) (Nat.le_of_ble_eq_true rfl)) hK (vP_one hP 2 rfl) rfl hl.1 rfl (Nat.le_of_ble_eq_true rfl) dX3_mixedInns_44 ⟨(Nat.le_of_ble_eq_true rfl), (Nat.le_of_ble_eq_true rfl)⟩ (fun r14 h => ?_)
        refine roSl (As := [.long r13, .int r14]) (rest := []) F (c_X3_mixed l D cI cS cJ H0 r13 r14 h) (cw_X3_212 hts (Nat.le_of_ble_eq_true rfl) (Nat.le_of_ble_eq_true rfl)) hK vP_nil rfl hl.1 rfl (Nat.le_of_ble_eq_true rfl) dX3_mixedInns_47 ⟨(Nat.le_of_ble_eq_true rfl), (Nat.le_of_ble_eq_true rfl)⟩ (fun r15 h => ?_)
        refine lv_lstore_n (lv' := [(3, .long r15), (0, .ref (G 2 0)), (5, .int x2)]) hx hb dX3_mixedInns_50 rfl hl (by decide) rfl (fun ls hl => ?_)
        refine lv_lload_n hx hb dX3_mixedInns_51 rfl (lv_at hl 0 rfl) ?_
        refine lv_aload_n hx hb dX3_mixedInns_52 rfl (lv_at hl 1 rfl) ?_
        refine va_get (D := D) (ci := 3) (v := .ref (G 0 0)) (C := RX3) (T := TX3) (N := 3) hx hb hts inT3 hown hK.k hP 0 rfl rfl 0 (by decide) (hts _ q_132) (fun _ h9 => h9) rfl dX3_mixedInns_53 ?_
        refine lv_iload hx hb dX3_mixedInns_56 (lv_at hl 2 rfl) ?_
        refine roVi (As := [.int x2]) (rest := [.long r15]) F (c_X2_knownMask l D cI cS cJ (G 0) (N_now u) H0 x2 h) (cw_X3_116 hts (Nat.le_of_ble_eq_true rfl) (Nat.le_of_ble_eq_true rfl)) hK (neS hP) (recv (ci := 2) (k0 := 1) hK hP rfl rfl) rfl hl.1 rfl (Nat.le_of_ble_eq_true rfl) dX3_mixedInns_58 ⟨(Nat.le_of_ble_eq_true rfl), (Nat.le_of_ble_eq_true rfl)⟩ (fun r16 h => ?_)
        refine roSl (As := [.long r15, .int r16]) (rest := []) F (c_X3_mixed l D cI cS cJ H0 r15 r16 h) (cw_X3_212 hts (Nat.le_of_ble_eq_true rfl) (Nat.le_of_ble_eq_true rfl)) hK vP_nil rfl hl.1 rfl (Nat.le_of_ble_eq_true rfl) dX3_mixedInns_61 ⟨(Nat.le_of_ble_eq_true rfl), (Nat.le_of_ble_eq_true rfl)⟩ (fun r17 h => ?_)
        refine lv_lstore_n (lv' := [(3, .long r17), (0, .ref (G 2 0)), (5, .int x2)]) hx hb dX3_mixedInns_64 rfl hl (by decide) rfl (fun ls hl => ?_)
        refine lv_lload_n hx hb dX3_mixedInns_65 rfl (lv_at hl 0 rfl) ?_
        refine lv_aload_n hx hb dX3_mixedInns_66 rfl (lv_at hl 1 rfl) ?_
        refine va_get (D := D) (ci := 3) (v := .ref (G 0 0)) (C := RX3) (T := TX3) (N := 3) hx hb hts inT3 hown hK.k hP 0 rfl rfl 0 (by decide) (hts _ q_132) (fun _ h9 => h9) rfl dX3_mixedInns_67 ?_
        refine lv_iload hx hb dX3_mixedInns_70 (lv_at hl 2 rfl) ?_
        refine roVi (As := [.int x2]) (rest := [.long r17]) F (c_X2_lostWithout l D cI cS cJ (G 0) (N_now u) H0 x2 h) (cw_X3_160 hts (Nat.le_of_ble_eq_true rfl) (Nat.le_of_ble_eq_true rfl)) hK (neS hP) (recv (ci := 2) (k0 := 1) hK hP rfl rfl) rfl hl.1 rfl (Nat.le_of_ble_eq_true rfl) dX3_mixedInns_72 ⟨(Nat.le_of_ble_eq_true rfl), (Nat.le_of_ble_eq_true rfl)⟩ (fun r18 h => ?_)
        refine roSl (As := [.long r17, .int r18]) (rest := []) F (c_X3_mixed l D cI cS cJ H0 r17 r18 h) (cw_X3_212 hts (Nat.le_of_ble_eq_true rfl) (Nat.le_of_ble_eq_true rfl)) hK vP_nil rfl hl.1 rfl (Nat.le_of_ble_eq_true rfl) dX3_mixedInns_75 ⟨(Nat.le_of_ble_eq_true rfl), (Nat.le_of_ble_eq_true rfl)⟩ (fun r19 h => ?_)
        refine lv_lstore_n (lv' := [(3, .long r19), (0, .ref (G 2 0)), (5, .int x2)]) hx hb dX3_mixedInns_78 rfl hl (by decide) rfl (fun ls hl => ?_)
        refine lv_iinc (v := (x2 + 1)) (lv' := [(5, .int (x2 + 1)), (3, .long r19), (0, .ref (G 2 0))]) hx hb dX3_mixedInns_79 hl (k := 2) rfl rfl (by decide) rfl (fun ls hl => ?_)
        refine lv_goto (tgt := 5) hx hb dX3_mixedInns_82 (by decide) ?_
        exact w4 r19 (x2 + 1) _ (lv_sub hl [2, 1, 0] rfl) h
      clear e12
      refine lv_if_eq (tgt := 29) hx hb dX3_mixedInns_22 (by decide) (fun c20 => ?_) (fun c20 => ?_)
      · replace h := h.1 c20
        refine lv_iconst (v := (0 : Int32)) hx hb dX3_mixedInns_29 (by decide) ?_
        exact w11 (0 : Int32) _ bz0 (lv_sub hl [0, 2] rfl) h
      · replace h := h.2 c20
        refine lv_iconst (v := (1 : Int32)) hx hb dX3_mixedInns_25 (by decide) ?_
        refine lv_goto (tgt := 30) hx hb dX3_mixedInns_26 (by decide) ?_
        exact w11 (1 : Int32) _ bz1 (lv_sub hl [0, 2] rfl) h
  · intro K3 w4 h
    exact w4 p1 (0 : Int32) _ (lv_sub hl [2, 1, 0] rfl) h

def wp_X3_mixedRoads (u : Ne) (p1 : Int64) (post : Int64 → Prop) : Prop :=
  LP2 (fun (K3 : Int64 → Int32 → Prop) (x1 : Int64) (x2 : Int32) => ((S_roadCount (N_now u)) ≤ x2 → post x1) ∧ (¬ (S_roadCount (N_now u)) ≤ x2 → LP2 (fun (K8 : Int64 → Int32 → Prop) (x6 : Int64) (x7 : Int32) => ((3 : Int32) < x7 → wp_X3_read 6 (S_roadHalls (N_now u)) x2 (fun r11 => wp_X3_mixed x6 r11 (fun r12 => wp_X2_allOpenOn (N_now u) x2 (fun r13 => jn (fun (x15 : Int32) => wp_X3_mixed r12 x15 (fun r20 => K3 r20 (x2 + 1))) (fun (J17 : Int32 → Prop) => (r13 = 0 → J17 (0 : Int32)) ∧ (¬ r13 = 0 → J17 (1 : Int32))))))) ∧ (¬ (3 : Int32) < x7 → wp_X2_innAt (N_now u) x2 x7 (fun r22 => wp_X3_mixed x6 r22 (fun r23 => K8 r23 (x7 + 1))))) x1 (1 : Int32))) p1 (0 : Int32)
set_option maxHeartbeats 4000000 in
set_option maxRecDepth 100000 in
theorem c_X3_mixedRoads (l : Launch) (D : va_G) (cI cS cJ : ClassId) (G : Nat → Nat → Nat) (u : Ne) (H0 : Heap) (p1 : Int64) {post : Int64 → Prop} (h : wp_X3_mixedRoads u p1 post) : Met l yX3_mixedRoads (wsA yX3_mixedRoads cX3_mixedRoads 7 (some .long)) rm_X3_mixedRoads (va_Pc [.ref (G 2 0), .long p1] (roP D (tysA cI cS cJ) (neW cI cS G u) H0)) (va_Ql (fun r (_ : Unit) => post r) (fun _ t => t.heap = H0) nF) 0 0 nF := by
  refine mkROl (by decide +kernel) (Nat.le_of_ble_eq_true rfl) (fun {p e s m args below meth c Q ls} hx hb F hts hown hK hP hl hQ => ?_)
  have hown : s.vm.findClass RX3 = some m.cls := hown
  have F : CallFix p m c cX3_mixedRoads 7 s args wsT RX3 := F
  have hl : lv_has ls 7 [(0, .ref (G 2 0)), (1, .long p1)] := hl
  unfold wp_X3_mixedRoads at h
  refine lv_lload_n hx hb dX3_mixedRoads_0 rfl (lv_at hl 1 rfl) ?_
  refine lv_lstore_n (lv' := [(3, .long p1), (0, .ref (G 2 0)), (1, .long p1)]) hx hb dX3_mixedRoads_1 rfl hl (by decide) rfl (fun ls hl => ?_)
  refine lv_iconst (v := (0 : Int32)) hx hb dX3_mixedRoads_2 (by decide) ?_
  refine lv_istore (lv' := [(5, .int (0 : Int32)), (3, .long p1), (0, .ref (G 2 0)), (1, .long p1)]) hx hb dX3_mixedRoads_3 hl (by decide) rfl (fun ls hl => ?_)
  refine lpu2 h (fun K3 : Int64 → Int32 → Prop => ∀ (x1 : Int64) (x2 : Int32) (ls : Array Slot), lv_has ls 7 [(0, .ref (G 2 0)), (3, .long x1), (5, .int x2)] → K3 x1 x2 → W p l e rm_X3_mixedRoads s m args below meth c H0 [] 0 0 Q (F0 m 5 ls [])) ?_ ?_ ?_
  · intro x1 x2 ls hl h
    exact h.elim
  · intro K3
    intro w4 x1 x2 ls hl h
    refine lv_iload hx hb dX3_mixedRoads_5 (lv_at hl 2 rfl) ?_
    refine lv_aload_n hx hb dX3_mixedRoads_7 rfl (lv_at hl 0 rfl) ?_
    refine va_get (D := D) (ci := 3) (v := .ref (G 0 0)) (C := RX3) (T := TX3) (N := 3) hx hb hts inT3 hown hK.k hP 0 rfl rfl 0 (by decide) (hts _ q_132) (fun _ h9 => h9) rfl dX3_mixedRoads_8 ?_
    refine va_get (D := D) (ci := 2) (v := .int (S_roadCount (N_now u))) (C := RX2) (T := TX2) (N := 12) hx hb hts inT2 hown hK.k hP 1 rfl rfl 2 (by decide) (hts _ q_58) (fun _ h9 => h9) rfl dX3_mixedRoads_11 ?_
    refine lv_icmp_ge (tgt := 93) hx hb dX3_mixedRoads_14 (by decide) (fun c5 => ?_) (fun c5 => ?_)
    · replace h := h.1 c5
      refine lv_lload_n hx hb dX3_mixedRoads_93 rfl (lv_at hl 1 rfl) ?_
      exact hQ h dX3_mixedRoads_94
    · replace h := h.2 c5
      refine lv_iconst (v := (1 : Int32)) hx hb dX3_mixedRoads_17 (by decide) ?_
      refine lv_istore (lv' := [(6, .int (1 : Int32)), (0, .ref (G 2 0)), (3, .long x1), (5, .int x2)]) hx hb dX3_mixedRoads_18 hl (by decide) rfl (fun ls hl => ?_)
      refine lpu2 h (fun K8 : Int64 → Int32 → Prop => ∀ (x6 : Int64) (x7 : Int32) (ls : Array Slot), lv_has ls 7 [(0, .ref (G 2 0)), (3, .long x6), (5, .int x2), (6, .int x7)] → K8 x6 x7 → W p l e rm_X3_mixedRoads s m args below meth c H0 [] 0 0 Q (F0 m 20 ls [])) ?_ ?_ ?_
      · intro x6 x7 ls hl h
        exact h.elim
      · intro K8
        intro w9 x6 x7 ls hl h
        refine lv_iload hx hb dX3_mixedRoads_20 (lv_at hl 3 rfl) ?_
        refine lv_iconst (v := (3 : Int32)) hx hb dX3_mixedRoads_22 (by decide) ?_
        refine lv_icmp_gt (tgt := 48) hx hb dX3_mixedRoads_23 (by decide) (fun c10 => ?_) (fun c10 => ?_)
        · replace h := h.1 c10
          refine lv_lload_n hx hb dX3_mixedRoads_48 rfl (lv_at hl 1 rfl) ?_
          refine lv_aload_n hx hb dX3_mixedRoads_49 rfl (lv_at hl 0 rfl) ?_
          refine va_get (D := D) (ci := 3) (v := .ref (G 0 0)) (C := RX3) (T := TX3) (N := 3) hx hb hts inT3 hown hK.k hP 0 rfl rfl 0 (by decide) (hts _ q_132) (fun _ h9 => h9) rfl dX3_mixedRoads_50 ?_
          refine va_get (D := D) (ci := 2) (v := .ref ((G 0) 4)) (C := RX2) (T := TX2) (N := 12) hx hb hts inT2 hown hK.k hP 1 rfl rfl 5 (by decide) (hts _ q_62) (fun _ h9 => h9) rfl dX3_mixedRoads_53 ?_
          refine lv_iload hx hb dX3_mixedRoads_56 (lv_at hl 2 rfl) ?_
          refine roSi (As := [.ref ((G 0) 4), .int x2]) (rest := [.long x6]) F (c_X3_read l D cI cS cJ ((G 0) 4) 6 (S_roadHalls (N_now u)) H0 x2 h) (cw_X3_58 hts (Nat.le_of_ble_eq_true rfl) (Nat.le_of_ble_eq_true rfl)) hK (vP_one hP 5 rfl) rfl hl.1 rfl (Nat.le_of_ble_eq_true rfl) dX3_mixedRoads_58 ⟨(Nat.le_of_ble_eq_true rfl), (Nat.le_of_ble_eq_true rfl)⟩ (fun r11 h => ?_)
          refine roSl (As := [.long x6, .int r11]) (rest := []) F (c_X3_mixed l D cI cS cJ H0 x6 r11 h) (cw_X3_212 hts (Nat.le_of_ble_eq_true rfl) (Nat.le_of_ble_eq_true rfl)) hK vP_nil rfl hl.1 rfl (Nat.le_of_ble_eq_true rfl) dX3_mixedRoads_61 ⟨(Nat.le_of_ble_eq_true rfl), (Nat.le_of_ble_eq_true rfl)⟩ (fun r12 h => ?_)
          refine lv_lstore_n (lv' := [(3, .long r12), (0, .ref (G 2 0)), (5, .int x2), (6, .int x7)]) hx hb dX3_mixedRoads_64 rfl hl (by decide) rfl (fun ls hl => ?_)
          refine lv_lload_n hx hb dX3_mixedRoads_65 rfl (lv_at hl 0 rfl) ?_
          refine lv_aload_n hx hb dX3_mixedRoads_66 rfl (lv_at hl 1 rfl) ?_
          refine va_get (D := D) (ci := 3) (v := .ref (G 0 0)) (C := RX3) (T := TX3) (N := 3) hx hb hts inT3 hown hK.k hP 0 rfl rfl 0 (by decide) (hts _ q_132) (fun _ h9 => h9) rfl dX3_mixedRoads_67 ?_
          refine lv_iload hx hb dX3_mixedRoads_70 (lv_at hl 2 rfl) ?_
          refine roVi (As := [.int x2]) (rest := [.long r12]) F (c_X2_allOpenOn l D cI cS cJ (G 0) (N_now u) H0 x2 h) (cw_X3_109 hts (Nat.le_of_ble_eq_true rfl) (Nat.le_of_ble_eq_true rfl)) hK (neS hP) (recv (ci := 2) (k0 := 1) hK hP rfl rfl) rfl hl.1 rfl (Nat.le_of_ble_eq_true rfl) dX3_mixedRoads_72 ⟨(Nat.le_of_ble_eq_true rfl), (Nat.le_of_ble_eq_true rfl)⟩ (fun r13 h => ?_)
          obtain ⟨b14, h⟩ := h
          refine jn_e h (fun J17 e19 h => ?_)
          have w18 : ∀ (x15 : Int32) (ls : Array Slot), bz x15 → lv_has ls 7 [(0, .ref (G 2 0)), (5, .int x2)] → J17 x15 → W p l e rm_X3_mixedRoads s m args below meth c H0 [] 0 0 Q (F0 m 83 ls [.int x15, .long r12]) := by
            intro x15 ls b16 hl h
            subst e19
            refine roSl (As := [.long r12, .int x15]) (rest := []) F (c_X3_mixed l D cI cS cJ H0 r12 x15 h) (cw_X3_212 hts (Nat.le_of_ble_eq_true rfl) (Nat.le_of_ble_eq_true rfl)) hK vP_nil rfl hl.1 rfl (Nat.le_of_ble_eq_true rfl) dX3_mixedRoads_83 ⟨(Nat.le_of_ble_eq_true rfl), (Nat.le_of_ble_eq_true rfl)⟩ (fun r20 h => ?_)
            refine lv_lstore_n (lv' := [(3, .long r20), (0, .ref (G 2 0)), (5, .int x2)]) hx hb dX3_mixedRoads_86 rfl hl (by decide) rfl (fun ls hl => ?_)
            refine lv_iinc (v := (x2 + 1)) (lv' := [(5, .int (x2 + 1)), (3, .long r20), (0, .ref (G 2 0))]) hx hb dX3_mixedRoads_87 hl (k := 2) rfl rfl (by decide) rfl (fun ls hl => ?_)
            refine lv_goto (tgt := 5) hx hb dX3_mixedRoads_90 (by decide) ?_
            exact w4 r20 (x2 + 1) _ (lv_sub hl [2, 1, 0] rfl) h
          clear e19
          refine lv_if_eq (tgt := 82) hx hb dX3_mixedRoads_75 (by decide) (fun c21 => ?_) (fun c21 => ?_)
          · replace h := h.1 c21
            refine lv_iconst (v := (0 : Int32)) hx hb dX3_mixedRoads_82 (by decide) ?_
            exact w18 (0 : Int32) _ bz0 (lv_sub hl [1, 2] rfl) h
          · replace h := h.2 c21
            refine lv_iconst (v := (1 : Int32)) hx hb dX3_mixedRoads_78 (by decide) ?_
            refine lv_goto (tgt := 83) hx hb dX3_mixedRoads_79 (by decide) ?_
            exact w18 (1 : Int32) _ bz1 (lv_sub hl [1, 2] rfl) h
        · replace h := h.2 c10
          refine lv_lload_n hx hb dX3_mixedRoads_26 rfl (lv_at hl 1 rfl) ?_
          refine lv_aload_n hx hb dX3_mixedRoads_27 rfl (lv_at hl 0 rfl) ?_
          refine va_get (D := D) (ci := 3) (v := .ref (G 0 0)) (C := RX3) (T := TX3) (N := 3) hx hb hts inT3 hown hK.k hP 0 rfl rfl 0 (by decide) (hts _ q_132) (fun _ h9 => h9) rfl dX3_mixedRoads_28 ?_
          refine lv_iload hx hb dX3_mixedRoads_31 (lv_at hl 2 rfl) ?_
          refine lv_iload hx hb dX3_mixedRoads_33 (lv_at hl 3 rfl) ?_
          refine roVi (As := [.int x2, .int x7]) (rest := [.long x6]) F (c_X2_innAt l D cI cS cJ (G 0) (N_now u) H0 x2 x7 h) (cw_X3_103 hts (Nat.le_of_ble_eq_true rfl) (Nat.le_of_ble_eq_true rfl)) hK (neS hP) (recv (ci := 2) (k0 := 1) hK hP rfl rfl) rfl hl.1 rfl (Nat.le_of_ble_eq_true rfl) dX3_mixedRoads_35 ⟨(Nat.le_of_ble_eq_true rfl), (Nat.le_of_ble_eq_true rfl)⟩ (fun r22 h => ?_)
          refine roSl (As := [.long x6, .int r22]) (rest := []) F (c_X3_mixed l D cI cS cJ H0 x6 r22 h) (cw_X3_212 hts (Nat.le_of_ble_eq_true rfl) (Nat.le_of_ble_eq_true rfl)) hK vP_nil rfl hl.1 rfl (Nat.le_of_ble_eq_true rfl) dX3_mixedRoads_38 ⟨(Nat.le_of_ble_eq_true rfl), (Nat.le_of_ble_eq_true rfl)⟩ (fun r23 h => ?_)
          refine lv_lstore_n (lv' := [(3, .long r23), (0, .ref (G 2 0)), (5, .int x2), (6, .int x7)]) hx hb dX3_mixedRoads_41 rfl hl (by decide) rfl (fun ls hl => ?_)
          refine lv_iinc (v := (x7 + 1)) (lv' := [(6, .int (x7 + 1)), (3, .long r23), (0, .ref (G 2 0)), (5, .int x2)]) hx hb dX3_mixedRoads_42 hl (k := 3) rfl rfl (by decide) rfl (fun ls hl => ?_)
          refine lv_goto (tgt := 20) hx hb dX3_mixedRoads_45 (by decide) ?_
          exact w9 r23 (x7 + 1) _ (lv_sub hl [2, 1, 3, 0] rfl) h
      · intro K8 w9 h
        exact w9 x1 (1 : Int32) _ (lv_sub hl [1, 2, 3, 0] rfl) h
  · intro K3 w4 h
    exact w4 p1 (0 : Int32) _ (lv_sub hl [2, 1, 0] rfl) h

def wp_X3_mixedEnvelopes (u : Ne) (p1 : Int64) (post : Int64 → Prop) : Prop :=
  LP2 (fun (K3 : Int64 → Int32 → Prop) (x1 : Int64) (x2 : Int32) => ((S_envelopeCount (N_now u)) ≤ x2 → post x1) ∧ (¬ (S_envelopeCount (N_now u)) ≤ x2 → LP2 (fun (K8 : Int64 → Int32 → Prop) (x6 : Int64) (x7 : Int32) => ((4 : Int32) ≤ x7 → wp_X2_ticksLeft (N_now u) x2 (S_openMask (N_now u)) (fun r11 => wp_X3_mixed x6 r11 (fun r12 => K3 r12 (x2 + 1)))) ∧ (¬ (4 : Int32) ≤ x7 → wp_X2_ofEnvelope (N_now u) x2 x7 (fun r13 => wp_X3_mixed x6 r13 (fun r14 => K8 r14 (x7 + 1))))) x1 (0 : Int32))) p1 (0 : Int32)
set_option maxHeartbeats 4000000 in
set_option maxRecDepth 100000 in
theorem c_X3_mixedEnvelopes (l : Launch) (D : va_G) (cI cS cJ : ClassId) (G : Nat → Nat → Nat) (u : Ne) (H0 : Heap) (p1 : Int64) {post : Int64 → Prop} (h : wp_X3_mixedEnvelopes u p1 post) : Met l yX3_mixedEnvelopes (wsA yX3_mixedEnvelopes cX3_mixedEnvelopes 7 (some .long)) rm_X3_mixedEnvelopes (va_Pc [.ref (G 2 0), .long p1] (roP D (tysA cI cS cJ) (neW cI cS G u) H0)) (va_Ql (fun r (_ : Unit) => post r) (fun _ t => t.heap = H0) nF) 0 0 nF := by
  refine mkROl (by decide +kernel) (Nat.le_of_ble_eq_true rfl) (fun {p e s m args below meth c Q ls} hx hb F hts hown hK hP hl hQ => ?_)
  have hown : s.vm.findClass RX3 = some m.cls := hown
  have F : CallFix p m c cX3_mixedEnvelopes 7 s args wsT RX3 := F
  have hl : lv_has ls 7 [(0, .ref (G 2 0)), (1, .long p1)] := hl
  unfold wp_X3_mixedEnvelopes at h
  refine lv_lload_n hx hb dX3_mixedEnvelopes_0 rfl (lv_at hl 1 rfl) ?_
  refine lv_lstore_n (lv' := [(3, .long p1), (0, .ref (G 2 0)), (1, .long p1)]) hx hb dX3_mixedEnvelopes_1 rfl hl (by decide) rfl (fun ls hl => ?_)
  refine lv_iconst (v := (0 : Int32)) hx hb dX3_mixedEnvelopes_2 (by decide) ?_
  refine lv_istore (lv' := [(5, .int (0 : Int32)), (3, .long p1), (0, .ref (G 2 0)), (1, .long p1)]) hx hb dX3_mixedEnvelopes_3 hl (by decide) rfl (fun ls hl => ?_)
  refine lpu2 h (fun K3 : Int64 → Int32 → Prop => ∀ (x1 : Int64) (x2 : Int32) (ls : Array Slot), lv_has ls 7 [(0, .ref (G 2 0)), (3, .long x1), (5, .int x2)] → K3 x1 x2 → W p l e rm_X3_mixedEnvelopes s m args below meth c H0 [] 0 0 Q (F0 m 5 ls [])) ?_ ?_ ?_
  · intro x1 x2 ls hl h
    exact h.elim
  · intro K3
    intro w4 x1 x2 ls hl h
    refine lv_iload hx hb dX3_mixedEnvelopes_5 (lv_at hl 2 rfl) ?_
    refine lv_aload_n hx hb dX3_mixedEnvelopes_7 rfl (lv_at hl 0 rfl) ?_
    refine va_get (D := D) (ci := 3) (v := .ref (G 0 0)) (C := RX3) (T := TX3) (N := 3) hx hb hts inT3 hown hK.k hP 0 rfl rfl 0 (by decide) (hts _ q_132) (fun _ h9 => h9) rfl dX3_mixedEnvelopes_8 ?_
    refine va_get (D := D) (ci := 2) (v := .int (S_envelopeCount (N_now u))) (C := RX2) (T := TX2) (N := 12) hx hb hts inT2 hown hK.k hP 1 rfl rfl 6 (by decide) (hts _ q_64) (fun _ h9 => h9) rfl dX3_mixedEnvelopes_11 ?_
    refine lv_icmp_ge (tgt := 75) hx hb dX3_mixedEnvelopes_14 (by decide) (fun c5 => ?_) (fun c5 => ?_)
    · replace h := h.1 c5
      refine lv_lload_n hx hb dX3_mixedEnvelopes_75 rfl (lv_at hl 1 rfl) ?_
      exact hQ h dX3_mixedEnvelopes_76
    · replace h := h.2 c5
      refine lv_iconst (v := (0 : Int32)) hx hb dX3_mixedEnvelopes_17 (by decide) ?_
      refine lv_istore (lv' := [(6, .int (0 : Int32)), (0, .ref (G 2 0)), (3, .long x1), (5, .int x2)]) hx hb dX3_mixedEnvelopes_18 hl (by decide) rfl (fun ls hl => ?_)
      refine lpu2 h (fun K8 : Int64 → Int32 → Prop => ∀ (x6 : Int64) (x7 : Int32) (ls : Array Slot), lv_has ls 7 [(0, .ref (G 2 0)), (3, .long x6), (5, .int x2), (6, .int x7)] → K8 x6 x7 → W p l e rm_X3_mixedEnvelopes s m args below meth c H0 [] 0 0 Q (F0 m 20 ls [])) ?_ ?_ ?_
      · intro x6 x7 ls hl h
        exact h.elim
      · intro K8
        intro w9 x6 x7 ls hl h
        refine lv_iload hx hb dX3_mixedEnvelopes_20 (lv_at hl 3 rfl) ?_
        refine lv_iconst (v := (4 : Int32)) hx hb dX3_mixedEnvelopes_22 (by decide) ?_
        refine lv_icmp_ge (tgt := 48) hx hb dX3_mixedEnvelopes_23 (by decide) (fun c10 => ?_) (fun c10 => ?_)
        · replace h := h.1 c10
          refine lv_lload_n hx hb dX3_mixedEnvelopes_48 rfl (lv_at hl 1 rfl) ?_
          refine lv_aload_n hx hb dX3_mixedEnvelopes_49 rfl (lv_at hl 0 rfl) ?_
          refine va_get (D := D) (ci := 3) (v := .ref (G 0 0)) (C := RX3) (T := TX3) (N := 3) hx hb hts inT3 hown hK.k hP 0 rfl rfl 0 (by decide) (hts _ q_132) (fun _ h9 => h9) rfl dX3_mixedEnvelopes_50 ?_
          refine lv_iload hx hb dX3_mixedEnvelopes_53 (lv_at hl 2 rfl) ?_
          refine lv_aload_n hx hb dX3_mixedEnvelopes_55 rfl (lv_at hl 0 rfl) ?_
          refine va_get (D := D) (ci := 3) (v := .ref (G 0 0)) (C := RX3) (T := TX3) (N := 3) hx hb hts inT3 hown hK.k hP 0 rfl rfl 0 (by decide) (hts _ q_132) (fun _ h9 => h9) rfl dX3_mixedEnvelopes_56 ?_
          refine va_get (D := D) (ci := 2) (v := .int (S_openMask (N_now u))) (C := RX2) (T := TX2) (N := 12) hx hb hts inT2 hown hK.k hP 1 rfl rfl 0 (by decide) (hts _ q_54) (fun _ h9 => h9) rfl dX3_mixedEnvelopes_59 ?_
          refine roVi (As := [.int x2, .int (S_openMask (N_now u))]) (rest := [.long x6]) F (c_X2_ticksLeft l D cI cS cJ (G 0) (N_now u) H0 x2 (S_openMask (N_now u)) h) (cw_X3_166 hts (Nat.le_of_ble_eq_true rfl) (Nat.le_of_ble_eq_true rfl)) hK (neS hP) (recv (ci := 2) (k0 := 1) hK hP rfl rfl) rfl hl.1 rfl (Nat.le_of_ble_eq_true rfl) dX3_mixedEnvelopes_62 ⟨(Nat.le_of_ble_eq_true rfl), (Nat.le_of_ble_eq_true rfl)⟩ (fun r11 h => ?_)
          refine roSl (As := [.long x6, .int r11]) (rest := []) F (c_X3_mixed l D cI cS cJ H0 x6 r11 h) (cw_X3_212 hts (Nat.le_of_ble_eq_true rfl) (Nat.le_of_ble_eq_true rfl)) hK vP_nil rfl hl.1 rfl (Nat.le_of_ble_eq_true rfl) dX3_mixedEnvelopes_65 ⟨(Nat.le_of_ble_eq_true rfl), (Nat.le_of_ble_eq_true rfl)⟩ (fun r12 h => ?_)
          refine lv_lstore_n (lv' := [(3, .long r12), (0, .ref (G 2 0)), (5, .int x2), (6, .int x7)]) hx hb dX3_mixedEnvelopes_68 rfl hl (by decide) rfl (fun ls hl => ?_)
          refine lv_iinc (v := (x2 + 1)) (lv' := [(5, .int (x2 + 1)), (3, .long r12), (0, .ref (G 2 0)), (6, .int x7)]) hx hb dX3_mixedEnvelopes_69 hl (k := 2) rfl rfl (by decide) rfl (fun ls hl => ?_)
          refine lv_goto (tgt := 5) hx hb dX3_mixedEnvelopes_72 (by decide) ?_
          exact w4 r12 (x2 + 1) _ (lv_sub hl [2, 1, 0] rfl) h
        · replace h := h.2 c10
          refine lv_lload_n hx hb dX3_mixedEnvelopes_26 rfl (lv_at hl 1 rfl) ?_
          refine lv_aload_n hx hb dX3_mixedEnvelopes_27 rfl (lv_at hl 0 rfl) ?_
          refine va_get (D := D) (ci := 3) (v := .ref (G 0 0)) (C := RX3) (T := TX3) (N := 3) hx hb hts inT3 hown hK.k hP 0 rfl rfl 0 (by decide) (hts _ q_132) (fun _ h9 => h9) rfl dX3_mixedEnvelopes_28 ?_
          refine lv_iload hx hb dX3_mixedEnvelopes_31 (lv_at hl 2 rfl) ?_
          refine lv_iload hx hb dX3_mixedEnvelopes_33 (lv_at hl 3 rfl) ?_
          refine roVi (As := [.int x2, .int x7]) (rest := [.long x6]) F (c_X2_ofEnvelope l D cI cS cJ (G 0) (N_now u) H0 x2 x7 h) (cw_X3_145 hts (Nat.le_of_ble_eq_true rfl) (Nat.le_of_ble_eq_true rfl)) hK (neS hP) (recv (ci := 2) (k0 := 1) hK hP rfl rfl) rfl hl.1 rfl (Nat.le_of_ble_eq_true rfl) dX3_mixedEnvelopes_35 ⟨(Nat.le_of_ble_eq_true rfl), (Nat.le_of_ble_eq_true rfl)⟩ (fun r13 h => ?_)
          refine roSl (As := [.long x6, .int r13]) (rest := []) F (c_X3_mixed l D cI cS cJ H0 x6 r13 h) (cw_X3_212 hts (Nat.le_of_ble_eq_true rfl) (Nat.le_of_ble_eq_true rfl)) hK vP_nil rfl hl.1 rfl (Nat.le_of_ble_eq_true rfl) dX3_mixedEnvelopes_38 ⟨(Nat.le_of_ble_eq_true rfl), (Nat.le_of_ble_eq_true rfl)⟩ (fun r14 h => ?_)
          refine lv_lstore_n (lv' := [(3, .long r14), (0, .ref (G 2 0)), (5, .int x2), (6, .int x7)]) hx hb dX3_mixedEnvelopes_41 rfl hl (by decide) rfl (fun ls hl => ?_)
          refine lv_iinc (v := (x7 + 1)) (lv' := [(6, .int (x7 + 1)), (3, .long r14), (0, .ref (G 2 0)), (5, .int x2)]) hx hb dX3_mixedEnvelopes_42 hl (k := 3) rfl rfl (by decide) rfl (fun ls hl => ?_)
          refine lv_goto (tgt := 20) hx hb dX3_mixedEnvelopes_45 (by decide) ?_
          exact w9 r14 (x7 + 1) _ (lv_sub hl [2, 1, 3, 0] rfl) h
      · intro K8 w9 h
        exact w9 x1 (0 : Int32) _ (lv_sub hl [1, 2, 3, 0] rfl) h
  · intro K3 w4 h
    exact w4 p1 (0 : Int32) _ (lv_sub hl [2, 1, 0] rfl) h

def wp_X3_digest (u : Ne)  (post : Int64 → Prop) : Prop :=
  wp_X3_mixed (4726 : Int64) (S_roadCount (N_now u)) (fun r1 => wp_X3_mixed r1 (S_envelopeCount (N_now u)) (fun r2 => wp_X3_mixed r2 (S_answerGot (N_now u)) (fun r3 => wp_X3_mixedRow 5 (S_counts (N_now u)) r3 (fun r4 => wp_X3_mixedInns u r4 (fun r5 => wp_X3_mixedRoads u r5 (fun r6 => wp_X3_mixedEnvelopes u r6 (fun r7 => wp_X3_mixedRow 4 (S_letters (N_now u)) r7 (fun r8 => LP2 (fun (K11 : Int64 → Int32 → Prop) (x9 : Int64) (x10 : Int32) => ((3 : Int32) < x10 → post x9) ∧ (¬ (3 : Int32) < x10 → wp_X2_leastUsedInn (N_now u) x10 (fun r14 => wp_X3_mixed x9 r14 (fun r15 => K11 r15 (x10 + 1))))) r8 (1 : Int32)))))))))
set_option maxHeartbeats 4000000 in
set_option maxRecDepth 100000 in
theorem c_X3_digest (l : Launch) (D : va_G) (cI cS cJ : ClassId) (G : Nat → Nat → Nat) (u : Ne) (H0 : Heap)  {post : Int64 → Prop} (h : wp_X3_digest u post) : Met l yX3_digest (wsA yX3_digest cX3_digest 4 (some .long)) rm_X3_digest (va_Pc [.ref (G 2 0)] (roP D (tysA cI cS cJ) (neW cI cS G u) H0)) (va_Ql (fun r (_ : Unit) => post r) (fun _ t => t.heap = H0) nF) 0 0 nF := by
  refine mkROl (by decide +kernel) (Nat.le_of_ble_eq_true rfl) (fun {p e s m args below meth c Q ls} hx hb F hts hown hK hP hl hQ => ?_)
  have hown : s.vm.findClass RX3 = some m.cls := hown
  have F : CallFix p m c cX3_digest 4 s args wsT RX3 := F
  have hl : lv_has ls 4 [(0, .ref (G 2 0))] := hl
  unfold wp_X3_digest at h
  refine lv_ldc2 (v := (4726 : Int64)) hx hb hown (hts _ q_247) dX3_digest_0 ?_
  refine lv_lstore_n (lv' := [(1, .long (4726 : Int64)), (0, .ref (G 2 0))]) hx hb dX3_digest_3 rfl hl (by decide) rfl (fun ls hl => ?_)
  refine lv_lload_n hx hb dX3_digest_4 rfl (lv_at hl 0 rfl) ?_
  refine lv_aload_n hx hb dX3_digest_5 rfl (lv_at hl 1 rfl) ?_
  refine va_get (D := D) (ci := 3) (v := .ref (G 0 0)) (C := RX3) (T := TX3) (N := 3) hx hb hts inT3 hown hK.k hP 0 rfl rfl 0 (by decide) (hts _ q_132) (fun _ h9 => h9) rfl dX3_digest_6 ?_
  refine va_get (D := D) (ci := 2) (v := .int (S_roadCount (N_now u))) (C := RX2) (T := TX2) (N := 12) hx hb hts inT2 hown hK.k hP 1 rfl rfl 2 (by decide) (hts _ q_58) (fun _ h9 => h9) rfl dX3_digest_9 ?_
  refine roSl (As := [.long (4726 : Int64), .int (S_roadCount (N_now u))]) (rest := []) F (c_X3_mixed l D cI cS cJ H0 (4726 : Int64) (S_roadCount (N_now u)) h) (cw_X3_212 hts (Nat.le_of_ble_eq_true rfl) (Nat.le_of_ble_eq_true rfl)) hK vP_nil rfl hl.1 rfl (Nat.le_of_ble_eq_true rfl) dX3_digest_12 ⟨(Nat.le_of_ble_eq_true rfl), (Nat.le_of_ble_eq_true rfl)⟩ (fun r1 h => ?_)
  refine lv_lstore_n (lv' := [(1, .long r1), (0, .ref (G 2 0))]) hx hb dX3_digest_15 rfl hl (by decide) rfl (fun ls hl => ?_)
  refine lv_lload_n hx hb dX3_digest_16 rfl (lv_at hl 0 rfl) ?_
  refine lv_aload_n hx hb dX3_digest_17 rfl (lv_at hl 1 rfl) ?_
  refine va_get (D := D) (ci := 3) (v := .ref (G 0 0)) (C := RX3) (T := TX3) (N := 3) hx hb hts inT3 hown hK.k hP 0 rfl rfl 0 (by decide) (hts _ q_132) (fun _ h9 => h9) rfl dX3_digest_18 ?_
  refine va_get (D := D) (ci := 2) (v := .int (S_envelopeCount (N_now u))) (C := RX2) (T := TX2) (N := 12) hx hb hts inT2 hown hK.k hP 1 rfl rfl 6 (by decide) (hts _ q_64) (fun _ h9 => h9) rfl dX3_digest_21 ?_
  refine roSl (As := [.long r1, .int (S_envelopeCount (N_now u))]) (rest := []) F (c_X3_mixed l D cI cS cJ H0 r1 (S_envelopeCount (N_now u)) h) (cw_X3_212 hts (Nat.le_of_ble_eq_true rfl) (Nat.le_of_ble_eq_true rfl)) hK vP_nil rfl hl.1 rfl (Nat.le_of_ble_eq_true rfl) dX3_digest_24 ⟨(Nat.le_of_ble_eq_true rfl), (Nat.le_of_ble_eq_true rfl)⟩ (fun r2 h => ?_)
  refine lv_lstore_n (lv' := [(1, .long r2), (0, .ref (G 2 0))]) hx hb dX3_digest_27 rfl hl (by decide) rfl (fun ls hl => ?_)
  refine lv_lload_n hx hb dX3_digest_28 rfl (lv_at hl 0 rfl) ?_
  refine lv_aload_n hx hb dX3_digest_29 rfl (lv_at hl 1 rfl) ?_
  refine va_get (D := D) (ci := 3) (v := .ref (G 0 0)) (C := RX3) (T := TX3) (N := 3) hx hb hts inT3 hown hK.k hP 0 rfl rfl 0 (by decide) (hts _ q_132) (fun _ h9 => h9) rfl dX3_digest_30 ?_
  refine va_get (D := D) (ci := 2) (v := .int (S_answerGot (N_now u))) (C := RX2) (T := TX2) (N := 12) hx hb hts inT2 hown hK.k hP 1 rfl rfl 10 (by decide) (hts _ q_71) (fun _ h9 => h9) rfl dX3_digest_33 ?_
  refine roSl (As := [.long r2, .int (S_answerGot (N_now u))]) (rest := []) F (c_X3_mixed l D cI cS cJ H0 r2 (S_answerGot (N_now u)) h) (cw_X3_212 hts (Nat.le_of_ble_eq_true rfl) (Nat.le_of_ble_eq_true rfl)) hK vP_nil rfl hl.1 rfl (Nat.le_of_ble_eq_true rfl) dX3_digest_36 ⟨(Nat.le_of_ble_eq_true rfl), (Nat.le_of_ble_eq_true rfl)⟩ (fun r3 h => ?_)
  refine lv_lstore_n (lv' := [(1, .long r3), (0, .ref (G 2 0))]) hx hb dX3_digest_39 rfl hl (by decide) rfl (fun ls hl => ?_)
  refine lv_lload_n hx hb dX3_digest_40 rfl (lv_at hl 0 rfl) ?_
  refine lv_aload_n hx hb dX3_digest_41 rfl (lv_at hl 1 rfl) ?_
  refine va_get (D := D) (ci := 3) (v := .ref (G 0 0)) (C := RX3) (T := TX3) (N := 3) hx hb hts inT3 hown hK.k hP 0 rfl rfl 0 (by decide) (hts _ q_132) (fun _ h9 => h9) rfl dX3_digest_42 ?_
  refine va_get (D := D) (ci := 2) (v := .ref ((G 0) 8)) (C := RX2) (T := TX2) (N := 12) hx hb hts inT2 hown hK.k hP 1 rfl rfl 11 (by decide) (hts _ q_73) (fun _ h9 => h9) rfl dX3_digest_45 ?_
  refine roSl (As := [.long r3, .ref ((G 0) 8)]) (rest := []) F (c_X3_mixedRow l D cI cS cJ ((G 0) 8) 5 (S_counts (N_now u)) H0 r3 h) (cw_X3_216 hts (Nat.le_of_ble_eq_true rfl) (Nat.le_of_ble_eq_true rfl)) hK (vP_one hP 9 rfl) rfl hl.1 rfl (Nat.le_of_ble_eq_true rfl) dX3_digest_48 ⟨(Nat.le_of_ble_eq_true rfl), (Nat.le_of_ble_eq_true rfl)⟩ (fun r4 h => ?_)
  refine lv_lstore_n (lv' := [(1, .long r4), (0, .ref (G 2 0))]) hx hb dX3_digest_51 rfl hl (by decide) rfl (fun ls hl => ?_)
  refine lv_aload_n hx hb dX3_digest_52 rfl (lv_at hl 1 rfl) ?_
  refine lv_lload_n hx hb dX3_digest_53 rfl (lv_at hl 0 rfl) ?_
  refine roVl (As := [.long r4]) (rest := []) F (c_X3_mixedInns l D cI cS cJ G u H0 r4 h) (cw_X3_220 hts (Nat.le_of_ble_eq_true rfl) (Nat.le_of_ble_eq_true rfl)) hK hP (recv (ci := 3) (k0 := 0) hK hP rfl rfl) rfl hl.1 rfl (Nat.le_of_ble_eq_true rfl) dX3_digest_54 ⟨(Nat.le_of_ble_eq_true rfl), (Nat.le_of_ble_eq_true rfl)⟩ (fun r5 h => ?_)
  refine lv_lstore_n (lv' := [(1, .long r5), (0, .ref (G 2 0))]) hx hb dX3_digest_57 rfl hl (by decide) rfl (fun ls hl => ?_)
  refine lv_aload_n hx hb dX3_digest_58 rfl (lv_at hl 1 rfl) ?_
  refine lv_lload_n hx hb dX3_digest_59 rfl (lv_at hl 0 rfl) ?_
  refine roVl (As := [.long r5]) (rest := []) F (c_X3_mixedRoads l D cI cS cJ G u H0 r5 h) (cw_X3_224 hts (Nat.le_of_ble_eq_true rfl) (Nat.le_of_ble_eq_true rfl)) hK hP (recv (ci := 3) (k0 := 0) hK hP rfl rfl) rfl hl.1 rfl (Nat.le_of_ble_eq_true rfl) dX3_digest_60 ⟨(Nat.le_of_ble_eq_true rfl), (Nat.le_of_ble_eq_true rfl)⟩ (fun r6 h => ?_)
  refine lv_lstore_n (lv' := [(1, .long r6), (0, .ref (G 2 0))]) hx hb dX3_digest_63 rfl hl (by decide) rfl (fun ls hl => ?_)
  refine lv_aload_n hx hb dX3_digest_64 rfl (lv_at hl 1 rfl) ?_
  refine lv_lload_n hx hb dX3_digest_65 rfl (lv_at hl 0 rfl) ?_
  refine roVl (As := [.long r6]) (rest := []) F (c_X3_mixedEnvelopes l D cI cS cJ G u H0 r6 h) (cw_X3_227 hts (Nat.le_of_ble_eq_true rfl) (Nat.le_of_ble_eq_true rfl)) hK hP (recv (ci := 3) (k0 := 0) hK hP rfl rfl) rfl hl.1 rfl (Nat.le_of_ble_eq_true rfl) dX3_digest_66 ⟨(Nat.le_of_ble_eq_true rfl), (Nat.le_of_ble_eq_true rfl)⟩ (fun r7 h => ?_)
  refine lv_lstore_n (lv' := [(1, .long r7), (0, .ref (G 2 0))]) hx hb dX3_digest_69 rfl hl (by decide) rfl (fun ls hl => ?_)
  refine lv_lload_n hx hb dX3_digest_70 rfl (lv_at hl 0 rfl) ?_
  refine lv_aload_n hx hb dX3_digest_71 rfl (lv_at hl 1 rfl) ?_
  refine va_get (D := D) (ci := 3) (v := .ref (G 0 0)) (C := RX3) (T := TX3) (N := 3) hx hb hts inT3 hown hK.k hP 0 rfl rfl 0 (by decide) (hts _ q_132) (fun _ h9 => h9) rfl dX3_digest_72 ?_
  refine va_get (D := D) (ci := 2) (v := .ref ((G 0) 6)) (C := RX2) (T := TX2) (N := 12) hx hb hts inT2 hown hK.k hP 1 rfl rfl 8 (by decide) (hts _ q_67) (fun _ h9 => h9) rfl dX3_digest_75 ?_
  refine roSl (As := [.long r7, .ref ((G 0) 6)]) (rest := []) F (c_X3_mixedRow l D cI cS cJ ((G 0) 6) 4 (S_letters (N_now u)) H0 r7 h) (cw_X3_216 hts (Nat.le_of_ble_eq_true rfl) (Nat.le_of_ble_eq_true rfl)) hK (vP_one hP 7 rfl) rfl hl.1 rfl (Nat.le_of_ble_eq_true rfl) dX3_digest_78 ⟨(Nat.le_of_ble_eq_true rfl), (Nat.le_of_ble_eq_true rfl)⟩ (fun r8 h => ?_)
  refine lv_lstore_n (lv' := [(1, .long r8), (0, .ref (G 2 0))]) hx hb dX3_digest_81 rfl hl (by decide) rfl (fun ls hl => ?_)
  refine lv_iconst (v := (1 : Int32)) hx hb dX3_digest_82 (by decide) ?_
  refine lv_istore_n (lv' := [(3, .int (1 : Int32)), (1, .long r8), (0, .ref (G 2 0))]) hx hb dX3_digest_83 rfl hl (by decide) rfl (fun ls hl => ?_)
  refine lpu2 h (fun K11 : Int64 → Int32 → Prop => ∀ (x9 : Int64) (x10 : Int32) (ls : Array Slot), lv_has ls 4 [(0, .ref (G 2 0)), (1, .long x9), (3, .int x10)] → K11 x9 x10 → W p l e rm_X3_digest s m args below meth c H0 [] 0 0 Q (F0 m 84 ls [])) ?_ ?_ ?_
  · intro x9 x10 ls hl h
    exact h.elim
  · intro K11
    intro w12 x9 x10 ls hl h
    refine lv_iload_n hx hb dX3_digest_84 rfl (lv_at hl 2 rfl) ?_
    refine lv_iconst (v := (3 : Int32)) hx hb dX3_digest_85 (by decide) ?_
    refine lv_icmp_gt (tgt := 108) hx hb dX3_digest_86 (by decide) (fun c13 => ?_) (fun c13 => ?_)
    · replace h := h.1 c13
      refine lv_lload_n hx hb dX3_digest_108 rfl (lv_at hl 1 rfl) ?_
      exact hQ h dX3_digest_109
    · replace h := h.2 c13
      refine lv_lload_n hx hb dX3_digest_89 rfl (lv_at hl 1 rfl) ?_
      refine lv_aload_n hx hb dX3_digest_90 rfl (lv_at hl 0 rfl) ?_
      refine va_get (D := D) (ci := 3) (v := .ref (G 0 0)) (C := RX3) (T := TX3) (N := 3) hx hb hts inT3 hown hK.k hP 0 rfl rfl 0 (by decide) (hts _ q_132) (fun _ h9 => h9) rfl dX3_digest_91 ?_
      refine lv_iload_n hx hb dX3_digest_94 rfl (lv_at hl 2 rfl) ?_
      refine roVi (As := [.int x10]) (rest := [.long x9]) F (c_X2_leastUsedInn l D cI cS cJ (G 0) (N_now u) H0 x10 h) (cw_X3_169 hts (Nat.le_of_ble_eq_true rfl) (Nat.le_of_ble_eq_true rfl)) hK (neS hP) (recv (ci := 2) (k0 := 1) hK hP rfl rfl) rfl hl.1 rfl (Nat.le_of_ble_eq_true rfl) dX3_digest_95 ⟨(Nat.le_of_ble_eq_true rfl), (Nat.le_of_ble_eq_true rfl)⟩ (fun r14 h => ?_)
      refine roSl (As := [.long x9, .int r14]) (rest := []) F (c_X3_mixed l D cI cS cJ H0 x9 r14 h) (cw_X3_212 hts (Nat.le_of_ble_eq_true rfl) (Nat.le_of_ble_eq_true rfl)) hK vP_nil rfl hl.1 rfl (Nat.le_of_ble_eq_true rfl) dX3_digest_98 ⟨(Nat.le_of_ble_eq_true rfl), (Nat.le_of_ble_eq_true rfl)⟩ (fun r15 h => ?_)
      refine lv_lstore_n (lv' := [(1, .long r15), (0, .ref (G 2 0)), (3, .int x10)]) hx hb dX3_digest_101 rfl hl (by decide) rfl (fun ls hl => ?_)
      refine lv_iinc (v := (x10 + 1)) (lv' := [(3, .int (x10 + 1)), (1, .long r15), (0, .ref (G 2 0))]) hx hb dX3_digest_102 hl (k := 2) rfl rfl (by decide) rfl (fun ls hl => ?_)
      refine lv_goto (tgt := 84) hx hb dX3_digest_105 (by decide) ?_
      exact w12 r15 (x10 + 1) _ (lv_sub hl [2, 1, 0] rfl) h
  · intro K11 w12 h
    exact w12 r8 (1 : Int32) _ (lv_sub hl [2, 1, 0] rfl) h
