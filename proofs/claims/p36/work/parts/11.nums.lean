def wp_J9_floorMod_7cf53  (p0 : Int32) (p1 : Int32) (post : Int32 → Prop) : Prop :=
  (¬ p1 = 0) ∧ ((0 ≤ (p0 ^^^ p1) → post (p0 - p0 / p1 * p1)) ∧ (¬ 0 ≤ (p0 ^^^ p1) → ((p0 - p0 / p1 * p1) = 0 → post (p0 - p0 / p1 * p1)) ∧ (¬ (p0 - p0 / p1 * p1) = 0 → post ((p0 - p0 / p1 * p1) + p1))))
set_option maxHeartbeats 4000000 in
set_option maxRecDepth 100000 in
theorem c_J9_floorMod_7cf53 (l : Launch) (D : va_G) (cI cS cJ : ClassId)  (H0 : Heap) (p0 : Int32) (p1 : Int32) {post : Int32 → Prop} (h : wp_J9_floorMod_7cf53 p0 p1 post) : Met l yJ9_floorMod_7cf53 (wsA yJ9_floorMod_7cf53 cJ9_floorMod_7cf53 3 (some .int)) rm_J9_floorMod_7cf53 (va_Pc [.int p0, .int p1] (roP D (tysA cI cS cJ) ([]) H0)) (va_Qi (fun r (_ : Unit) => post r) (fun _ t => t.heap = H0) nF) 0 0 nF := by
  refine mkROi (by decide +kernel) (Nat.le_of_ble_eq_true rfl) (fun {p e s m args below meth c Q ls} hx hb F hts hown hK hP hl hQ => ?_)
  have hown : s.vm.findClass RJ9 = some m.cls := hown
  have F : CallFix p m c cJ9_floorMod_7cf53 3 s args wsT RJ9 := F
  have hl : lv_has ls 3 [(0, .int p0), (1, .int p1)] := hl
  unfold wp_J9_floorMod_7cf53 at h
  refine lv_iload_n hx hb dJ9_floorMod_7cf53_0 rfl (lv_at hl 0 rfl) ?_
  refine lv_iload_n hx hb dJ9_floorMod_7cf53_1 rfl (lv_at hl 1 rfl) ?_
  refine lv_irem hx hb dJ9_floorMod_7cf53_2 h.1 ?_
  replace h := h.2
  refine lv_istore_n (lv' := [(2, .int (p0 - p0 / p1 * p1)), (0, .int p0), (1, .int p1)]) hx hb dJ9_floorMod_7cf53_3 rfl hl (by decide) rfl (fun ls hl => ?_)
  refine lv_iload_n hx hb dJ9_floorMod_7cf53_4 rfl (lv_at hl 1 rfl) ?_
  refine lv_iload_n hx hb dJ9_floorMod_7cf53_5 rfl (lv_at hl 2 rfl) ?_
  refine lv_ixor hx hb dJ9_floorMod_7cf53_6 ?_
  refine lv_if_ge (tgt := 18) hx hb dJ9_floorMod_7cf53_7 (by decide) (fun c1 => ?_) (fun c1 => ?_)
  · replace h := h.1 c1
    refine lv_iload_n hx hb dJ9_floorMod_7cf53_18 rfl (lv_at hl 0 rfl) ?_
    exact hQ h dJ9_floorMod_7cf53_19
  · replace h := h.2 c1
    refine lv_iload_n hx hb dJ9_floorMod_7cf53_10 rfl (lv_at hl 0 rfl) ?_
    refine lv_if_eq (tgt := 18) hx hb dJ9_floorMod_7cf53_11 (by decide) (fun c2 => ?_) (fun c2 => ?_)
    · replace h := h.1 c2
      refine lv_iload_n hx hb dJ9_floorMod_7cf53_18 rfl (lv_at hl 0 rfl) ?_
      exact hQ h dJ9_floorMod_7cf53_19
    · replace h := h.2 c2
      refine lv_iload_n hx hb dJ9_floorMod_7cf53_14 rfl (lv_at hl 0 rfl) ?_
      refine lv_iload_n hx hb dJ9_floorMod_7cf53_15 rfl (lv_at hl 2 rfl) ?_
      refine lv_iadd hx hb dJ9_floorMod_7cf53_16 ?_
      exact hQ h dJ9_floorMod_7cf53_17

def wp_J9_min_7cf53  (p0 : Int32) (p1 : Int32) (post : Int32 → Prop) : Prop :=
  (p1 < p0 → post p1) ∧ (¬ p1 < p0 → post p0)
set_option maxHeartbeats 4000000 in
set_option maxRecDepth 100000 in
theorem c_J9_min_7cf53 (l : Launch) (D : va_G) (cI cS cJ : ClassId)  (H0 : Heap) (p0 : Int32) (p1 : Int32) {post : Int32 → Prop} (h : wp_J9_min_7cf53 p0 p1 post) : Met l yJ9_min_7cf53 (wsA yJ9_min_7cf53 cJ9_min_7cf53 2 (some .int)) rm_J9_min_7cf53 (va_Pc [.int p0, .int p1] (roP D (tysA cI cS cJ) ([]) H0)) (va_Qi (fun r (_ : Unit) => post r) (fun _ t => t.heap = H0) nF) 0 0 nF := by
  refine mkROi (by decide +kernel) (Nat.le_of_ble_eq_true rfl) (fun {p e s m args below meth c Q ls} hx hb F hts hown hK hP hl hQ => ?_)
  have hown : s.vm.findClass RJ9 = some m.cls := hown
  have F : CallFix p m c cJ9_min_7cf53 2 s args wsT RJ9 := F
  have hl : lv_has ls 2 [(0, .int p0), (1, .int p1)] := hl
  unfold wp_J9_min_7cf53 at h
  refine lv_iload_n hx hb dJ9_min_7cf53_0 rfl (lv_at hl 0 rfl) ?_
  refine lv_iload_n hx hb dJ9_min_7cf53_1 rfl (lv_at hl 1 rfl) ?_
  refine lv_icmp_gt (tgt := 9) hx hb dJ9_min_7cf53_2 (by decide) (fun c1 => ?_) (fun c1 => ?_)
  · replace h := h.1 c1
    refine lv_iload_n hx hb dJ9_min_7cf53_9 rfl (lv_at hl 1 rfl) ?_
    exact hQ h dJ9_min_7cf53_10
  · replace h := h.2 c1
    refine lv_iload_n hx hb dJ9_min_7cf53_5 rfl (lv_at hl 0 rfl) ?_
    refine lv_goto (tgt := 10) hx hb dJ9_min_7cf53_6 (by decide) ?_
    exact hQ h dJ9_min_7cf53_10

def wp_X3_refuse  (p0 : Int32) (post : Prop) : Prop :=
  (¬ p0 = (1 : Int32) → (¬ p0 = (2 : Int32) → (¬ p0 = (3 : Int32) → post) ∧ (p0 = (3 : Int32) → False)) ∧ (p0 = (2 : Int32) → False)) ∧ (p0 = (1 : Int32) → False)
set_option maxHeartbeats 4000000 in
set_option maxRecDepth 100000 in
theorem c_X3_refuse (l : Launch) (D : va_G) (cI cS cJ : ClassId)  (H0 : Heap) (p0 : Int32) {post : Prop} (h : wp_X3_refuse p0 post) : Met l yX3_refuse (wsA yX3_refuse cX3_refuse 1 none) rm_X3_refuse (va_Pc [.int p0] (roP D (tysA cI cS cJ) ([]) H0)) (va_Qv (fun (_ : Unit) => post) (fun _ t => t.heap = H0) nF) 0 0 nF := by
  refine mkROv (by decide +kernel) (Nat.le_of_ble_eq_true rfl) (fun {p e s m args below meth c Q ls} hx hb F hts hown hK hP hl hQ => ?_)
  have hown : s.vm.findClass RX3 = some m.cls := hown
  have F : CallFix p m c cX3_refuse 1 s args wsT RX3 := F
  have hl : lv_has ls 1 [(0, .int p0)] := hl
  unfold wp_X3_refuse at h
  refine lv_iload_n hx hb dX3_refuse_0 rfl (lv_at hl 0 rfl) ?_
  refine lv_iconst (v := (1 : Int32)) hx hb dX3_refuse_1 (by decide) ?_
  refine lv_icmp_ne (tgt := 15) hx hb dX3_refuse_2 (by decide) (fun c1 => ?_) (fun c1 => ?_)
  · replace h := h.1 c1
    refine lv_iload_n hx hb dX3_refuse_15 rfl (lv_at hl 0 rfl) ?_
    refine lv_iconst (v := (2 : Int32)) hx hb dX3_refuse_16 (by decide) ?_
    refine lv_icmp_ne (tgt := 30) hx hb dX3_refuse_17 (by decide) (fun c2 => ?_) (fun c2 => ?_)
    · replace h := h.1 c2
      refine lv_iload_n hx hb dX3_refuse_30 rfl (lv_at hl 0 rfl) ?_
      refine lv_iconst (v := (3 : Int32)) hx hb dX3_refuse_31 (by decide) ?_
      refine lv_icmp_ne (tgt := 45) hx hb dX3_refuse_32 (by decide) (fun c3 => ?_) (fun c3 => ?_)
      · replace h := h.1 c3
        exact hQ h dX3_refuse_45
      · replace h := h.2 c3
        exact h.elim
    · replace h := h.2 c2
      exact h.elim
  · replace h := h.2 c1
    exact h.elim

def wp_X3_isBetween  (p0 : Int32) (p1 : Int32) (p2 : Int32) (post : Int32 → Prop) : Prop :=
  (p0 < p1 → post (0 : Int32)) ∧ (¬ p0 < p1 → (p2 < p0 → post (0 : Int32)) ∧ (¬ p2 < p0 → post (1 : Int32)))
set_option maxHeartbeats 4000000 in
set_option maxRecDepth 100000 in
theorem c_X3_isBetween (l : Launch) (D : va_G) (cI cS cJ : ClassId)  (H0 : Heap) (p0 : Int32) (p1 : Int32) (p2 : Int32) {post : Int32 → Prop} (h : wp_X3_isBetween p0 p1 p2 post) : Met l yX3_isBetween (wsA yX3_isBetween cX3_isBetween 3 (some .boolean)) rm_X3_isBetween (va_Pc [.int p0, .int p1, .int p2] (roP D (tysA cI cS cJ) ([]) H0)) (va_Qi (fun r (_ : Unit) => bz r ∧ post r) (fun _ t => t.heap = H0) nF) 0 0 nF := by
  refine mkROz (by decide +kernel) (Nat.le_of_ble_eq_true rfl) (fun {p e s m args below meth c Q ls} hx hb F hts hown hK hP hl hQ => ?_)
  have hown : s.vm.findClass RX3 = some m.cls := hown
  have F : CallFix p m c cX3_isBetween 3 s args wsT RX3 := F
  have hl : lv_has ls 3 [(0, .int p0), (1, .int p1), (2, .int p2)] := hl
  unfold wp_X3_isBetween at h
  refine lv_iload_n hx hb dX3_isBetween_0 rfl (lv_at hl 0 rfl) ?_
  refine lv_iload_n hx hb dX3_isBetween_1 rfl (lv_at hl 1 rfl) ?_
  refine lv_icmp_lt (tgt := 14) hx hb dX3_isBetween_2 (by decide) (fun c1 => ?_) (fun c1 => ?_)
  · replace h := h.1 c1
    refine lv_iconst (v := (0 : Int32)) hx hb dX3_isBetween_14 (by decide) ?_
    exact hQ bz0 h dX3_isBetween_15
  · replace h := h.2 c1
    refine lv_iload_n hx hb dX3_isBetween_5 rfl (lv_at hl 0 rfl) ?_
    refine lv_iload_n hx hb dX3_isBetween_6 rfl (lv_at hl 2 rfl) ?_
    refine lv_icmp_gt (tgt := 14) hx hb dX3_isBetween_7 (by decide) (fun c2 => ?_) (fun c2 => ?_)
    · replace h := h.1 c2
      refine lv_iconst (v := (0 : Int32)) hx hb dX3_isBetween_14 (by decide) ?_
      exact hQ bz0 h dX3_isBetween_15
    · replace h := h.2 c2
      refine lv_iconst (v := (1 : Int32)) hx hb dX3_isBetween_10 (by decide) ?_
      refine lv_goto (tgt := 15) hx hb dX3_isBetween_11 (by decide) ?_
      exact hQ bz1 h dX3_isBetween_15

def wp_X3_innFault  (p0 : Int32) (post : Int32 → Prop) : Prop :=
  wp_X3_isBetween p0 (0 : Int32) (7 : Int32) (fun r1 => (r1 = 0 → post (1 : Int32)) ∧ (¬ r1 = 0 → post (0 : Int32)))
set_option maxHeartbeats 4000000 in
set_option maxRecDepth 100000 in
theorem c_X3_innFault (l : Launch) (D : va_G) (cI cS cJ : ClassId)  (H0 : Heap) (p0 : Int32) {post : Int32 → Prop} (h : wp_X3_innFault p0 post) : Met l yX3_innFault (wsA yX3_innFault cX3_innFault 1 (some .int)) rm_X3_innFault (va_Pc [.int p0] (roP D (tysA cI cS cJ) ([]) H0)) (va_Qi (fun r (_ : Unit) => post r) (fun _ t => t.heap = H0) nF) 0 0 nF := by
  refine mkROi (by decide +kernel) (Nat.le_of_ble_eq_true rfl) (fun {p e s m args below meth c Q ls} hx hb F hts hown hK hP hl hQ => ?_)
  have hown : s.vm.findClass RX3 = some m.cls := hown
  have F : CallFix p m c cX3_innFault 1 s args wsT RX3 := F
  have hl : lv_has ls 1 [(0, .int p0)] := hl
  unfold wp_X3_innFault at h
  refine lv_iload_n hx hb dX3_innFault_0 rfl (lv_at hl 0 rfl) ?_
  refine lv_iconst (v := (0 : Int32)) hx hb dX3_innFault_1 (by decide) ?_
  refine lv_bipush (v := (7 : Int32)) hx hb dX3_innFault_2 (by decide) ?_
  refine roSi (As := [.int p0, .int (0 : Int32), .int (7 : Int32)]) (rest := []) F (c_X3_isBetween l D cI cS cJ H0 p0 (0 : Int32) (7 : Int32) h) (cw_X3_96 hts (Nat.le_of_ble_eq_true rfl) (Nat.le_of_ble_eq_true rfl)) hK vP_nil rfl hl.1 rfl (Nat.le_of_ble_eq_true rfl) dX3_innFault_4 ⟨Nat.zero_le _, Nat.zero_le _⟩ (fun r1 h => ?_)
  obtain ⟨b2, h⟩ := h
  refine lv_if_eq (tgt := 14) hx hb dX3_innFault_7 (by decide) (fun c3 => ?_) (fun c3 => ?_)
  · replace h := h.1 c3
    refine lv_iconst (v := (1 : Int32)) hx hb dX3_innFault_14 (by decide) ?_
    exact hQ h dX3_innFault_15
  · replace h := h.2 c3
    refine lv_iconst (v := (0 : Int32)) hx hb dX3_innFault_10 (by decide) ?_
    refine lv_goto (tgt := 15) hx hb dX3_innFault_11 (by decide) ?_
    exact hQ h dX3_innFault_15

def wp_X3_hallFault  (p0 : Int32) (post : Int32 → Prop) : Prop :=
  wp_X3_isBetween p0 (0 : Int32) (3 : Int32) (fun r1 => (r1 = 0 → post (1 : Int32)) ∧ (¬ r1 = 0 → post (0 : Int32)))
set_option maxHeartbeats 4000000 in
set_option maxRecDepth 100000 in
theorem c_X3_hallFault (l : Launch) (D : va_G) (cI cS cJ : ClassId)  (H0 : Heap) (p0 : Int32) {post : Int32 → Prop} (h : wp_X3_hallFault p0 post) : Met l yX3_hallFault (wsA yX3_hallFault cX3_hallFault 1 (some .int)) rm_X3_hallFault (va_Pc [.int p0] (roP D (tysA cI cS cJ) ([]) H0)) (va_Qi (fun r (_ : Unit) => post r) (fun _ t => t.heap = H0) nF) 0 0 nF := by
  refine mkROi (by decide +kernel) (Nat.le_of_ble_eq_true rfl) (fun {p e s m args below meth c Q ls} hx hb F hts hown hK hP hl hQ => ?_)
  have hown : s.vm.findClass RX3 = some m.cls := hown
  have F : CallFix p m c cX3_hallFault 1 s args wsT RX3 := F
  have hl : lv_has ls 1 [(0, .int p0)] := hl
  unfold wp_X3_hallFault at h
  refine lv_iload_n hx hb dX3_hallFault_0 rfl (lv_at hl 0 rfl) ?_
  refine lv_iconst (v := (0 : Int32)) hx hb dX3_hallFault_1 (by decide) ?_
  refine lv_iconst (v := (3 : Int32)) hx hb dX3_hallFault_2 (by decide) ?_
  refine roSi (As := [.int p0, .int (0 : Int32), .int (3 : Int32)]) (rest := []) F (c_X3_isBetween l D cI cS cJ H0 p0 (0 : Int32) (3 : Int32) h) (cw_X3_96 hts (Nat.le_of_ble_eq_true rfl) (Nat.le_of_ble_eq_true rfl)) hK vP_nil rfl hl.1 rfl (Nat.le_of_ble_eq_true rfl) dX3_hallFault_3 ⟨Nat.zero_le _, Nat.zero_le _⟩ (fun r1 h => ?_)
  obtain ⟨b2, h⟩ := h
  refine lv_if_eq (tgt := 13) hx hb dX3_hallFault_6 (by decide) (fun c3 => ?_) (fun c3 => ?_)
  · replace h := h.1 c3
    refine lv_iconst (v := (1 : Int32)) hx hb dX3_hallFault_13 (by decide) ?_
    exact hQ h dX3_hallFault_14
  · replace h := h.2 c3
    refine lv_iconst (v := (0 : Int32)) hx hb dX3_hallFault_9 (by decide) ?_
    refine lv_goto (tgt := 14) hx hb dX3_hallFault_10 (by decide) ?_
    exact hQ h dX3_hallFault_14

def wp_X3_isBody  (p0 : Int32) (post : Int32 → Prop) : Prop :=
  wp_X3_isBetween p0 (0 : Int32) (9999 : Int32) (fun r1 => post r1)
set_option maxHeartbeats 4000000 in
set_option maxRecDepth 100000 in
theorem c_X3_isBody (l : Launch) (D : va_G) (cI cS cJ : ClassId)  (H0 : Heap) (p0 : Int32) {post : Int32 → Prop} (h : wp_X3_isBody p0 post) : Met l yX3_isBody (wsA yX3_isBody cX3_isBody 1 (some .boolean)) rm_X3_isBody (va_Pc [.int p0] (roP D (tysA cI cS cJ) ([]) H0)) (va_Qi (fun r (_ : Unit) => bz r ∧ post r) (fun _ t => t.heap = H0) nF) 0 0 nF := by
  refine mkROz (by decide +kernel) (Nat.le_of_ble_eq_true rfl) (fun {p e s m args below meth c Q ls} hx hb F hts hown hK hP hl hQ => ?_)
  have hown : s.vm.findClass RX3 = some m.cls := hown
  have F : CallFix p m c cX3_isBody 1 s args wsT RX3 := F
  have hl : lv_has ls 1 [(0, .int p0)] := hl
  unfold wp_X3_isBody at h
  refine lv_iload_n hx hb dX3_isBody_0 rfl (lv_at hl 0 rfl) ?_
  refine lv_iconst (v := (0 : Int32)) hx hb dX3_isBody_1 (by decide) ?_
  refine lv_sipush (v := (9999 : Int32)) hx hb dX3_isBody_2 (by decide) ?_
  refine roSi (As := [.int p0, .int (0 : Int32), .int (9999 : Int32)]) (rest := []) F (c_X3_isBetween l D cI cS cJ H0 p0 (0 : Int32) (9999 : Int32) h) (cw_X3_96 hts (Nat.le_of_ble_eq_true rfl) (Nat.le_of_ble_eq_true rfl)) hK vP_nil rfl hl.1 rfl (Nat.le_of_ble_eq_true rfl) dX3_isBody_5 ⟨Nat.zero_le _, Nat.zero_le _⟩ (fun r1 h => ?_)
  obtain ⟨b2, h⟩ := h
  exact hQ b2 h dX3_isBody_8

def wp_X3_innAndBodyFault  (p0 : Int32) (p1 : Int32) (post : Int32 → Prop) : Prop :=
  wp_X3_innFault p0 (fun r1 => (r1 = 0 → wp_X3_isBody p1 (fun r3 => (r3 = 0 → post (2 : Int32)) ∧ (¬ r3 = 0 → post (0 : Int32)))) ∧ (¬ r1 = 0 → post (1 : Int32)))
set_option maxHeartbeats 4000000 in
set_option maxRecDepth 100000 in
theorem c_X3_innAndBodyFault (l : Launch) (D : va_G) (cI cS cJ : ClassId)  (H0 : Heap) (p0 : Int32) (p1 : Int32) {post : Int32 → Prop} (h : wp_X3_innAndBodyFault p0 p1 post) : Met l yX3_innAndBodyFault (wsA yX3_innAndBodyFault cX3_innAndBodyFault 2 (some .int)) rm_X3_innAndBodyFault (va_Pc [.int p0, .int p1] (roP D (tysA cI cS cJ) ([]) H0)) (va_Qi (fun r (_ : Unit) => post r) (fun _ t => t.heap = H0) nF) 0 0 nF := by
  refine mkROi (by decide +kernel) (Nat.le_of_ble_eq_true rfl) (fun {p e s m args below meth c Q ls} hx hb F hts hown hK hP hl hQ => ?_)
  have hown : s.vm.findClass RX3 = some m.cls := hown
  have F : CallFix p m c cX3_innAndBodyFault 2 s args wsT RX3 := F
  have hl : lv_has ls 2 [(0, .int p0), (1, .int p1)] := hl
  unfold wp_X3_innAndBodyFault at h
  refine lv_iload_n hx hb dX3_innAndBodyFault_0 rfl (lv_at hl 0 rfl) ?_
  refine roSi (As := [.int p0]) (rest := []) F (c_X3_innFault l D cI cS cJ H0 p0 h) (cw_X3_30 hts (Nat.le_of_ble_eq_true rfl) (Nat.le_of_ble_eq_true rfl)) hK vP_nil rfl hl.1 rfl (Nat.le_of_ble_eq_true rfl) dX3_innAndBodyFault_1 ⟨Nat.zero_le _, Nat.zero_le _⟩ (fun r1 h => ?_)
  refine lv_if_eq (tgt := 9) hx hb dX3_innAndBodyFault_4 (by decide) (fun c2 => ?_) (fun c2 => ?_)
  · replace h := h.1 c2
    refine lv_iload_n hx hb dX3_innAndBodyFault_9 rfl (lv_at hl 1 rfl) ?_
    refine roSi (As := [.int p1]) (rest := []) F (c_X3_isBody l D cI cS cJ H0 p1 h) (cw_X3_239 hts (Nat.le_of_ble_eq_true rfl) (Nat.le_of_ble_eq_true rfl)) hK vP_nil rfl hl.1 rfl (Nat.le_of_ble_eq_true rfl) dX3_innAndBodyFault_10 ⟨Nat.zero_le _, Nat.zero_le _⟩ (fun r3 h => ?_)
    obtain ⟨b4, h⟩ := h
    refine lv_if_eq (tgt := 20) hx hb dX3_innAndBodyFault_13 (by decide) (fun c5 => ?_) (fun c5 => ?_)
    · replace h := h.1 c5
      refine lv_iconst (v := (2 : Int32)) hx hb dX3_innAndBodyFault_20 (by decide) ?_
      exact hQ h dX3_innAndBodyFault_21
    · replace h := h.2 c5
      refine lv_iconst (v := (0 : Int32)) hx hb dX3_innAndBodyFault_16 (by decide) ?_
      refine lv_goto (tgt := 21) hx hb dX3_innAndBodyFault_17 (by decide) ?_
      exact hQ h dX3_innAndBodyFault_21
  · replace h := h.2 c2
    refine lv_iconst (v := (1 : Int32)) hx hb dX3_innAndBodyFault_7 (by decide) ?_
    exact hQ h dX3_innAndBodyFault_8

def wp_X3_mixed  (p0 : Int64) (p2 : Int32) (post : Int64 → Prop) : Prop :=
  post (((31 : Int64) * p0) + (Int32.toInt64 p2))
set_option maxHeartbeats 4000000 in
set_option maxRecDepth 100000 in
theorem c_X3_mixed (l : Launch) (D : va_G) (cI cS cJ : ClassId)  (H0 : Heap) (p0 : Int64) (p2 : Int32) {post : Int64 → Prop} (h : wp_X3_mixed p0 p2 post) : Met l yX3_mixed (wsA yX3_mixed cX3_mixed 3 (some .long)) rm_X3_mixed (va_Pc [.long p0, .int p2] (roP D (tysA cI cS cJ) ([]) H0)) (va_Ql (fun r (_ : Unit) => post r) (fun _ t => t.heap = H0) nF) 0 0 nF := by
  refine mkROl (by decide +kernel) (Nat.le_of_ble_eq_true rfl) (fun {p e s m args below meth c Q ls} hx hb F hts hown hK hP hl hQ => ?_)
  have hown : s.vm.findClass RX3 = some m.cls := hown
  have F : CallFix p m c cX3_mixed 3 s args wsT RX3 := F
  have hl : lv_has ls 3 [(0, .long p0), (2, .int p2)] := hl
  unfold wp_X3_mixed at h
  refine lv_ldc2 (v := (31 : Int64)) hx hb hown (hts _ q_251) dX3_mixed_0 ?_
  refine lv_lload_n hx hb dX3_mixed_3 rfl (lv_at hl 0 rfl) ?_
  refine lv_lmul hx hb dX3_mixed_4 ?_
  refine lv_iload_n hx hb dX3_mixed_5 rfl (lv_at hl 1 rfl) ?_
  refine lv_i2l (v := (Int32.toInt64 p2)) hx hb dX3_mixed_6 rfl ?_
  refine lv_ladd hx hb dX3_mixed_7 ?_
  exact hQ h dX3_mixed_8

def wp_X3_mixedRow (n0 : Nat) (f0 : Nat → Int32) (p0 : Int64) (post : Int64 → Prop) : Prop :=
  LP2 (fun (K3 : Int64 → Int32 → Prop) (x1 : Int64) (x2 : Int32) => ((nI n0) ≤ x2 → post x1) ∧ (¬ (nI n0) ≤ x2 → (vp_in x2 n0) ∧ (wp_X3_mixed x1 (f0 (Int32.toNatClampNeg x2)) (fun r6 => K3 r6 (x2 + 1))))) p0 (0 : Int32)
set_option maxHeartbeats 4000000 in
set_option maxRecDepth 100000 in
theorem c_X3_mixedRow (l : Launch) (D : va_G) (cI cS cJ : ClassId) (r0 : Nat) (n0 : Nat) (f0 : Nat → Int32) (H0 : Heap) (p0 : Int64) {post : Int64 → Prop} (h : wp_X3_mixedRow n0 f0 p0 post) : Met l yX3_mixedRow (wsA yX3_mixedRow cX3_mixedRow 6 (some .long)) rm_X3_mixedRow (va_Pc [.long p0, .ref r0] (roP D (tysA cI cS cJ) ([(r0, .inl (cI, n0, .inl f0))]) H0)) (va_Ql (fun r (_ : Unit) => post r) (fun _ t => t.heap = H0) nF) 0 0 nF := by
  refine mkROl (by decide +kernel) (Nat.le_of_ble_eq_true rfl) (fun {p e s m args below meth c Q ls} hx hb F hts hown hK hP hl hQ => ?_)
  have hown : s.vm.findClass RX3 = some m.cls := hown
  have F : CallFix p m c cX3_mixedRow 6 s args wsT RX3 := F
  have hl : lv_has ls 6 [(0, .long p0), (2, .ref r0)] := hl
  unfold wp_X3_mixedRow at h
  refine lv_lload_n hx hb dX3_mixedRow_0 rfl (lv_at hl 0 rfl) ?_
  refine lv_lstore_n (lv' := [(3, .long p0), (0, .long p0), (2, .ref r0)]) hx hb dX3_mixedRow_1 rfl hl (by decide) rfl (fun ls hl => ?_)
  refine lv_iconst (v := (0 : Int32)) hx hb dX3_mixedRow_2 (by decide) ?_
  refine lv_istore (lv' := [(5, .int (0 : Int32)), (3, .long p0), (0, .long p0), (2, .ref r0)]) hx hb dX3_mixedRow_3 hl (by decide) rfl (fun ls hl => ?_)
  refine lpu2 h (fun K3 : Int64 → Int32 → Prop => ∀ (x1 : Int64) (x2 : Int32) (ls : Array Slot), lv_has ls 6 [(2, .ref r0), (3, .long x1), (5, .int x2)] → K3 x1 x2 → W p l e rm_X3_mixedRow s m args below meth c H0 [] 0 0 Q (F0 m 5 ls [])) ?_ ?_ ?_
  · intro x1 x2 ls hl h
    exact h.elim
  · intro K3
    intro w4 x1 x2 ls hl h
    refine lv_iload hx hb dX3_mixedRow_5 (lv_at hl 2 rfl) ?_
    refine lv_aload_n hx hb dX3_mixedRow_7 rfl (lv_at hl 0 rfl) ?_
    refine va_alen (v := (nI n0)) hx hb hK.k hP 0 0 rfl rfl rfl dX3_mixedRow_8 ?_
    refine lv_icmp_ge (tgt := 27) hx hb dX3_mixedRow_9 (by decide) (fun c5 => ?_) (fun c5 => ?_)
    · replace h := h.1 c5
      refine lv_lload_n hx hb dX3_mixedRow_27 rfl (lv_at hl 1 rfl) ?_
      exact hQ h dX3_mixedRow_28
    · replace h := h.2 c5
      refine lv_lload_n hx hb dX3_mixedRow_12 rfl (lv_at hl 1 rfl) ?_
      refine lv_aload_n hx hb dX3_mixedRow_13 rfl (lv_at hl 0 rfl) ?_
      refine lv_iload hx hb dX3_mixedRow_14 (lv_at hl 2 rfl) ?_
      refine va_iald hx hb hK.k hP 0 0 rfl rfl h.1 dX3_mixedRow_16 ?_
      replace h := h.2
      refine roSl (As := [.long x1, .int (f0 (Int32.toNatClampNeg x2))]) (rest := []) F (c_X3_mixed l D cI cS cJ H0 x1 (f0 (Int32.toNatClampNeg x2)) h) (cw_X3_212 hts (Nat.le_of_ble_eq_true rfl) (Nat.le_of_ble_eq_true rfl)) hK vP_nil rfl hl.1 rfl (Nat.le_of_ble_eq_true rfl) dX3_mixedRow_17 ⟨Nat.zero_le _, Nat.zero_le _⟩ (fun r6 h => ?_)
      refine lv_lstore_n (lv' := [(3, .long r6), (2, .ref r0), (5, .int x2)]) hx hb dX3_mixedRow_20 rfl hl (by decide) rfl (fun ls hl => ?_)
      refine lv_iinc (v := (x2 + 1)) (lv' := [(5, .int (x2 + 1)), (3, .long r6), (2, .ref r0)]) hx hb dX3_mixedRow_21 hl (k := 2) rfl rfl (by decide) rfl (fun ls hl => ?_)
      refine lv_goto (tgt := 5) hx hb dX3_mixedRow_24 (by decide) ?_
      exact w4 r6 (x2 + 1) _ (lv_sub hl [2, 1, 0] rfl) h
  · intro K3 w4 h
    exact w4 p0 (0 : Int32) _ (lv_sub hl [3, 1, 0] rfl) h

def wp_X3_covered  (p0 : Int32) (p1 : Int32) (post : Int32 → Prop) : Prop :=
  wp_J9_floorMod_7cf53 (((7 : Int32) * p0) + p1) (10000 : Int32) (fun r1 => post r1)
set_option maxHeartbeats 4000000 in
set_option maxRecDepth 100000 in
theorem c_X3_covered (l : Launch) (D : va_G) (cI cS cJ : ClassId)  (H0 : Heap) (p0 : Int32) (p1 : Int32) {post : Int32 → Prop} (h : wp_X3_covered p0 p1 post) : Met l yX3_covered (wsA yX3_covered cX3_covered 2 (some .int)) rm_X3_covered (va_Pc [.int p0, .int p1] (roP D (tysA cI cS cJ) ([]) H0)) (va_Qi (fun r (_ : Unit) => post r) (fun _ t => t.heap = H0) nF) 0 0 nF := by
  refine mkROi (by decide +kernel) (Nat.le_of_ble_eq_true rfl) (fun {p e s m args below meth c Q ls} hx hb F hts hown hK hP hl hQ => ?_)
  have hown : s.vm.findClass RX3 = some m.cls := hown
  have F : CallFix p m c cX3_covered 2 s args wsT RX3 := F
  have hl : lv_has ls 2 [(0, .int p0), (1, .int p1)] := hl
  unfold wp_X3_covered at h
  refine lv_bipush (v := (7 : Int32)) hx hb dX3_covered_0 (by decide) ?_
  refine lv_iload_n hx hb dX3_covered_2 rfl (lv_at hl 0 rfl) ?_
  refine lv_imul hx hb dX3_covered_3 ?_
  refine lv_iload_n hx hb dX3_covered_4 rfl (lv_at hl 1 rfl) ?_
  refine lv_iadd hx hb dX3_covered_5 ?_
  refine lv_sipush (v := (10000 : Int32)) hx hb dX3_covered_6 (by decide) ?_
  refine roSi (As := [.int (((7 : Int32) * p0) + p1), .int (10000 : Int32)]) (rest := []) F (c_J9_floorMod_7cf53 l D cI cS cJ H0 (((7 : Int32) * p0) + p1) (10000 : Int32) h) (cw_X3_263 hts (Nat.le_of_ble_eq_true rfl) (Nat.le_of_ble_eq_true rfl)) hK vP_nil rfl hl.1 rfl (Nat.le_of_ble_eq_true rfl) dX3_covered_9 ⟨Nat.zero_le _, Nat.zero_le _⟩ (fun r1 h => ?_)
  exact hQ h dX3_covered_12

def wp_X3_uncovered  (p0 : Int32) (p1 : Int32) (post : Int32 → Prop) : Prop :=
  wp_J9_floorMod_7cf53 ((7143 : Int32) * (p0 - p1)) (10000 : Int32) (fun r1 => post r1)
set_option maxHeartbeats 4000000 in
set_option maxRecDepth 100000 in
theorem c_X3_uncovered (l : Launch) (D : va_G) (cI cS cJ : ClassId)  (H0 : Heap) (p0 : Int32) (p1 : Int32) {post : Int32 → Prop} (h : wp_X3_uncovered p0 p1 post) : Met l yX3_uncovered (wsA yX3_uncovered cX3_uncovered 2 (some .int)) rm_X3_uncovered (va_Pc [.int p0, .int p1] (roP D (tysA cI cS cJ) ([]) H0)) (va_Qi (fun r (_ : Unit) => post r) (fun _ t => t.heap = H0) nF) 0 0 nF := by
  refine mkROi (by decide +kernel) (Nat.le_of_ble_eq_true rfl) (fun {p e s m args below meth c Q ls} hx hb F hts hown hK hP hl hQ => ?_)
  have hown : s.vm.findClass RX3 = some m.cls := hown
  have F : CallFix p m c cX3_uncovered 2 s args wsT RX3 := F
  have hl : lv_has ls 2 [(0, .int p0), (1, .int p1)] := hl
  unfold wp_X3_uncovered at h
  refine lv_sipush (v := (7143 : Int32)) hx hb dX3_uncovered_0 (by decide) ?_
  refine lv_iload_n hx hb dX3_uncovered_3 rfl (lv_at hl 0 rfl) ?_
  refine lv_iload_n hx hb dX3_uncovered_4 rfl (lv_at hl 1 rfl) ?_
  refine lv_isub hx hb dX3_uncovered_5 ?_
  refine lv_imul hx hb dX3_uncovered_6 ?_
  refine lv_sipush (v := (10000 : Int32)) hx hb dX3_uncovered_7 (by decide) ?_
  refine roSi (As := [.int ((7143 : Int32) * (p0 - p1)), .int (10000 : Int32)]) (rest := []) F (c_J9_floorMod_7cf53 l D cI cS cJ H0 ((7143 : Int32) * (p0 - p1)) (10000 : Int32) h) (cw_X3_263 hts (Nat.le_of_ble_eq_true rfl) (Nat.le_of_ble_eq_true rfl)) hK vP_nil rfl hl.1 rfl (Nat.le_of_ble_eq_true rfl) dX3_uncovered_10 ⟨Nat.zero_le _, Nat.zero_le _⟩ (fun r1 h => ?_)
  exact hQ h dX3_uncovered_13

def wp_X3_read (n0 : Nat) (f0 : Nat → Int32) (p1 : Int32) (post : Int32 → Prop) : Prop :=
  (p1 < 0 → post (0 : Int32)) ∧ (¬ p1 < 0 → ((nI n0) ≤ p1 → post (0 : Int32)) ∧ (¬ (nI n0) ≤ p1 → (vp_in p1 n0) ∧ (post (f0 (Int32.toNatClampNeg p1)))))
set_option maxHeartbeats 4000000 in
set_option maxRecDepth 100000 in
theorem c_X3_read (l : Launch) (D : va_G) (cI cS cJ : ClassId) (r0 : Nat) (n0 : Nat) (f0 : Nat → Int32) (H0 : Heap) (p1 : Int32) {post : Int32 → Prop} (h : wp_X3_read n0 f0 p1 post) : Met l yX3_read (wsA yX3_read cX3_read 2 (some .int)) rm_X3_read (va_Pc [.ref r0, .int p1] (roP D (tysA cI cS cJ) ([(r0, .inl (cI, n0, .inl f0))]) H0)) (va_Qi (fun r (_ : Unit) => post r) (fun _ t => t.heap = H0) nF) 0 0 nF := by
  refine mkROi (by decide +kernel) (Nat.le_of_ble_eq_true rfl) (fun {p e s m args below meth c Q ls} hx hb F hts hown hK hP hl hQ => ?_)
  have hown : s.vm.findClass RX3 = some m.cls := hown
  have F : CallFix p m c cX3_read 2 s args wsT RX3 := F
  have hl : lv_has ls 2 [(0, .ref r0), (1, .int p1)] := hl
  unfold wp_X3_read at h
  refine lv_iload_n hx hb dX3_read_0 rfl (lv_at hl 1 rfl) ?_
  refine lv_if_lt (tgt := 16) hx hb dX3_read_1 (by decide) (fun c1 => ?_) (fun c1 => ?_)
  · replace h := h.1 c1
    refine lv_iconst (v := (0 : Int32)) hx hb dX3_read_16 (by decide) ?_
    exact hQ h dX3_read_17
  · replace h := h.2 c1
    refine lv_iload_n hx hb dX3_read_4 rfl (lv_at hl 1 rfl) ?_
    refine lv_aload_n hx hb dX3_read_5 rfl (lv_at hl 0 rfl) ?_
    refine va_alen (v := (nI n0)) hx hb hK.k hP 0 0 rfl rfl rfl dX3_read_6 ?_
    refine lv_icmp_ge (tgt := 16) hx hb dX3_read_7 (by decide) (fun c2 => ?_) (fun c2 => ?_)
    · replace h := h.1 c2
      refine lv_iconst (v := (0 : Int32)) hx hb dX3_read_16 (by decide) ?_
      exact hQ h dX3_read_17
    · replace h := h.2 c2
      refine lv_aload_n hx hb dX3_read_10 rfl (lv_at hl 0 rfl) ?_
      refine lv_iload_n hx hb dX3_read_11 rfl (lv_at hl 1 rfl) ?_
      refine va_iald hx hb hK.k hP 0 0 rfl rfl h.1 dX3_read_12 ?_
      replace h := h.2
      refine lv_goto (tgt := 17) hx hb dX3_read_13 (by decide) ?_
      exact hQ h dX3_read_17

def wp_X3_write (n0 : Nat) (f0 : Nat → Int32) (p1 : Int32) (p2 : Int32) (post : (Nat → Int32) → Prop) : Prop :=
  (p1 < 0 → post f0) ∧ (¬ p1 < 0 → ((nI n0) ≤ p1 → post f0) ∧ (¬ (nI n0) ≤ p1 → (vp_in p1 n0) ∧ (post (upd f0 (Int32.toNatClampNeg p1) p2))))
set_option maxHeartbeats 4000000 in
set_option maxRecDepth 100000 in
theorem c_X3_write (l : Launch) (D : va_G) (cI cS cJ : ClassId) (r0 : Nat) (n0 : Nat) (f0 : Nat → Int32) (sz : Nat) (p1 : Int32) (p2 : Int32) {post : (Nat → Int32) → Prop} (h : wp_X3_write n0 f0 p1 p2 post) : Met l yX3_write (wsA yX3_write cX3_write 3 none) rm_X3_write (va_Pc [.ref r0, .int p1, .int p2] (rwP D (tysA cI cS cJ) ([(r0, .inl (cI, n0, .inl f0))]) sz)) (va_Qv post (fun u9 t => va_P D vwCl ((fun f9 => [(r0, .inl (cI, n0, .inl f9))]) u9) t.heap ∧ va_D (va_A ([(r0, .inl (cI, n0, .inl f0))]) sz) ((fun f9 => [(r0, .inl (cI, n0, .inl f9))]) u9)) (va_A ([(r0, .inl (cI, n0, .inl f0))]) sz)) 0 0 (va_A ([(r0, .inl (cI, n0, .inl f0))]) sz) := by
  refine mkRWv (wf := (fun f9 => [(r0, .inl (cI, n0, .inl f9))])) (by decide +kernel) (Nat.le_of_ble_eq_true rfl) (fun {p e s m args below meth c Q ls A H0 H locs} hx hb F hts hown hin hK hP hD hS hA hl hQ => ?_)
  have hown : s.vm.findClass RX3 = some m.cls := hown
  have F : CallFix p m c cX3_write 3 s args wsT RX3 := F
  have hl : lv_has ls 3 [(0, .ref r0), (1, .int p1), (2, .int p2)] := hl
  unfold wp_X3_write at h
  refine lv_iload_n hx hb dX3_write_0 rfl (lv_at hl 1 rfl) ?_
  refine lv_if_lt (tgt := 14) hx hb dX3_write_1 (by decide) (fun c1 => ?_) (fun c1 => ?_)
  · replace h := h.1 c1
    exact hQ h hP hD hS dX3_write_14
  · replace h := h.2 c1
    refine lv_iload_n hx hb dX3_write_4 rfl (lv_at hl 1 rfl) ?_
    refine lv_aload_n hx hb dX3_write_5 rfl (lv_at hl 0 rfl) ?_
    refine va_alen (v := (nI n0)) hx hb hK.k hP 0 0 rfl rfl rfl dX3_write_6 ?_
    refine lv_icmp_ge (tgt := 14) hx hb dX3_write_7 (by decide) (fun c2 => ?_) (fun c2 => ?_)
    · replace h := h.1 c2
      exact hQ h hP hD hS dX3_write_14
    · replace h := h.2 c2
      refine lv_aload_n hx hb dX3_write_10 rfl (lv_at hl 0 rfl) ?_
      refine lv_iload_n hx hb dX3_write_11 rfl (lv_at hl 1 rfl) ?_
      refine lv_iload_n hx hb dX3_write_12 rfl (lv_at hl 2 rfl) ?_
      refine va_iast hx hb hK.k hP hD hS 0 0 rfl rfl h.1 dX3_write_13 (fun H locs hP hD hS => ?_)
      replace h := h.2
      have hP : va_P D vwCl ([(r0, .inl (cI, n0, .inl (upd f0 (Int32.toNatClampNeg p1) p2)))]) H := hP
      have hD : va_D A ([(r0, .inl (cI, n0, .inl (upd f0 (Int32.toNatClampNeg p1) p2)))]) := hD
      exact hQ h hP hD hS dX3_write_14
