def wp_X4_thrown (u : Md)  (post : Int32 → Prop) : Prop :=
  post (M_thrown u)
set_option maxHeartbeats 4000000 in
set_option maxRecDepth 100000 in
theorem c_X4_thrown (l : Launch) (D : va_G) (cI cS cJ : ClassId) (a : Nat → Nat) (u : Md) (H0 : Heap)  {post : Int32 → Prop} (h : wp_X4_thrown u post) : Met l yX4_thrown (wsA yX4_thrown cX4_thrown 1 (some .int)) rm_X4_thrown (va_Pc [.ref (a 0)] (roP D (tysA cI cS cJ) (mdW cI a u) H0)) (va_Qi (fun r (_ : Unit) => post r) (fun _ t => t.heap = H0) nF) 0 0 nF := by
  refine mkROi (by decide +kernel) (Nat.le_of_ble_eq_true rfl) (fun {p e s m args below meth c Q ls} hx hb F hts hown hK hP hl hQ => ?_)
  have hown : s.vm.findClass RX4 = some m.cls := hown
  have F : CallFix p m c cX4_thrown 1 s args wsT RX4 := F
  have hl : lv_has ls 1 [(0, .ref (a 0))] := hl
  unfold wp_X4_thrown at h
  refine lv_aload_n hx hb dX4_thrown_0 rfl (lv_at hl 0 rfl) ?_
  refine va_get (D := D) (ci := 4) (v := .int (M_thrown u)) (C := RX4) (T := TX4) (N := 12) hx hb hts inT4 hown hK.k hP 0 rfl rfl 0 (by decide) (hts _ q_819) (fun _ h9 => h9) rfl dX4_thrown_1 ?_
  exact hQ h dX4_thrown_4

def wp_X4_in  (p0 : Int32) (p1 : Int32) (p2 : Int32) (post : Int32 → Prop) : Prop :=
  (p0 < p1 → post (0 : Int32)) ∧ (¬ p0 < p1 → (p2 < p0 → post (0 : Int32)) ∧ (¬ p2 < p0 → post (1 : Int32)))
set_option maxHeartbeats 4000000 in
set_option maxRecDepth 100000 in
theorem c_X4_in (l : Launch) (D : va_G) (cI cS cJ : ClassId)  (H0 : Heap) (p0 : Int32) (p1 : Int32) (p2 : Int32) {post : Int32 → Prop} (h : wp_X4_in p0 p1 p2 post) : Met l yX4_in (wsA yX4_in cX4_in 3 (some .boolean)) rm_X4_in (va_Pc [.int p0, .int p1, .int p2] (roP D (tysA cI cS cJ) ([]) H0)) (va_Qi (fun r (_ : Unit) => bz r ∧ post r) (fun _ t => t.heap = H0) nF) 0 0 nF := by
  refine mkROz (by decide +kernel) (Nat.le_of_ble_eq_true rfl) (fun {p e s m args below meth c Q ls} hx hb F hts hown hK hP hl hQ => ?_)
  have hown : s.vm.findClass RX4 = some m.cls := hown
  have F : CallFix p m c cX4_in 3 s args wsT RX4 := F
  have hl : lv_has ls 3 [(0, .int p0), (1, .int p1), (2, .int p2)] := hl
  unfold wp_X4_in at h
  refine lv_iload_n hx hb dX4_in_0 rfl (lv_at hl 0 rfl) ?_
  refine lv_iload_n hx hb dX4_in_1 rfl (lv_at hl 1 rfl) ?_
  refine lv_icmp_lt (tgt := 14) hx hb dX4_in_2 (by decide) (fun c1 => ?_) (fun c1 => ?_)
  · replace h := h.1 c1
    refine lv_iconst (v := (0 : Int32)) hx hb dX4_in_14 (by decide) ?_
    exact hQ bz0 h dX4_in_15
  · replace h := h.2 c1
    refine lv_iload_n hx hb dX4_in_5 rfl (lv_at hl 0 rfl) ?_
    refine lv_iload_n hx hb dX4_in_6 rfl (lv_at hl 2 rfl) ?_
    refine lv_icmp_gt (tgt := 14) hx hb dX4_in_7 (by decide) (fun c2 => ?_) (fun c2 => ?_)
    · replace h := h.1 c2
      refine lv_iconst (v := (0 : Int32)) hx hb dX4_in_14 (by decide) ?_
      exact hQ bz0 h dX4_in_15
    · replace h := h.2 c2
      refine lv_iconst (v := (1 : Int32)) hx hb dX4_in_10 (by decide) ?_
      refine lv_goto (tgt := 15) hx hb dX4_in_11 (by decide) ?_
      exact hQ bz1 h dX4_in_15

def wp_X4_holds (u : Md) (p1 : Int32) (post : Int32 → Md → Prop) : Prop :=
  (¬ p1 = 0 → post (0 : Int32) (sM_thrown u p1)) ∧ (p1 = 0 → post (1 : Int32) (sM_thrown u p1))
set_option maxHeartbeats 4000000 in
set_option maxRecDepth 100000 in
theorem c_X4_holds (l : Launch) (D : va_G) (cI cS cJ : ClassId) (a : Nat → Nat) (u : Md) (sz : Nat) (p1 : Int32) {post : Int32 → Md → Prop} (h : wp_X4_holds u p1 post) : Met l yX4_holds (wsA yX4_holds cX4_holds 2 (some .boolean)) rm_X4_holds (va_Pc [.ref (a 0), .int p1] (rwP D (tysA cI cS cJ) (mdW cI a u) sz)) (va_Qi (fun r u9 => bz r ∧ post r u9) (fun u9 t => va_P D vwCl ((mdW cI a) u9) t.heap ∧ va_D (va_A (mdW cI a u) sz) ((mdW cI a) u9)) (va_A (mdW cI a u) sz)) 0 0 (va_A (mdW cI a u) sz) := by
  refine mkRWz (wf := (mdW cI a)) (by decide +kernel) (Nat.le_of_ble_eq_true rfl) (fun {p e s m args below meth c Q ls A H0 H locs} hx hb F hts hown hK hP hD hS hA hl hQ => ?_)
  have hown : s.vm.findClass RX4 = some m.cls := hown
  have F : CallFix p m c cX4_holds 2 s args wsT RX4 := F
  have hl : lv_has ls 2 [(0, .ref (a 0)), (1, .int p1)] := hl
  unfold wp_X4_holds at h
  refine lv_aload_n hx hb dX4_holds_0 rfl (lv_at hl 0 rfl) ?_
  refine lv_iload_n hx hb dX4_holds_1 rfl (lv_at hl 1 rfl) ?_
  refine va_put (D := D) (ci := 4) (v := .int p1) (ty := .int) (C := RX4) (T := TX4) (N := 12) hx hb hts inT4 tyX4 tyX4_ok nmX4 hown hK.k hP hD hS 0 rfl rfl 0 (by decide) (hts _ q_819) (fun _ h9 => h9) rfl (by decide +kernel) rfl rfl (Nat.le_of_ble_eq_true rfl) dX4_holds_2 (fun H locs hP hD hS => ?_)
  have hP : va_P D vwCl (mdW cI a (sM_thrown u p1)) H := hP
  have hD : va_D A (mdW cI a (sM_thrown u p1)) := hD
  refine lv_iload_n hx hb dX4_holds_5 rfl (lv_at hl 1 rfl) ?_
  refine lv_if_ne (tgt := 13) hx hb dX4_holds_6 (by decide) (fun c1 => ?_) (fun c1 => ?_)
  · replace h := h.1 c1
    refine lv_iconst (v := (0 : Int32)) hx hb dX4_holds_13 (by decide) ?_
    exact hQ bz0 h hP hD hS dX4_holds_14
  · replace h := h.2 c1
    refine lv_iconst (v := (1 : Int32)) hx hb dX4_holds_9 (by decide) ?_
    refine lv_goto (tgt := 14) hx hb dX4_holds_10 (by decide) ?_
    exact hQ bz1 h hP hD hS dX4_holds_14

def wp_X4_told (u : Md) (p1 : Int32) (post : Int32 → Md → Prop) : Prop :=
  post p1 (sM_thrown u (0 : Int32))
set_option maxHeartbeats 4000000 in
set_option maxRecDepth 100000 in
theorem c_X4_told (l : Launch) (D : va_G) (cI cS cJ : ClassId) (a : Nat → Nat) (u : Md) (sz : Nat) (p1 : Int32) {post : Int32 → Md → Prop} (h : wp_X4_told u p1 post) : Met l yX4_told (wsA yX4_told cX4_told 2 (some .int)) rm_X4_told (va_Pc [.ref (a 0), .int p1] (rwP D (tysA cI cS cJ) (mdW cI a u) sz)) (va_Qi post (fun u9 t => va_P D vwCl ((mdW cI a) u9) t.heap ∧ va_D (va_A (mdW cI a u) sz) ((mdW cI a) u9)) (va_A (mdW cI a u) sz)) 0 0 (va_A (mdW cI a u) sz) := by
  refine mkRWi (wf := (mdW cI a)) (by decide +kernel) (Nat.le_of_ble_eq_true rfl) (fun {p e s m args below meth c Q ls A H0 H locs} hx hb F hts hown hK hP hD hS hA hl hQ => ?_)
  have hown : s.vm.findClass RX4 = some m.cls := hown
  have F : CallFix p m c cX4_told 2 s args wsT RX4 := F
  have hl : lv_has ls 2 [(0, .ref (a 0)), (1, .int p1)] := hl
  unfold wp_X4_told at h
  refine lv_aload_n hx hb dX4_told_0 rfl (lv_at hl 0 rfl) ?_
  refine lv_iconst (v := (0 : Int32)) hx hb dX4_told_1 (by decide) ?_
  refine va_put (D := D) (ci := 4) (v := .int (0 : Int32)) (ty := .int) (C := RX4) (T := TX4) (N := 12) hx hb hts inT4 tyX4 tyX4_ok nmX4 hown hK.k hP hD hS 0 rfl rfl 0 (by decide) (hts _ q_819) (fun _ h9 => h9) rfl (by decide +kernel) rfl rfl (Nat.le_of_ble_eq_true rfl) dX4_told_2 (fun H locs hP hD hS => ?_)
  have hP : va_P D vwCl (mdW cI a (sM_thrown u (0 : Int32))) H := hP
  have hD : va_D A (mdW cI a (sM_thrown u (0 : Int32))) := hD
  refine lv_iload_n hx hb dX4_told_5 rfl (lv_at hl 1 rfl) ?_
  exact hQ h hP hD hS dX4_told_6

def wp_X4_isInn  (p0 : Int32) (post : Int32 → Prop) : Prop :=
  wp_X4_in p0 (0 : Int32) (7 : Int32) (fun r1 => post r1)
set_option maxHeartbeats 4000000 in
set_option maxRecDepth 100000 in
theorem c_X4_isInn (l : Launch) (D : va_G) (cI cS cJ : ClassId)  (H0 : Heap) (p0 : Int32) {post : Int32 → Prop} (h : wp_X4_isInn p0 post) : Met l yX4_isInn (wsA yX4_isInn cX4_isInn 1 (some .boolean)) rm_X4_isInn (va_Pc [.int p0] (roP D (tysA cI cS cJ) ([]) H0)) (va_Qi (fun r (_ : Unit) => bz r ∧ post r) (fun _ t => t.heap = H0) nF) 0 0 nF := by
  refine mkROz (by decide +kernel) (Nat.le_of_ble_eq_true rfl) (fun {p e s m args below meth c Q ls} hx hb F hts hown hK hP hl hQ => ?_)
  have hown : s.vm.findClass RX4 = some m.cls := hown
  have F : CallFix p m c cX4_isInn 1 s args wsT RX4 := F
  have hl : lv_has ls 1 [(0, .int p0)] := hl
  unfold wp_X4_isInn at h
  refine lv_iload_n hx hb dX4_isInn_0 rfl (lv_at hl 0 rfl) ?_
  refine lv_iconst (v := (0 : Int32)) hx hb dX4_isInn_1 (by decide) ?_
  refine lv_bipush (v := (7 : Int32)) hx hb dX4_isInn_2 (by decide) ?_
  refine roSi (As := [.int p0, .int (0 : Int32), .int (7 : Int32)]) (rest := []) F (c_X4_in l D cI cS cJ H0 p0 (0 : Int32) (7 : Int32) h) (cw_X4_20 hts (Nat.le_of_ble_eq_true rfl) (Nat.le_of_ble_eq_true rfl)) hK vP_nil rfl hl.1 rfl (Nat.le_of_ble_eq_true rfl) dX4_isInn_4 ⟨Nat.zero_le _, Nat.zero_le _⟩ (fun r1 h => ?_)
  obtain ⟨b2, h⟩ := h
  exact hQ b2 h dX4_isInn_7

def wp_X4_isHall  (p0 : Int32) (post : Int32 → Prop) : Prop :=
  wp_X4_in p0 (0 : Int32) (3 : Int32) (fun r1 => post r1)
set_option maxHeartbeats 4000000 in
set_option maxRecDepth 100000 in
theorem c_X4_isHall (l : Launch) (D : va_G) (cI cS cJ : ClassId)  (H0 : Heap) (p0 : Int32) {post : Int32 → Prop} (h : wp_X4_isHall p0 post) : Met l yX4_isHall (wsA yX4_isHall cX4_isHall 1 (some .boolean)) rm_X4_isHall (va_Pc [.int p0] (roP D (tysA cI cS cJ) ([]) H0)) (va_Qi (fun r (_ : Unit) => bz r ∧ post r) (fun _ t => t.heap = H0) nF) 0 0 nF := by
  refine mkROz (by decide +kernel) (Nat.le_of_ble_eq_true rfl) (fun {p e s m args below meth c Q ls} hx hb F hts hown hK hP hl hQ => ?_)
  have hown : s.vm.findClass RX4 = some m.cls := hown
  have F : CallFix p m c cX4_isHall 1 s args wsT RX4 := F
  have hl : lv_has ls 1 [(0, .int p0)] := hl
  unfold wp_X4_isHall at h
  refine lv_iload_n hx hb dX4_isHall_0 rfl (lv_at hl 0 rfl) ?_
  refine lv_iconst (v := (0 : Int32)) hx hb dX4_isHall_1 (by decide) ?_
  refine lv_iconst (v := (3 : Int32)) hx hb dX4_isHall_2 (by decide) ?_
  refine roSi (As := [.int p0, .int (0 : Int32), .int (3 : Int32)]) (rest := []) F (c_X4_in l D cI cS cJ H0 p0 (0 : Int32) (3 : Int32) h) (cw_X4_20 hts (Nat.le_of_ble_eq_true rfl) (Nat.le_of_ble_eq_true rfl)) hK vP_nil rfl hl.1 rfl (Nat.le_of_ble_eq_true rfl) dX4_isHall_3 ⟨Nat.zero_le _, Nat.zero_le _⟩ (fun r1 h => ?_)
  obtain ⟨b2, h⟩ := h
  exact hQ b2 h dX4_isHall_6

def wp_X4_isRoad (u : Md) (p1 : Int32) (post : Int32 → Prop) : Prop :=
  (vp_in (0 : Int32) 854) ∧ (wp_X4_in p1 (0 : Int32) (((M_s u) (Int32.toNatClampNeg (0 : Int32))) - (1 : Int32)) (fun r1 => post r1))
set_option maxHeartbeats 4000000 in
set_option maxRecDepth 100000 in
theorem c_X4_isRoad (l : Launch) (D : va_G) (cI cS cJ : ClassId) (a : Nat → Nat) (u : Md) (H0 : Heap) (p1 : Int32) {post : Int32 → Prop} (h : wp_X4_isRoad u p1 post) : Met l yX4_isRoad (wsA yX4_isRoad cX4_isRoad 2 (some .boolean)) rm_X4_isRoad (va_Pc [.ref (a 0), .int p1] (roP D (tysA cI cS cJ) (mdW cI a u) H0)) (va_Qi (fun r (_ : Unit) => bz r ∧ post r) (fun _ t => t.heap = H0) nF) 0 0 nF := by
  refine mkROz (by decide +kernel) (Nat.le_of_ble_eq_true rfl) (fun {p e s m args below meth c Q ls} hx hb F hts hown hK hP hl hQ => ?_)
  have hown : s.vm.findClass RX4 = some m.cls := hown
  have F : CallFix p m c cX4_isRoad 2 s args wsT RX4 := F
  have hl : lv_has ls 2 [(0, .ref (a 0)), (1, .int p1)] := hl
  unfold wp_X4_isRoad at h
  refine lv_iload_n hx hb dX4_isRoad_0 rfl (lv_at hl 1 rfl) ?_
  refine lv_iconst (v := (0 : Int32)) hx hb dX4_isRoad_1 (by decide) ?_
  refine lv_aload_n hx hb dX4_isRoad_2 rfl (lv_at hl 0 rfl) ?_
  refine va_get (D := D) (ci := 4) (v := .ref (a 1)) (C := RX4) (T := TX4) (N := 12) hx hb hts inT4 hown hK.k hP 0 rfl rfl 1 (by decide) (hts _ q_820) (fun _ h9 => h9) rfl dX4_isRoad_3 ?_
  refine lv_iconst (v := (0 : Int32)) hx hb dX4_isRoad_6 (by decide) ?_
  refine va_iald hx hb hK.k hP 1 0 rfl rfl h.1 dX4_isRoad_7 ?_
  replace h := h.2
  refine lv_iconst (v := (1 : Int32)) hx hb dX4_isRoad_8 (by decide) ?_
  refine lv_isub hx hb dX4_isRoad_9 ?_
  refine roSi (As := [.int p1, .int (0 : Int32), .int (((M_s u) (Int32.toNatClampNeg (0 : Int32))) - (1 : Int32))]) (rest := []) F (c_X4_in l D cI cS cJ H0 p1 (0 : Int32) (((M_s u) (Int32.toNatClampNeg (0 : Int32))) - (1 : Int32)) h) (cw_X4_20 hts (Nat.le_of_ble_eq_true rfl) (Nat.le_of_ble_eq_true rfl)) hK vP_nil rfl hl.1 rfl (Nat.le_of_ble_eq_true rfl) dX4_isRoad_10 ⟨Nat.zero_le _, Nat.zero_le _⟩ (fun r1 h => ?_)
  obtain ⟨b2, h⟩ := h
  exact hQ b2 h dX4_isRoad_13

def wp_X4_isEnvelope (u : Md) (p1 : Int32) (post : Int32 → Prop) : Prop :=
  (vp_in (1 : Int32) 854) ∧ (wp_X4_in p1 (0 : Int32) (((M_s u) (Int32.toNatClampNeg (1 : Int32))) - (1 : Int32)) (fun r1 => post r1))
set_option maxHeartbeats 4000000 in
set_option maxRecDepth 100000 in
theorem c_X4_isEnvelope (l : Launch) (D : va_G) (cI cS cJ : ClassId) (a : Nat → Nat) (u : Md) (H0 : Heap) (p1 : Int32) {post : Int32 → Prop} (h : wp_X4_isEnvelope u p1 post) : Met l yX4_isEnvelope (wsA yX4_isEnvelope cX4_isEnvelope 2 (some .boolean)) rm_X4_isEnvelope (va_Pc [.ref (a 0), .int p1] (roP D (tysA cI cS cJ) (mdW cI a u) H0)) (va_Qi (fun r (_ : Unit) => bz r ∧ post r) (fun _ t => t.heap = H0) nF) 0 0 nF := by
  refine mkROz (by decide +kernel) (Nat.le_of_ble_eq_true rfl) (fun {p e s m args below meth c Q ls} hx hb F hts hown hK hP hl hQ => ?_)
  have hown : s.vm.findClass RX4 = some m.cls := hown
  have F : CallFix p m c cX4_isEnvelope 2 s args wsT RX4 := F
  have hl : lv_has ls 2 [(0, .ref (a 0)), (1, .int p1)] := hl
  unfold wp_X4_isEnvelope at h
  refine lv_iload_n hx hb dX4_isEnvelope_0 rfl (lv_at hl 1 rfl) ?_
  refine lv_iconst (v := (0 : Int32)) hx hb dX4_isEnvelope_1 (by decide) ?_
  refine lv_aload_n hx hb dX4_isEnvelope_2 rfl (lv_at hl 0 rfl) ?_
  refine va_get (D := D) (ci := 4) (v := .ref (a 1)) (C := RX4) (T := TX4) (N := 12) hx hb hts inT4 hown hK.k hP 0 rfl rfl 1 (by decide) (hts _ q_820) (fun _ h9 => h9) rfl dX4_isEnvelope_3 ?_
  refine lv_iconst (v := (1 : Int32)) hx hb dX4_isEnvelope_6 (by decide) ?_
  refine va_iald hx hb hK.k hP 1 0 rfl rfl h.1 dX4_isEnvelope_7 ?_
  replace h := h.2
  refine lv_iconst (v := (1 : Int32)) hx hb dX4_isEnvelope_8 (by decide) ?_
  refine lv_isub hx hb dX4_isEnvelope_9 ?_
  refine roSi (As := [.int p1, .int (0 : Int32), .int (((M_s u) (Int32.toNatClampNeg (1 : Int32))) - (1 : Int32))]) (rest := []) F (c_X4_in l D cI cS cJ H0 p1 (0 : Int32) (((M_s u) (Int32.toNatClampNeg (1 : Int32))) - (1 : Int32)) h) (cw_X4_20 hts (Nat.le_of_ble_eq_true rfl) (Nat.le_of_ble_eq_true rfl)) hK vP_nil rfl hl.1 rfl (Nat.le_of_ble_eq_true rfl) dX4_isEnvelope_10 ⟨Nat.zero_le _, Nat.zero_le _⟩ (fun r1 h => ?_)
  obtain ⟨b2, h⟩ := h
  exact hQ b2 h dX4_isEnvelope_13

def wp_X4_isBody  (p0 : Int32) (post : Int32 → Prop) : Prop :=
  wp_X4_in p0 (0 : Int32) (9999 : Int32) (fun r1 => post r1)
set_option maxHeartbeats 4000000 in
set_option maxRecDepth 100000 in
theorem c_X4_isBody (l : Launch) (D : va_G) (cI cS cJ : ClassId)  (H0 : Heap) (p0 : Int32) {post : Int32 → Prop} (h : wp_X4_isBody p0 post) : Met l yX4_isBody (wsA yX4_isBody cX4_isBody 1 (some .boolean)) rm_X4_isBody (va_Pc [.int p0] (roP D (tysA cI cS cJ) ([]) H0)) (va_Qi (fun r (_ : Unit) => bz r ∧ post r) (fun _ t => t.heap = H0) nF) 0 0 nF := by
  refine mkROz (by decide +kernel) (Nat.le_of_ble_eq_true rfl) (fun {p e s m args below meth c Q ls} hx hb F hts hown hK hP hl hQ => ?_)
  have hown : s.vm.findClass RX4 = some m.cls := hown
  have F : CallFix p m c cX4_isBody 1 s args wsT RX4 := F
  have hl : lv_has ls 1 [(0, .int p0)] := hl
  unfold wp_X4_isBody at h
  refine lv_iload_n hx hb dX4_isBody_0 rfl (lv_at hl 0 rfl) ?_
  refine lv_iconst (v := (0 : Int32)) hx hb dX4_isBody_1 (by decide) ?_
  refine lv_sipush (v := (9999 : Int32)) hx hb dX4_isBody_2 (by decide) ?_
  refine roSi (As := [.int p0, .int (0 : Int32), .int (9999 : Int32)]) (rest := []) F (c_X4_in l D cI cS cJ H0 p0 (0 : Int32) (9999 : Int32) h) (cw_X4_20 hts (Nat.le_of_ble_eq_true rfl) (Nat.le_of_ble_eq_true rfl)) hK vP_nil rfl hl.1 rfl (Nat.le_of_ble_eq_true rfl) dX4_isBody_5 ⟨Nat.zero_le _, Nat.zero_le _⟩ (fun r1 h => ?_)
  obtain ⟨b2, h⟩ := h
  exact hQ b2 h dX4_isBody_8

def wp_X4_covered  (p0 : Int32) (p1 : Int32) (post : Int32 → Prop) : Prop :=
  post ((((7 : Int32) * p0) + p1) - (((7 : Int32) * p0) + p1) / (10000 : Int32) * (10000 : Int32))
set_option maxHeartbeats 4000000 in
set_option maxRecDepth 100000 in
theorem c_X4_covered (l : Launch) (D : va_G) (cI cS cJ : ClassId)  (H0 : Heap) (p0 : Int32) (p1 : Int32) {post : Int32 → Prop} (h : wp_X4_covered p0 p1 post) : Met l yX4_covered (wsA yX4_covered cX4_covered 2 (some .int)) rm_X4_covered (va_Pc [.int p0, .int p1] (roP D (tysA cI cS cJ) ([]) H0)) (va_Qi (fun r (_ : Unit) => post r) (fun _ t => t.heap = H0) nF) 0 0 nF := by
  refine mkROi (by decide +kernel) (Nat.le_of_ble_eq_true rfl) (fun {p e s m args below meth c Q ls} hx hb F hts hown hK hP hl hQ => ?_)
  have hown : s.vm.findClass RX4 = some m.cls := hown
  have F : CallFix p m c cX4_covered 2 s args wsT RX4 := F
  have hl : lv_has ls 2 [(0, .int p0), (1, .int p1)] := hl
  unfold wp_X4_covered at h
  refine lv_bipush (v := (7 : Int32)) hx hb dX4_covered_0 (by decide) ?_
  refine lv_iload_n hx hb dX4_covered_2 rfl (lv_at hl 0 rfl) ?_
  refine lv_imul hx hb dX4_covered_3 ?_
  refine lv_iload_n hx hb dX4_covered_4 rfl (lv_at hl 1 rfl) ?_
  refine lv_iadd hx hb dX4_covered_5 ?_
  refine lv_sipush (v := (10000 : Int32)) hx hb dX4_covered_6 (by decide) ?_
  refine lv_irem hx hb dX4_covered_9 (by decide) ?_
  exact hQ h dX4_covered_10

def wp_X4_uncovered  (p0 : Int32) (p1 : Int32) (post : Int32 → Prop) : Prop :=
  post (((7143 : Int32) * ((p0 - p1) + (10000 : Int32))) - ((7143 : Int32) * ((p0 - p1) + (10000 : Int32))) / (10000 : Int32) * (10000 : Int32))
set_option maxHeartbeats 4000000 in
set_option maxRecDepth 100000 in
theorem c_X4_uncovered (l : Launch) (D : va_G) (cI cS cJ : ClassId)  (H0 : Heap) (p0 : Int32) (p1 : Int32) {post : Int32 → Prop} (h : wp_X4_uncovered p0 p1 post) : Met l yX4_uncovered (wsA yX4_uncovered cX4_uncovered 2 (some .int)) rm_X4_uncovered (va_Pc [.int p0, .int p1] (roP D (tysA cI cS cJ) ([]) H0)) (va_Qi (fun r (_ : Unit) => post r) (fun _ t => t.heap = H0) nF) 0 0 nF := by
  refine mkROi (by decide +kernel) (Nat.le_of_ble_eq_true rfl) (fun {p e s m args below meth c Q ls} hx hb F hts hown hK hP hl hQ => ?_)
  have hown : s.vm.findClass RX4 = some m.cls := hown
  have F : CallFix p m c cX4_uncovered 2 s args wsT RX4 := F
  have hl : lv_has ls 2 [(0, .int p0), (1, .int p1)] := hl
  unfold wp_X4_uncovered at h
  refine lv_sipush (v := (7143 : Int32)) hx hb dX4_uncovered_0 (by decide) ?_
  refine lv_iload_n hx hb dX4_uncovered_3 rfl (lv_at hl 0 rfl) ?_
  refine lv_iload_n hx hb dX4_uncovered_4 rfl (lv_at hl 1 rfl) ?_
  refine lv_isub hx hb dX4_uncovered_5 ?_
  refine lv_sipush (v := (10000 : Int32)) hx hb dX4_uncovered_6 (by decide) ?_
  refine lv_iadd hx hb dX4_uncovered_9 ?_
  refine lv_imul hx hb dX4_uncovered_10 ?_
  refine lv_sipush (v := (10000 : Int32)) hx hb dX4_uncovered_11 (by decide) ?_
  refine lv_irem hx hb dX4_uncovered_14 (by decide) ?_
  exact hQ h dX4_uncovered_15

def wp_X4_innOf (u : Md) (p1 : Int32) (p2 : Int32) (post : Int32 → Prop) : Prop :=
  (vp_in ((((24 : Int32) + ((7 : Int32) * p1)) + p2) - (1 : Int32)) 854) ∧ (post ((M_s u) (Int32.toNatClampNeg ((((24 : Int32) + ((7 : Int32) * p1)) + p2) - (1 : Int32)))))
set_option maxHeartbeats 4000000 in
set_option maxRecDepth 100000 in
theorem c_X4_innOf (l : Launch) (D : va_G) (cI cS cJ : ClassId) (a : Nat → Nat) (u : Md) (H0 : Heap) (p1 : Int32) (p2 : Int32) {post : Int32 → Prop} (h : wp_X4_innOf u p1 p2 post) : Met l yX4_innOf (wsA yX4_innOf cX4_innOf 3 (some .int)) rm_X4_innOf (va_Pc [.ref (a 0), .int p1, .int p2] (roP D (tysA cI cS cJ) (mdW cI a u) H0)) (va_Qi (fun r (_ : Unit) => post r) (fun _ t => t.heap = H0) nF) 0 0 nF := by
  refine mkROi (by decide +kernel) (Nat.le_of_ble_eq_true rfl) (fun {p e s m args below meth c Q ls} hx hb F hts hown hK hP hl hQ => ?_)
  have hown : s.vm.findClass RX4 = some m.cls := hown
  have F : CallFix p m c cX4_innOf 3 s args wsT RX4 := F
  have hl : lv_has ls 3 [(0, .ref (a 0)), (1, .int p1), (2, .int p2)] := hl
  unfold wp_X4_innOf at h
  refine lv_aload_n hx hb dX4_innOf_0 rfl (lv_at hl 0 rfl) ?_
  refine va_get (D := D) (ci := 4) (v := .ref (a 1)) (C := RX4) (T := TX4) (N := 12) hx hb hts inT4 hown hK.k hP 0 rfl rfl 1 (by decide) (hts _ q_820) (fun _ h9 => h9) rfl dX4_innOf_1 ?_
  refine lv_bipush (v := (24 : Int32)) hx hb dX4_innOf_4 (by decide) ?_
  refine lv_bipush (v := (7 : Int32)) hx hb dX4_innOf_6 (by decide) ?_
  refine lv_iload_n hx hb dX4_innOf_8 rfl (lv_at hl 1 rfl) ?_
  refine lv_imul hx hb dX4_innOf_9 ?_
  refine lv_iadd hx hb dX4_innOf_10 ?_
  refine lv_iload_n hx hb dX4_innOf_11 rfl (lv_at hl 2 rfl) ?_
  refine lv_iadd hx hb dX4_innOf_12 ?_
  refine lv_iconst (v := (1 : Int32)) hx hb dX4_innOf_13 (by decide) ?_
  refine lv_isub hx hb dX4_innOf_14 ?_
  refine va_iald hx hb hK.k hP 1 0 rfl rfl h.1 dX4_innOf_15 ?_
  replace h := h.2
  exact hQ h dX4_innOf_16

def wp_X4_keyOf (u : Md) (p1 : Int32) (p2 : Int32) (post : Int32 → Prop) : Prop :=
  (vp_in ((((24 : Int32) + ((7 : Int32) * p1)) + (2 : Int32)) + p2) 854) ∧ (post ((M_s u) (Int32.toNatClampNeg ((((24 : Int32) + ((7 : Int32) * p1)) + (2 : Int32)) + p2))))
set_option maxHeartbeats 4000000 in
set_option maxRecDepth 100000 in
theorem c_X4_keyOf (l : Launch) (D : va_G) (cI cS cJ : ClassId) (a : Nat → Nat) (u : Md) (H0 : Heap) (p1 : Int32) (p2 : Int32) {post : Int32 → Prop} (h : wp_X4_keyOf u p1 p2 post) : Met l yX4_keyOf (wsA yX4_keyOf cX4_keyOf 3 (some .int)) rm_X4_keyOf (va_Pc [.ref (a 0), .int p1, .int p2] (roP D (tysA cI cS cJ) (mdW cI a u) H0)) (va_Qi (fun r (_ : Unit) => post r) (fun _ t => t.heap = H0) nF) 0 0 nF := by
  refine mkROi (by decide +kernel) (Nat.le_of_ble_eq_true rfl) (fun {p e s m args below meth c Q ls} hx hb F hts hown hK hP hl hQ => ?_)
  have hown : s.vm.findClass RX4 = some m.cls := hown
  have F : CallFix p m c cX4_keyOf 3 s args wsT RX4 := F
  have hl : lv_has ls 3 [(0, .ref (a 0)), (1, .int p1), (2, .int p2)] := hl
  unfold wp_X4_keyOf at h
  refine lv_aload_n hx hb dX4_keyOf_0 rfl (lv_at hl 0 rfl) ?_
  refine va_get (D := D) (ci := 4) (v := .ref (a 1)) (C := RX4) (T := TX4) (N := 12) hx hb hts inT4 hown hK.k hP 0 rfl rfl 1 (by decide) (hts _ q_820) (fun _ h9 => h9) rfl dX4_keyOf_1 ?_
  refine lv_bipush (v := (24 : Int32)) hx hb dX4_keyOf_4 (by decide) ?_
  refine lv_bipush (v := (7 : Int32)) hx hb dX4_keyOf_6 (by decide) ?_
  refine lv_iload_n hx hb dX4_keyOf_8 rfl (lv_at hl 1 rfl) ?_
  refine lv_imul hx hb dX4_keyOf_9 ?_
  refine lv_iadd hx hb dX4_keyOf_10 ?_
  refine lv_iconst (v := (2 : Int32)) hx hb dX4_keyOf_11 (by decide) ?_
  refine lv_iadd hx hb dX4_keyOf_12 ?_
  refine lv_iload_n hx hb dX4_keyOf_13 rfl (lv_at hl 2 rfl) ?_
  refine lv_iadd hx hb dX4_keyOf_14 ?_
  refine va_iald hx hb hK.k hP 1 0 rfl rfl h.1 dX4_keyOf_15 ?_
  replace h := h.2
  exact hQ h dX4_keyOf_16

def wp_X4_hallOf (u : Md) (p1 : Int32) (post : Int32 → Prop) : Prop :=
  (vp_in (((24 : Int32) + ((7 : Int32) * p1)) + (6 : Int32)) 854) ∧ (post ((M_s u) (Int32.toNatClampNeg (((24 : Int32) + ((7 : Int32) * p1)) + (6 : Int32)))))
set_option maxHeartbeats 4000000 in
set_option maxRecDepth 100000 in
theorem c_X4_hallOf (l : Launch) (D : va_G) (cI cS cJ : ClassId) (a : Nat → Nat) (u : Md) (H0 : Heap) (p1 : Int32) {post : Int32 → Prop} (h : wp_X4_hallOf u p1 post) : Met l yX4_hallOf (wsA yX4_hallOf cX4_hallOf 2 (some .int)) rm_X4_hallOf (va_Pc [.ref (a 0), .int p1] (roP D (tysA cI cS cJ) (mdW cI a u) H0)) (va_Qi (fun r (_ : Unit) => post r) (fun _ t => t.heap = H0) nF) 0 0 nF := by
  refine mkROi (by decide +kernel) (Nat.le_of_ble_eq_true rfl) (fun {p e s m args below meth c Q ls} hx hb F hts hown hK hP hl hQ => ?_)
  have hown : s.vm.findClass RX4 = some m.cls := hown
  have F : CallFix p m c cX4_hallOf 2 s args wsT RX4 := F
  have hl : lv_has ls 2 [(0, .ref (a 0)), (1, .int p1)] := hl
  unfold wp_X4_hallOf at h
  refine lv_aload_n hx hb dX4_hallOf_0 rfl (lv_at hl 0 rfl) ?_
  refine va_get (D := D) (ci := 4) (v := .ref (a 1)) (C := RX4) (T := TX4) (N := 12) hx hb hts inT4 hown hK.k hP 0 rfl rfl 1 (by decide) (hts _ q_820) (fun _ h9 => h9) rfl dX4_hallOf_1 ?_
  refine lv_bipush (v := (24 : Int32)) hx hb dX4_hallOf_4 (by decide) ?_
  refine lv_bipush (v := (7 : Int32)) hx hb dX4_hallOf_6 (by decide) ?_
  refine lv_iload_n hx hb dX4_hallOf_8 rfl (lv_at hl 1 rfl) ?_
  refine lv_imul hx hb dX4_hallOf_9 ?_
  refine lv_iadd hx hb dX4_hallOf_10 ?_
  refine lv_bipush (v := (6 : Int32)) hx hb dX4_hallOf_11 (by decide) ?_
  refine lv_iadd hx hb dX4_hallOf_13 ?_
  refine va_iald hx hb hK.k hP 1 0 rfl rfl h.1 dX4_hallOf_14 ?_
  replace h := h.2
  exact hQ h dX4_hallOf_15

def wp_X4_placeOn (u : Md) (p1 : Int32) (p2 : Int32) (post : Int32 → Prop) : Prop :=
  LP1 (fun (K2 : Int32 → Prop) (x1 : Int32) => ((4 : Int32) ≤ x1 → post (0 : Int32)) ∧ (¬ (4 : Int32) ≤ x1 → wp_X4_innOf u p2 x1 (fun r5 => (¬ r5 = p1 → K2 (x1 + 1)) ∧ (r5 = p1 → post x1)))) (1 : Int32)
set_option maxHeartbeats 4000000 in
set_option maxRecDepth 100000 in
theorem c_X4_placeOn (l : Launch) (D : va_G) (cI cS cJ : ClassId) (a : Nat → Nat) (u : Md) (H0 : Heap) (p1 : Int32) (p2 : Int32) {post : Int32 → Prop} (h : wp_X4_placeOn u p1 p2 post) : Met l yX4_placeOn (wsA yX4_placeOn cX4_placeOn 4 (some .int)) rm_X4_placeOn (va_Pc [.ref (a 0), .int p1, .int p2] (roP D (tysA cI cS cJ) (mdW cI a u) H0)) (va_Qi (fun r (_ : Unit) => post r) (fun _ t => t.heap = H0) nF) 0 0 nF := by
  refine mkROi (by decide +kernel) (Nat.le_of_ble_eq_true rfl) (fun {p e s m args below meth c Q ls} hx hb F hts hown hK hP hl hQ => ?_)
  have hown : s.vm.findClass RX4 = some m.cls := hown
  have F : CallFix p m c cX4_placeOn 4 s args wsT RX4 := F
  have hl : lv_has ls 4 [(0, .ref (a 0)), (1, .int p1), (2, .int p2)] := hl
  unfold wp_X4_placeOn at h
  refine lv_iconst (v := (1 : Int32)) hx hb dX4_placeOn_0 (by decide) ?_
  refine lv_istore_n (lv' := [(3, .int (1 : Int32)), (0, .ref (a 0)), (1, .int p1), (2, .int p2)]) hx hb dX4_placeOn_1 rfl hl (by decide) rfl (fun ls hl => ?_)
  refine lpu1 h (fun K2 : Int32 → Prop => ∀ (x1 : Int32) (ls : Array Slot), lv_has ls 4 [(0, .ref (a 0)), (1, .int p1), (2, .int p2), (3, .int x1)] → K2 x1 → W p l e rm_X4_placeOn s m args below meth c H0 [] 0 0 Q (F0 m 2 ls [])) ?_ ?_ ?_
  · intro x1 ls hl h
    exact h.elim
  · intro K2
    intro w3 x1 ls hl h
    refine lv_iload_n hx hb dX4_placeOn_2 rfl (lv_at hl 3 rfl) ?_
    refine lv_iconst (v := (4 : Int32)) hx hb dX4_placeOn_3 (by decide) ?_
    refine lv_icmp_ge (tgt := 25) hx hb dX4_placeOn_4 (by decide) (fun c4 => ?_) (fun c4 => ?_)
    · replace h := h.1 c4
      refine lv_iconst (v := (0 : Int32)) hx hb dX4_placeOn_25 (by decide) ?_
      exact hQ h dX4_placeOn_26
    · replace h := h.2 c4
      refine lv_aload_n hx hb dX4_placeOn_7 rfl (lv_at hl 0 rfl) ?_
      refine lv_iload_n hx hb dX4_placeOn_8 rfl (lv_at hl 2 rfl) ?_
      refine lv_iload_n hx hb dX4_placeOn_9 rfl (lv_at hl 3 rfl) ?_
      refine roVi (As := [.int p2, .int x1]) (rest := []) F (c_X4_innOf l D cI cS cJ a u H0 p2 x1 h) (cw_X4_24 hts (Nat.le_of_ble_eq_true rfl) (Nat.le_of_ble_eq_true rfl)) hK hP (recv (ci := 4) (k0 := 0) hK hP rfl rfl) rfl hl.1 rfl (Nat.le_of_ble_eq_true rfl) dX4_placeOn_10 ⟨Nat.zero_le _, Nat.zero_le _⟩ (fun r5 h => ?_)
      refine lv_iload_n hx hb dX4_placeOn_13 rfl (lv_at hl 1 rfl) ?_
      refine lv_icmp_ne (tgt := 19) hx hb dX4_placeOn_14 (by decide) (fun c6 => ?_) (fun c6 => ?_)
      · replace h := h.1 c6
        refine lv_iinc (v := (x1 + 1)) (lv' := [(3, .int (x1 + 1)), (0, .ref (a 0)), (1, .int p1), (2, .int p2)]) hx hb dX4_placeOn_19 hl (k := 3) rfl rfl (by decide) rfl (fun ls hl => ?_)
        refine lv_goto (tgt := 2) hx hb dX4_placeOn_22 (by decide) ?_
        exact w3 (x1 + 1) _ (lv_sub hl [1, 2, 3, 0] rfl) h
      · replace h := h.2 c6
        refine lv_iload_n hx hb dX4_placeOn_17 rfl (lv_at hl 3 rfl) ?_
        exact hQ h dX4_placeOn_18
  · intro K2 w3 h
    exact w3 (1 : Int32) _ (lv_sub hl [1, 2, 3, 0] rfl) h

def wp_X4_of (u : Md) (p1 : Int32) (p2 : Int32) (post : Int32 → Prop) : Prop :=
  (vp_in (((66 : Int32) + ((4 : Int32) * p1)) + p2) 854) ∧ (post ((M_s u) (Int32.toNatClampNeg (((66 : Int32) + ((4 : Int32) * p1)) + p2))))
set_option maxHeartbeats 4000000 in
set_option maxRecDepth 100000 in
theorem c_X4_of (l : Launch) (D : va_G) (cI cS cJ : ClassId) (a : Nat → Nat) (u : Md) (H0 : Heap) (p1 : Int32) (p2 : Int32) {post : Int32 → Prop} (h : wp_X4_of u p1 p2 post) : Met l yX4_of (wsA yX4_of cX4_of 3 (some .int)) rm_X4_of (va_Pc [.ref (a 0), .int p1, .int p2] (roP D (tysA cI cS cJ) (mdW cI a u) H0)) (va_Qi (fun r (_ : Unit) => post r) (fun _ t => t.heap = H0) nF) 0 0 nF := by
  refine mkROi (by decide +kernel) (Nat.le_of_ble_eq_true rfl) (fun {p e s m args below meth c Q ls} hx hb F hts hown hK hP hl hQ => ?_)
  have hown : s.vm.findClass RX4 = some m.cls := hown
  have F : CallFix p m c cX4_of 3 s args wsT RX4 := F
  have hl : lv_has ls 3 [(0, .ref (a 0)), (1, .int p1), (2, .int p2)] := hl
  unfold wp_X4_of at h
  refine lv_aload_n hx hb dX4_of_0 rfl (lv_at hl 0 rfl) ?_
  refine va_get (D := D) (ci := 4) (v := .ref (a 1)) (C := RX4) (T := TX4) (N := 12) hx hb hts inT4 hown hK.k hP 0 rfl rfl 1 (by decide) (hts _ q_820) (fun _ h9 => h9) rfl dX4_of_1 ?_
  refine lv_bipush (v := (66 : Int32)) hx hb dX4_of_4 (by decide) ?_
  refine lv_iconst (v := (4 : Int32)) hx hb dX4_of_6 (by decide) ?_
  refine lv_iload_n hx hb dX4_of_7 rfl (lv_at hl 1 rfl) ?_
  refine lv_imul hx hb dX4_of_8 ?_
  refine lv_iadd hx hb dX4_of_9 ?_
  refine lv_iload_n hx hb dX4_of_10 rfl (lv_at hl 2 rfl) ?_
  refine lv_iadd hx hb dX4_of_11 ?_
  refine va_iald hx hb hK.k hP 1 0 rfl rfl h.1 dX4_of_12 ?_
  replace h := h.2
  exact hQ h dX4_of_13

def wp_X4_lay4 (u : Md) (p1 : Int32) (p2 : Int32) (p3 : Int32) (post : Md → Prop) : Prop :=
  (vp_in (((66 : Int32) + ((4 : Int32) * p1)) + p2) 854) ∧ (post (wM_s u (Int32.toNatClampNeg (((66 : Int32) + ((4 : Int32) * p1)) + p2)) p3))
set_option maxHeartbeats 4000000 in
set_option maxRecDepth 100000 in
theorem c_X4_lay4 (l : Launch) (D : va_G) (cI cS cJ : ClassId) (a : Nat → Nat) (u : Md) (sz : Nat) (p1 : Int32) (p2 : Int32) (p3 : Int32) {post : Md → Prop} (h : wp_X4_lay4 u p1 p2 p3 post) : Met l yX4_lay4 (wsA yX4_lay4 cX4_lay4 4 none) rm_X4_lay4 (va_Pc [.ref (a 0), .int p1, .int p2, .int p3] (rwP D (tysA cI cS cJ) (mdW cI a u) sz)) (va_Qv post (fun u9 t => va_P D vwCl ((mdW cI a) u9) t.heap ∧ va_D (va_A (mdW cI a u) sz) ((mdW cI a) u9)) (va_A (mdW cI a u) sz)) 0 0 (va_A (mdW cI a u) sz) := by
  refine mkRWv (wf := (mdW cI a)) (by decide +kernel) (Nat.le_of_ble_eq_true rfl) (fun {p e s m args below meth c Q ls A H0 H locs} hx hb F hts hown hin hK hP hD hS hA hl hQ => ?_)
  have hown : s.vm.findClass RX4 = some m.cls := hown
  have F : CallFix p m c cX4_lay4 4 s args wsT RX4 := F
  have hl : lv_has ls 4 [(0, .ref (a 0)), (1, .int p1), (2, .int p2), (3, .int p3)] := hl
  unfold wp_X4_lay4 at h
  refine lv_aload_n hx hb dX4_lay4_0 rfl (lv_at hl 0 rfl) ?_
  refine va_get (D := D) (ci := 4) (v := .ref (a 1)) (C := RX4) (T := TX4) (N := 12) hx hb hts inT4 hown hK.k hP 0 rfl rfl 1 (by decide) (hts _ q_820) (fun _ h9 => h9) rfl dX4_lay4_1 ?_
  refine lv_bipush (v := (66 : Int32)) hx hb dX4_lay4_4 (by decide) ?_
  refine lv_iconst (v := (4 : Int32)) hx hb dX4_lay4_6 (by decide) ?_
  refine lv_iload_n hx hb dX4_lay4_7 rfl (lv_at hl 1 rfl) ?_
  refine lv_imul hx hb dX4_lay4_8 ?_
  refine lv_iadd hx hb dX4_lay4_9 ?_
  refine lv_iload_n hx hb dX4_lay4_10 rfl (lv_at hl 2 rfl) ?_
  refine lv_iadd hx hb dX4_lay4_11 ?_
  refine lv_iload_n hx hb dX4_lay4_12 rfl (lv_at hl 3 rfl) ?_
  refine va_iast hx hb hK.k hP hD hS 1 0 rfl rfl h.1 dX4_lay4_13 (fun H locs hP hD hS => ?_)
  replace h := h.2
  have hP : va_P D vwCl (mdW cI a (wM_s u (Int32.toNatClampNeg (((66 : Int32) + ((4 : Int32) * p1)) + p2)) p3)) H := hP
  have hD : va_D A (mdW cI a (wM_s u (Int32.toNatClampNeg (((66 : Int32) + ((4 : Int32) * p1)) + p2)) p3)) := hD
  exact hQ h hP hD hS dX4_lay4_14

def wp_X4_isOpenNow (u : Md) (p1 : Int32) (post : Int32 → Prop) : Prop :=
  (vp_in ((8 : Int32) + p1) 854) ∧ ((¬ ((M_s u) (Int32.toNatClampNeg ((8 : Int32) + p1))) = (1 : Int32) → post (0 : Int32)) ∧ (((M_s u) (Int32.toNatClampNeg ((8 : Int32) + p1))) = (1 : Int32) → post (1 : Int32)))
set_option maxHeartbeats 4000000 in
set_option maxRecDepth 100000 in
theorem c_X4_isOpenNow (l : Launch) (D : va_G) (cI cS cJ : ClassId) (a : Nat → Nat) (u : Md) (H0 : Heap) (p1 : Int32) {post : Int32 → Prop} (h : wp_X4_isOpenNow u p1 post) : Met l yX4_isOpenNow (wsA yX4_isOpenNow cX4_isOpenNow 2 (some .boolean)) rm_X4_isOpenNow (va_Pc [.ref (a 0), .int p1] (roP D (tysA cI cS cJ) (mdW cI a u) H0)) (va_Qi (fun r (_ : Unit) => bz r ∧ post r) (fun _ t => t.heap = H0) nF) 0 0 nF := by
  refine mkROz (by decide +kernel) (Nat.le_of_ble_eq_true rfl) (fun {p e s m args below meth c Q ls} hx hb F hts hown hK hP hl hQ => ?_)
  have hown : s.vm.findClass RX4 = some m.cls := hown
  have F : CallFix p m c cX4_isOpenNow 2 s args wsT RX4 := F
  have hl : lv_has ls 2 [(0, .ref (a 0)), (1, .int p1)] := hl
  unfold wp_X4_isOpenNow at h
  refine lv_aload_n hx hb dX4_isOpenNow_0 rfl (lv_at hl 0 rfl) ?_
  refine va_get (D := D) (ci := 4) (v := .ref (a 1)) (C := RX4) (T := TX4) (N := 12) hx hb hts inT4 hown hK.k hP 0 rfl rfl 1 (by decide) (hts _ q_820) (fun _ h9 => h9) rfl dX4_isOpenNow_1 ?_
  refine lv_bipush (v := (8 : Int32)) hx hb dX4_isOpenNow_4 (by decide) ?_
  refine lv_iload_n hx hb dX4_isOpenNow_6 rfl (lv_at hl 1 rfl) ?_
  refine lv_iadd hx hb dX4_isOpenNow_7 ?_
  refine va_iald hx hb hK.k hP 1 0 rfl rfl h.1 dX4_isOpenNow_8 ?_
  replace h := h.2
  refine lv_iconst (v := (1 : Int32)) hx hb dX4_isOpenNow_9 (by decide) ?_
  refine lv_icmp_ne (tgt := 17) hx hb dX4_isOpenNow_10 (by decide) (fun c1 => ?_) (fun c1 => ?_)
  · replace h := h.1 c1
    refine lv_iconst (v := (0 : Int32)) hx hb dX4_isOpenNow_17 (by decide) ?_
    exact hQ bz0 h dX4_isOpenNow_18
  · replace h := h.2 c1
    refine lv_iconst (v := (1 : Int32)) hx hb dX4_isOpenNow_13 (by decide) ?_
    refine lv_goto (tgt := 18) hx hb dX4_isOpenNow_14 (by decide) ?_
    exact hQ bz1 h dX4_isOpenNow_18

def wp_X4_standsNow (u : Md) (p1 : Int32) (post : Int32 → Prop) : Prop :=
  wp_X4_innOf u p1 (1 : Int32) (fun r1 => wp_X4_isOpenNow u r1 (fun r2 => (r2 = 0 → post (0 : Int32)) ∧ (¬ r2 = 0 → wp_X4_innOf u p1 (2 : Int32) (fun r5 => wp_X4_isOpenNow u r5 (fun r6 => (r6 = 0 → post (0 : Int32)) ∧ (¬ r6 = 0 → wp_X4_innOf u p1 (3 : Int32) (fun r9 => wp_X4_isOpenNow u r9 (fun r10 => (r10 = 0 → post (0 : Int32)) ∧ (¬ r10 = 0 → post (1 : Int32))))))))))
set_option maxHeartbeats 4000000 in
set_option maxRecDepth 100000 in
theorem c_X4_standsNow (l : Launch) (D : va_G) (cI cS cJ : ClassId) (a : Nat → Nat) (u : Md) (H0 : Heap) (p1 : Int32) {post : Int32 → Prop} (h : wp_X4_standsNow u p1 post) : Met l yX4_standsNow (wsA yX4_standsNow cX4_standsNow 2 (some .boolean)) rm_X4_standsNow (va_Pc [.ref (a 0), .int p1] (roP D (tysA cI cS cJ) (mdW cI a u) H0)) (va_Qi (fun r (_ : Unit) => bz r ∧ post r) (fun _ t => t.heap = H0) nF) 0 0 nF := by
  refine mkROz (by decide +kernel) (Nat.le_of_ble_eq_true rfl) (fun {p e s m args below meth c Q ls} hx hb F hts hown hK hP hl hQ => ?_)
  have hown : s.vm.findClass RX4 = some m.cls := hown
  have F : CallFix p m c cX4_standsNow 2 s args wsT RX4 := F
  have hl : lv_has ls 2 [(0, .ref (a 0)), (1, .int p1)] := hl
  unfold wp_X4_standsNow at h
  refine lv_aload_n hx hb dX4_standsNow_0 rfl (lv_at hl 0 rfl) ?_
  refine lv_aload_n hx hb dX4_standsNow_1 rfl (lv_at hl 0 rfl) ?_
  refine lv_iload_n hx hb dX4_standsNow_2 rfl (lv_at hl 1 rfl) ?_
  refine lv_iconst (v := (1 : Int32)) hx hb dX4_standsNow_3 (by decide) ?_
  refine roVi (As := [.int p1, .int (1 : Int32)]) (rest := [.ref (a 0)]) F (c_X4_innOf l D cI cS cJ a u H0 p1 (1 : Int32) h) (cw_X4_24 hts (Nat.le_of_ble_eq_true rfl) (Nat.le_of_ble_eq_true rfl)) hK hP (recv (ci := 4) (k0 := 0) hK hP rfl rfl) rfl hl.1 rfl (Nat.le_of_ble_eq_true rfl) dX4_standsNow_4 ⟨Nat.zero_le _, Nat.zero_le _⟩ (fun r1 h => ?_)
  refine roVi (As := [.int r1]) (rest := []) F (c_X4_isOpenNow l D cI cS cJ a u H0 r1 h) (cw_X4_28 hts (Nat.le_of_ble_eq_true rfl) (Nat.le_of_ble_eq_true rfl)) hK hP (recv (ci := 4) (k0 := 0) hK hP rfl rfl) rfl hl.1 rfl (Nat.le_of_ble_eq_true rfl) dX4_standsNow_7 ⟨Nat.zero_le _, Nat.zero_le _⟩ (fun r2 h => ?_)
  obtain ⟨b3, h⟩ := h
  refine lv_if_eq (tgt := 43) hx hb dX4_standsNow_10 (by decide) (fun c4 => ?_) (fun c4 => ?_)
  · replace h := h.1 c4
    refine lv_iconst (v := (0 : Int32)) hx hb dX4_standsNow_43 (by decide) ?_
    exact hQ bz0 h dX4_standsNow_44
  · replace h := h.2 c4
    refine lv_aload_n hx hb dX4_standsNow_13 rfl (lv_at hl 0 rfl) ?_
    refine lv_aload_n hx hb dX4_standsNow_14 rfl (lv_at hl 0 rfl) ?_
    refine lv_iload_n hx hb dX4_standsNow_15 rfl (lv_at hl 1 rfl) ?_
    refine lv_iconst (v := (2 : Int32)) hx hb dX4_standsNow_16 (by decide) ?_
    refine roVi (As := [.int p1, .int (2 : Int32)]) (rest := [.ref (a 0)]) F (c_X4_innOf l D cI cS cJ a u H0 p1 (2 : Int32) h) (cw_X4_24 hts (Nat.le_of_ble_eq_true rfl) (Nat.le_of_ble_eq_true rfl)) hK hP (recv (ci := 4) (k0 := 0) hK hP rfl rfl) rfl hl.1 rfl (Nat.le_of_ble_eq_true rfl) dX4_standsNow_17 ⟨Nat.zero_le _, Nat.zero_le _⟩ (fun r5 h => ?_)
    refine roVi (As := [.int r5]) (rest := []) F (c_X4_isOpenNow l D cI cS cJ a u H0 r5 h) (cw_X4_28 hts (Nat.le_of_ble_eq_true rfl) (Nat.le_of_ble_eq_true rfl)) hK hP (recv (ci := 4) (k0 := 0) hK hP rfl rfl) rfl hl.1 rfl (Nat.le_of_ble_eq_true rfl) dX4_standsNow_20 ⟨Nat.zero_le _, Nat.zero_le _⟩ (fun r6 h => ?_)
    obtain ⟨b7, h⟩ := h
    refine lv_if_eq (tgt := 43) hx hb dX4_standsNow_23 (by decide) (fun c8 => ?_) (fun c8 => ?_)
    · replace h := h.1 c8
      refine lv_iconst (v := (0 : Int32)) hx hb dX4_standsNow_43 (by decide) ?_
      exact hQ bz0 h dX4_standsNow_44
    · replace h := h.2 c8
      refine lv_aload_n hx hb dX4_standsNow_26 rfl (lv_at hl 0 rfl) ?_
      refine lv_aload_n hx hb dX4_standsNow_27 rfl (lv_at hl 0 rfl) ?_
      refine lv_iload_n hx hb dX4_standsNow_28 rfl (lv_at hl 1 rfl) ?_
      refine lv_iconst (v := (3 : Int32)) hx hb dX4_standsNow_29 (by decide) ?_
      refine roVi (As := [.int p1, .int (3 : Int32)]) (rest := [.ref (a 0)]) F (c_X4_innOf l D cI cS cJ a u H0 p1 (3 : Int32) h) (cw_X4_24 hts (Nat.le_of_ble_eq_true rfl) (Nat.le_of_ble_eq_true rfl)) hK hP (recv (ci := 4) (k0 := 0) hK hP rfl rfl) rfl hl.1 rfl (Nat.le_of_ble_eq_true rfl) dX4_standsNow_30 ⟨Nat.zero_le _, Nat.zero_le _⟩ (fun r9 h => ?_)
      refine roVi (As := [.int r9]) (rest := []) F (c_X4_isOpenNow l D cI cS cJ a u H0 r9 h) (cw_X4_28 hts (Nat.le_of_ble_eq_true rfl) (Nat.le_of_ble_eq_true rfl)) hK hP (recv (ci := 4) (k0 := 0) hK hP rfl rfl) rfl hl.1 rfl (Nat.le_of_ble_eq_true rfl) dX4_standsNow_33 ⟨Nat.zero_le _, Nat.zero_le _⟩ (fun r10 h => ?_)
      obtain ⟨b11, h⟩ := h
      refine lv_if_eq (tgt := 43) hx hb dX4_standsNow_36 (by decide) (fun c12 => ?_) (fun c12 => ?_)
      · replace h := h.1 c12
        refine lv_iconst (v := (0 : Int32)) hx hb dX4_standsNow_43 (by decide) ?_
        exact hQ bz0 h dX4_standsNow_44
      · replace h := h.2 c12
        refine lv_iconst (v := (1 : Int32)) hx hb dX4_standsNow_39 (by decide) ?_
        refine lv_goto (tgt := 44) hx hb dX4_standsNow_40 (by decide) ?_
        exact hQ bz1 h dX4_standsNow_44

def wp_X4_puts (u : Md) (p1 : Int32) (p2 : Int32) (p3 : Int32) (p4 : Int32) (post : Int32 → Md → Prop) : Prop :=
  (vp_in (1 : Int32) 854) ∧ (wp_X4_lay4 u ((M_s u) (Int32.toNatClampNeg (1 : Int32))) (0 : Int32) p1 (fun u2 => wp_X4_lay4 u2 ((M_s u) (Int32.toNatClampNeg (1 : Int32))) (1 : Int32) p2 (fun u4 => wp_X4_lay4 u4 ((M_s u) (Int32.toNatClampNeg (1 : Int32))) (2 : Int32) p3 (fun u6 => wp_X4_lay4 u6 ((M_s u) (Int32.toNatClampNeg (1 : Int32))) (3 : Int32) p4 (fun u8 => (vp_in (1 : Int32) 854) ∧ ((vp_in (1 : Int32) 854) ∧ (post ((M_s u) (Int32.toNatClampNeg (1 : Int32))) (wM_s u8 (Int32.toNatClampNeg (1 : Int32)) (((M_s u8) (Int32.toNatClampNeg (1 : Int32))) + (1 : Int32))))))))))
set_option maxHeartbeats 4000000 in
set_option maxRecDepth 100000 in
theorem c_X4_puts (l : Launch) (D : va_G) (cI cS cJ : ClassId) (a : Nat → Nat) (u : Md) (sz : Nat) (p1 : Int32) (p2 : Int32) (p3 : Int32) (p4 : Int32) {post : Int32 → Md → Prop} (h : wp_X4_puts u p1 p2 p3 p4 post) : Met l yX4_puts (wsA yX4_puts cX4_puts 6 (some .int)) rm_X4_puts (va_Pc [.ref (a 0), .int p1, .int p2, .int p3, .int p4] (rwP D (tysA cI cS cJ) (mdW cI a u) sz)) (va_Qi post (fun u9 t => va_P D vwCl ((mdW cI a) u9) t.heap ∧ va_D (va_A (mdW cI a u) sz) ((mdW cI a) u9)) (va_A (mdW cI a u) sz)) 0 0 (va_A (mdW cI a u) sz) := by
  refine mkRWi (wf := (mdW cI a)) (by decide +kernel) (Nat.le_of_ble_eq_true rfl) (fun {p e s m args below meth c Q ls A H0 H locs} hx hb F hts hown hK hP hD hS hA hl hQ => ?_)
  have hown : s.vm.findClass RX4 = some m.cls := hown
  have F : CallFix p m c cX4_puts 6 s args wsT RX4 := F
  have hl : lv_has ls 6 [(0, .ref (a 0)), (1, .int p1), (2, .int p2), (3, .int p3), (4, .int p4)] := hl
  unfold wp_X4_puts at h
  refine lv_aload_n hx hb dX4_puts_0 rfl (lv_at hl 0 rfl) ?_
  refine va_get (D := D) (ci := 4) (v := .ref (a 1)) (C := RX4) (T := TX4) (N := 12) hx hb hts inT4 hown hK.k hP 0 rfl rfl 1 (by decide) (hts _ q_820) (fun _ h9 => h9) rfl dX4_puts_1 ?_
  refine lv_iconst (v := (1 : Int32)) hx hb dX4_puts_4 (by decide) ?_
  refine va_iald hx hb hK.k hP 1 0 rfl rfl h.1 dX4_puts_5 ?_
  replace h := h.2
  refine lv_istore (lv' := [(5, .int ((M_s u) (Int32.toNatClampNeg (1 : Int32)))), (0, .ref (a 0)), (1, .int p1), (2, .int p2), (3, .int p3), (4, .int p4)]) hx hb dX4_puts_6 hl (by decide) rfl (fun ls hl => ?_)
  refine lv_aload_n hx hb dX4_puts_8 rfl (lv_at hl 1 rfl) ?_
  refine lv_iload hx hb dX4_puts_9 (lv_at hl 0 rfl) ?_
  refine lv_iconst (v := (0 : Int32)) hx hb dX4_puts_11 (by decide) ?_
  refine lv_iload_n hx hb dX4_puts_12 rfl (lv_at hl 2 rfl) ?_
  refine rwVv0 (As := [.int ((M_s u) (Int32.toNatClampNeg (1 : Int32))), .int (0 : Int32), .int p1]) (rest := []) F (c_X4_lay4 l D cI cS cJ a u H.size ((M_s u) (Int32.toNatClampNeg (1 : Int32))) (0 : Int32) p1 h) (cw_X4_32 hts (Nat.le_of_ble_eq_true rfl) (Nat.le_of_ble_eq_true rfl)) hK hP hD hS hA (recv (ci := 4) (k0 := 0) hK hP rfl rfl) rfl hl.1 rfl (Nat.le_of_ble_eq_true rfl) dX4_puts_13 ⟨Nat.zero_le _, Nat.zero_le _⟩ (fun u2 H locs h hP hD hS => ?_)
  refine lv_aload_n hx hb dX4_puts_16 rfl (lv_at hl 1 rfl) ?_
  refine lv_iload hx hb dX4_puts_17 (lv_at hl 0 rfl) ?_
  refine lv_iconst (v := (1 : Int32)) hx hb dX4_puts_19 (by decide) ?_
  refine lv_iload_n hx hb dX4_puts_20 rfl (lv_at hl 3 rfl) ?_
  refine rwVv0 (As := [.int ((M_s u) (Int32.toNatClampNeg (1 : Int32))), .int (1 : Int32), .int p2]) (rest := []) F (c_X4_lay4 l D cI cS cJ a u2 H.size ((M_s u) (Int32.toNatClampNeg (1 : Int32))) (1 : Int32) p2 h) (cw_X4_32 hts (Nat.le_of_ble_eq_true rfl) (Nat.le_of_ble_eq_true rfl)) hK hP hD hS hA (recv (ci := 4) (k0 := 0) hK hP rfl rfl) rfl hl.1 rfl (Nat.le_of_ble_eq_true rfl) dX4_puts_21 ⟨Nat.zero_le _, Nat.zero_le _⟩ (fun u4 H locs h hP hD hS => ?_)
  refine lv_aload_n hx hb dX4_puts_24 rfl (lv_at hl 1 rfl) ?_
  refine lv_iload hx hb dX4_puts_25 (lv_at hl 0 rfl) ?_
  refine lv_iconst (v := (2 : Int32)) hx hb dX4_puts_27 (by decide) ?_
  refine lv_iload_n hx hb dX4_puts_28 rfl (lv_at hl 4 rfl) ?_
  refine rwVv0 (As := [.int ((M_s u) (Int32.toNatClampNeg (1 : Int32))), .int (2 : Int32), .int p3]) (rest := []) F (c_X4_lay4 l D cI cS cJ a u4 H.size ((M_s u) (Int32.toNatClampNeg (1 : Int32))) (2 : Int32) p3 h) (cw_X4_32 hts (Nat.le_of_ble_eq_true rfl) (Nat.le_of_ble_eq_true rfl)) hK hP hD hS hA (recv (ci := 4) (k0 := 0) hK hP rfl rfl) rfl hl.1 rfl (Nat.le_of_ble_eq_true rfl) dX4_puts_29 ⟨Nat.zero_le _, Nat.zero_le _⟩ (fun u6 H locs h hP hD hS => ?_)
  refine lv_aload_n hx hb dX4_puts_32 rfl (lv_at hl 1 rfl) ?_
  refine lv_iload hx hb dX4_puts_33 (lv_at hl 0 rfl) ?_
  refine lv_iconst (v := (3 : Int32)) hx hb dX4_puts_35 (by decide) ?_
  refine lv_iload hx hb dX4_puts_36 (lv_at hl 5 rfl) ?_
  refine rwVv0 (As := [.int ((M_s u) (Int32.toNatClampNeg (1 : Int32))), .int (3 : Int32), .int p4]) (rest := []) F (c_X4_lay4 l D cI cS cJ a u6 H.size ((M_s u) (Int32.toNatClampNeg (1 : Int32))) (3 : Int32) p4 h) (cw_X4_32 hts (Nat.le_of_ble_eq_true rfl) (Nat.le_of_ble_eq_true rfl)) hK hP hD hS hA (recv (ci := 4) (k0 := 0) hK hP rfl rfl) rfl hl.1 rfl (Nat.le_of_ble_eq_true rfl) dX4_puts_38 ⟨Nat.zero_le _, Nat.zero_le _⟩ (fun u8 H locs h hP hD hS => ?_)
  refine lv_aload_n hx hb dX4_puts_41 rfl (lv_at hl 1 rfl) ?_
  refine va_get (D := D) (ci := 4) (v := .ref (a 1)) (C := RX4) (T := TX4) (N := 12) hx hb hts inT4 hown hK.k hP 0 rfl rfl 1 (by decide) (hts _ q_820) (fun _ h9 => h9) rfl dX4_puts_42 ?_
  refine lv_iconst (v := (1 : Int32)) hx hb dX4_puts_45 (by decide) ?_
  refine lv_dup2_11 hx hb dX4_puts_46 rfl rfl ?_
  refine va_iald hx hb hK.k hP 1 0 rfl rfl h.1 dX4_puts_47 ?_
  replace h := h.2
  refine lv_iconst (v := (1 : Int32)) hx hb dX4_puts_48 (by decide) ?_
  refine lv_iadd hx hb dX4_puts_49 ?_
  refine va_iast hx hb hK.k hP hD hS 1 0 rfl rfl h.1 dX4_puts_50 (fun H locs hP hD hS => ?_)
  replace h := h.2
  have hP : va_P D vwCl (mdW cI a (wM_s u8 (Int32.toNatClampNeg (1 : Int32)) (((M_s u8) (Int32.toNatClampNeg (1 : Int32))) + (1 : Int32)))) H := hP
  have hD : va_D A (mdW cI a (wM_s u8 (Int32.toNatClampNeg (1 : Int32)) (((M_s u8) (Int32.toNatClampNeg (1 : Int32))) + (1 : Int32)))) := hD
  refine lv_iload hx hb dX4_puts_51 (lv_at hl 0 rfl) ?_
  exact hQ h hP hD hS dX4_puts_53

def wp_X4_sends (u : Md) (p1 : Int32) (p2 : Int32) (post : Int32 → Md → Prop) : Prop :=
  LP2 (fun (K3 : Int32 → Int32 → Prop) (x1 : Int32) (x2 : Int32) => (x2 ≤ 0 → (vp_in (3 : Int32) 854) ∧ ((vp_in (3 : Int32) 854) ∧ (wp_X4_puts (wM_s u (Int32.toNatClampNeg (3 : Int32)) (((M_s u) (Int32.toNatClampNeg (3 : Int32))) + (1 : Int32))) p1 (0 : Int32) x1 (0 : Int32) (fun r6 u7 => post r6 u7)))) ∧ (¬ x2 ≤ 0 → wp_X4_keyOf u p1 x2 (fun r8 => wp_X4_covered x1 r8 (fun r9 => K3 r9 (x2 + (-1)))))) p2 (3 : Int32)
set_option maxHeartbeats 4000000 in
set_option maxRecDepth 100000 in
theorem c_X4_sends (l : Launch) (D : va_G) (cI cS cJ : ClassId) (a : Nat → Nat) (u : Md) (sz : Nat) (p1 : Int32) (p2 : Int32) {post : Int32 → Md → Prop} (h : wp_X4_sends u p1 p2 post) : Met l yX4_sends (wsA yX4_sends cX4_sends 5 (some .int)) rm_X4_sends (va_Pc [.ref (a 0), .int p1, .int p2] (rwP D (tysA cI cS cJ) (mdW cI a u) sz)) (va_Qi post (fun u9 t => va_P D vwCl ((mdW cI a) u9) t.heap ∧ va_D (va_A (mdW cI a u) sz) ((mdW cI a) u9)) (va_A (mdW cI a u) sz)) 0 0 (va_A (mdW cI a u) sz) := by
  refine mkRWi (wf := (mdW cI a)) (by decide +kernel) (Nat.le_of_ble_eq_true rfl) (fun {p e s m args below meth c Q ls A H0 H locs} hx hb F hts hown hK hP hD hS hA hl hQ => ?_)
  have hown : s.vm.findClass RX4 = some m.cls := hown
  have F : CallFix p m c cX4_sends 5 s args wsT RX4 := F
  have hl : lv_has ls 5 [(0, .ref (a 0)), (1, .int p1), (2, .int p2)] := hl
  unfold wp_X4_sends at h
  refine lv_iload_n hx hb dX4_sends_0 rfl (lv_at hl 2 rfl) ?_
  refine lv_istore_n (lv' := [(3, .int p2), (0, .ref (a 0)), (1, .int p1), (2, .int p2)]) hx hb dX4_sends_1 rfl hl (by decide) rfl (fun ls hl => ?_)
  refine lv_iconst (v := (3 : Int32)) hx hb dX4_sends_2 (by decide) ?_
  refine lv_istore (lv' := [(4, .int (3 : Int32)), (3, .int p2), (0, .ref (a 0)), (1, .int p1), (2, .int p2)]) hx hb dX4_sends_3 hl (by decide) rfl (fun ls hl => ?_)
  refine lpu2 h (fun K3 : Int32 → Int32 → Prop => ∀ (x1 : Int32) (x2 : Int32) (ls : Array Slot) (H : Heap) (locs : List Loc), lv_has ls 5 [(0, .ref (a 0)), (1, .int p1), (3, .int x1), (4, .int x2)] → va_P D vwCl (mdW cI a u) H → va_D A (mdW cI a u) → va_S A H0 H locs → K3 x1 x2 → W p l e rm_X4_sends s m args below meth c H locs 0 0 Q (F0 m 5 ls [])) ?_ ?_ ?_
  · intro x1 x2 ls H locs hl hP hD hS h
    exact h.elim
  · intro K3
    intro w4 x1 x2 ls H locs hl hP hD hS h
    refine lv_iload hx hb dX4_sends_5 (lv_at hl 3 rfl) ?_
    refine lv_if_le (tgt := 28) hx hb dX4_sends_7 (by decide) (fun c5 => ?_) (fun c5 => ?_)
    · replace h := h.1 c5
      refine lv_aload_n hx hb dX4_sends_28 rfl (lv_at hl 0 rfl) ?_
      refine va_get (D := D) (ci := 4) (v := .ref (a 1)) (C := RX4) (T := TX4) (N := 12) hx hb hts inT4 hown hK.k hP 0 rfl rfl 1 (by decide) (hts _ q_820) (fun _ h9 => h9) rfl dX4_sends_29 ?_
      refine lv_iconst (v := (3 : Int32)) hx hb dX4_sends_32 (by decide) ?_
      refine lv_dup2_11 hx hb dX4_sends_33 rfl rfl ?_
      refine va_iald hx hb hK.k hP 1 0 rfl rfl h.1 dX4_sends_34 ?_
      replace h := h.2
      refine lv_iconst (v := (1 : Int32)) hx hb dX4_sends_35 (by decide) ?_
      refine lv_iadd hx hb dX4_sends_36 ?_
      refine va_iast hx hb hK.k hP hD hS 1 0 rfl rfl h.1 dX4_sends_37 (fun H locs hP hD hS => ?_)
      replace h := h.2
      have hP : va_P D vwCl (mdW cI a (wM_s u (Int32.toNatClampNeg (3 : Int32)) (((M_s u) (Int32.toNatClampNeg (3 : Int32))) + (1 : Int32)))) H := hP
      have hD : va_D A (mdW cI a (wM_s u (Int32.toNatClampNeg (3 : Int32)) (((M_s u) (Int32.toNatClampNeg (3 : Int32))) + (1 : Int32)))) := hD
      refine lv_aload_n hx hb dX4_sends_38 rfl (lv_at hl 0 rfl) ?_
      refine lv_iload_n hx hb dX4_sends_39 rfl (lv_at hl 1 rfl) ?_
      refine lv_iconst (v := (0 : Int32)) hx hb dX4_sends_40 (by decide) ?_
      refine lv_iload_n hx hb dX4_sends_41 rfl (lv_at hl 2 rfl) ?_
      refine lv_iconst (v := (0 : Int32)) hx hb dX4_sends_42 (by decide) ?_
      refine rwVi0 (As := [.int p1, .int (0 : Int32), .int x1, .int (0 : Int32)]) (rest := []) F (c_X4_puts l D cI cS cJ a (wM_s u (Int32.toNatClampNeg (3 : Int32)) (((M_s u) (Int32.toNatClampNeg (3 : Int32))) + (1 : Int32))) H.size p1 (0 : Int32) x1 (0 : Int32) h) (cw_X4_42 hts (Nat.le_of_ble_eq_true rfl) (Nat.le_of_ble_eq_true rfl)) hK hP hD hS hA (recv (ci := 4) (k0 := 0) hK hP rfl rfl) rfl hl.1 rfl (Nat.le_of_ble_eq_true rfl) dX4_sends_43 ⟨Nat.zero_le _, Nat.zero_le _⟩ (fun r6 u7 H locs h hP hD hS => ?_)
      exact hQ h hP hD hS dX4_sends_46
    · replace h := h.2 c5
      refine lv_iload_n hx hb dX4_sends_10 rfl (lv_at hl 2 rfl) ?_
      refine lv_aload_n hx hb dX4_sends_11 rfl (lv_at hl 0 rfl) ?_
      refine lv_iload_n hx hb dX4_sends_12 rfl (lv_at hl 1 rfl) ?_
      refine lv_iload hx hb dX4_sends_13 (lv_at hl 3 rfl) ?_
      refine roVi (As := [.int p1, .int x2]) (rest := [.int x1]) F (c_X4_keyOf l D cI cS cJ a u H p1 x2 h) (cw_X4_36 hts (Nat.le_of_ble_eq_true rfl) (Nat.le_of_ble_eq_true rfl)) hK hP (recv (ci := 4) (k0 := 0) hK hP rfl rfl) rfl hl.1 rfl (Nat.le_of_ble_eq_true rfl) dX4_sends_15 ⟨Nat.zero_le _, Nat.zero_le _⟩ (fun r8 h => ?_)
      refine roSi (As := [.int x1, .int r8]) (rest := []) F (c_X4_covered l D cI cS cJ H x1 r8 h) (cw_X4_39 hts (Nat.le_of_ble_eq_true rfl) (Nat.le_of_ble_eq_true rfl)) hK vP_nil rfl hl.1 rfl (Nat.le_of_ble_eq_true rfl) dX4_sends_18 ⟨Nat.zero_le _, Nat.zero_le _⟩ (fun r9 h => ?_)
      refine lv_istore_n (lv' := [(3, .int r9), (0, .ref (a 0)), (1, .int p1), (4, .int x2)]) hx hb dX4_sends_21 rfl hl (by decide) rfl (fun ls hl => ?_)
      refine lv_iinc (v := (x2 + (-1))) (lv' := [(4, .int (x2 + (-1))), (3, .int r9), (0, .ref (a 0)), (1, .int p1)]) hx hb dX4_sends_22 hl (k := 3) rfl rfl (by decide) rfl (fun ls hl => ?_)
      refine lv_goto (tgt := 5) hx hb dX4_sends_25 (by decide) ?_
      exact w4 r9 (x2 + (-1)) _ _ _ (lv_sub hl [2, 3, 1, 0] rfl) hP hD hS h
  · intro K3 w4 h
    exact w4 p2 (3 : Int32) _ _ _ (lv_sub hl [2, 3, 1, 0] rfl) hP hD hS h

def wp_X4_answers (u : Md) (p1 : Int32) (p2 : Int32) (post : Int32 → Md → Prop) : Prop :=
  (vp_in (5 : Int32) 854) ∧ ((vp_in (5 : Int32) 854) ∧ ((vp_in ((118 : Int32) + p1) 854) ∧ (wp_X4_puts (wM_s u (Int32.toNatClampNeg (5 : Int32)) (((M_s u) (Int32.toNatClampNeg (5 : Int32))) + (1 : Int32))) ((M_s (wM_s u (Int32.toNatClampNeg (5 : Int32)) (((M_s u) (Int32.toNatClampNeg (5 : Int32))) + (1 : Int32)))) (Int32.toNatClampNeg ((118 : Int32) + p1))) (4 : Int32) p2 (1 : Int32) (fun r1 u2 => post r1 u2))))
set_option maxHeartbeats 4000000 in
set_option maxRecDepth 100000 in
theorem c_X4_answers (l : Launch) (D : va_G) (cI cS cJ : ClassId) (a : Nat → Nat) (u : Md) (sz : Nat) (p1 : Int32) (p2 : Int32) {post : Int32 → Md → Prop} (h : wp_X4_answers u p1 p2 post) : Met l yX4_answers (wsA yX4_answers cX4_answers 3 (some .int)) rm_X4_answers (va_Pc [.ref (a 0), .int p1, .int p2] (rwP D (tysA cI cS cJ) (mdW cI a u) sz)) (va_Qi post (fun u9 t => va_P D vwCl ((mdW cI a) u9) t.heap ∧ va_D (va_A (mdW cI a u) sz) ((mdW cI a) u9)) (va_A (mdW cI a u) sz)) 0 0 (va_A (mdW cI a u) sz) := by
  refine mkRWi (wf := (mdW cI a)) (by decide +kernel) (Nat.le_of_ble_eq_true rfl) (fun {p e s m args below meth c Q ls A H0 H locs} hx hb F hts hown hK hP hD hS hA hl hQ => ?_)
  have hown : s.vm.findClass RX4 = some m.cls := hown
  have F : CallFix p m c cX4_answers 3 s args wsT RX4 := F
  have hl : lv_has ls 3 [(0, .ref (a 0)), (1, .int p1), (2, .int p2)] := hl
  unfold wp_X4_answers at h
  refine lv_aload_n hx hb dX4_answers_0 rfl (lv_at hl 0 rfl) ?_
  refine va_get (D := D) (ci := 4) (v := .ref (a 1)) (C := RX4) (T := TX4) (N := 12) hx hb hts inT4 hown hK.k hP 0 rfl rfl 1 (by decide) (hts _ q_820) (fun _ h9 => h9) rfl dX4_answers_1 ?_
  refine lv_iconst (v := (5 : Int32)) hx hb dX4_answers_4 (by decide) ?_
  refine lv_dup2_11 hx hb dX4_answers_5 rfl rfl ?_
  refine va_iald hx hb hK.k hP 1 0 rfl rfl h.1 dX4_answers_6 ?_
  replace h := h.2
  refine lv_iconst (v := (1 : Int32)) hx hb dX4_answers_7 (by decide) ?_
  refine lv_iadd hx hb dX4_answers_8 ?_
  refine va_iast hx hb hK.k hP hD hS 1 0 rfl rfl h.1 dX4_answers_9 (fun H locs hP hD hS => ?_)
  replace h := h.2
  have hP : va_P D vwCl (mdW cI a (wM_s u (Int32.toNatClampNeg (5 : Int32)) (((M_s u) (Int32.toNatClampNeg (5 : Int32))) + (1 : Int32)))) H := hP
  have hD : va_D A (mdW cI a (wM_s u (Int32.toNatClampNeg (5 : Int32)) (((M_s u) (Int32.toNatClampNeg (5 : Int32))) + (1 : Int32)))) := hD
  refine lv_aload_n hx hb dX4_answers_10 rfl (lv_at hl 0 rfl) ?_
  refine lv_aload_n hx hb dX4_answers_11 rfl (lv_at hl 0 rfl) ?_
  refine va_get (D := D) (ci := 4) (v := .ref (a 1)) (C := RX4) (T := TX4) (N := 12) hx hb hts inT4 hown hK.k hP 0 rfl rfl 1 (by decide) (hts _ q_820) (fun _ h9 => h9) rfl dX4_answers_12 ?_
  refine lv_bipush (v := (118 : Int32)) hx hb dX4_answers_15 (by decide) ?_
  refine lv_iload_n hx hb dX4_answers_17 rfl (lv_at hl 1 rfl) ?_
  refine lv_iadd hx hb dX4_answers_18 ?_
  refine va_iald hx hb hK.k hP 1 0 rfl rfl h.1 dX4_answers_19 ?_
  replace h := h.2
  refine lv_iconst (v := (4 : Int32)) hx hb dX4_answers_20 (by decide) ?_
  refine lv_iload_n hx hb dX4_answers_21 rfl (lv_at hl 2 rfl) ?_
  refine lv_iconst (v := (1 : Int32)) hx hb dX4_answers_22 (by decide) ?_
  refine rwVi0 (As := [.int ((M_s (wM_s u (Int32.toNatClampNeg (5 : Int32)) (((M_s u) (Int32.toNatClampNeg (5 : Int32))) + (1 : Int32)))) (Int32.toNatClampNeg ((118 : Int32) + p1))), .int (4 : Int32), .int p2, .int (1 : Int32)]) (rest := []) F (c_X4_puts l D cI cS cJ a (wM_s u (Int32.toNatClampNeg (5 : Int32)) (((M_s u) (Int32.toNatClampNeg (5 : Int32))) + (1 : Int32))) H.size ((M_s (wM_s u (Int32.toNatClampNeg (5 : Int32)) (((M_s u) (Int32.toNatClampNeg (5 : Int32))) + (1 : Int32)))) (Int32.toNatClampNeg ((118 : Int32) + p1))) (4 : Int32) p2 (1 : Int32) h) (cw_X4_42 hts (Nat.le_of_ble_eq_true rfl) (Nat.le_of_ble_eq_true rfl)) hK hP hD hS hA (recv (ci := 4) (k0 := 0) hK hP rfl rfl) rfl hl.1 rfl (Nat.le_of_ble_eq_true rfl) dX4_answers_23 ⟨Nat.zero_le _, Nat.zero_le _⟩ (fun r1 u2 H locs h hP hD hS => ?_)
  exact hQ h hP hD hS dX4_answers_26

def wp_X4_leaves (u : Md) (p1 : Int32) (post : Md → Prop) : Prop :=
  wp_X4_lay4 u p1 (0 : Int32) (-1 : Int32) (fun u2 => post u2)
set_option maxHeartbeats 4000000 in
set_option maxRecDepth 100000 in
theorem c_X4_leaves (l : Launch) (D : va_G) (cI cS cJ : ClassId) (a : Nat → Nat) (u : Md) (sz : Nat) (p1 : Int32) {post : Md → Prop} (h : wp_X4_leaves u p1 post) : Met l yX4_leaves (wsA yX4_leaves cX4_leaves 2 none) rm_X4_leaves (va_Pc [.ref (a 0), .int p1] (rwP D (tysA cI cS cJ) (mdW cI a u) sz)) (va_Qv post (fun u9 t => va_P D vwCl ((mdW cI a) u9) t.heap ∧ va_D (va_A (mdW cI a u) sz) ((mdW cI a) u9)) (va_A (mdW cI a u) sz)) 0 0 (va_A (mdW cI a u) sz) := by
  refine mkRWv (wf := (mdW cI a)) (by decide +kernel) (Nat.le_of_ble_eq_true rfl) (fun {p e s m args below meth c Q ls A H0 H locs} hx hb F hts hown hin hK hP hD hS hA hl hQ => ?_)
  have hown : s.vm.findClass RX4 = some m.cls := hown
  have F : CallFix p m c cX4_leaves 2 s args wsT RX4 := F
  have hl : lv_has ls 2 [(0, .ref (a 0)), (1, .int p1)] := hl
  unfold wp_X4_leaves at h
  refine lv_aload_n hx hb dX4_leaves_0 rfl (lv_at hl 0 rfl) ?_
  refine lv_iload_n hx hb dX4_leaves_1 rfl (lv_at hl 1 rfl) ?_
  refine lv_iconst (v := (0 : Int32)) hx hb dX4_leaves_2 (by decide) ?_
  refine lv_iconst (v := (-1 : Int32)) hx hb dX4_leaves_3 (by decide) ?_
  refine rwVv0 (As := [.int p1, .int (0 : Int32), .int (-1 : Int32)]) (rest := []) F (c_X4_lay4 l D cI cS cJ a u H.size p1 (0 : Int32) (-1 : Int32) h) (cw_X4_32 hts (Nat.le_of_ble_eq_true rfl) (Nat.le_of_ble_eq_true rfl)) hK hP hD hS hA (recv (ci := 4) (k0 := 0) hK hP rfl rfl) rfl hl.1 rfl (Nat.le_of_ble_eq_true rfl) dX4_leaves_4 ⟨Nat.zero_le _, Nat.zero_le _⟩ (fun u2 H locs h hP hD hS => ?_)
  exact hQ h hP hD hS dX4_leaves_7

def wp_X4_arrives (u : Md) (p1 : Int32) (post : Md → Prop) : Prop :=
  wp_X4_of u p1 (0 : Int32) (fun r1 => wp_X4_of u p1 (2 : Int32) (fun r2 => wp_X4_of u p1 (3 : Int32) (fun r3 => jn (fun (u4 : Md) => wp_X4_leaves u4 p1 (fun u9 => post u9)) (fun (J5 : Md → Prop) => (¬ r3 = 0 → LP2 (fun (K13 : Int32 → Int32 → Prop) (x11 : Int32) (x12 : Int32) => ((4 : Int32) ≤ x12 → (vp_in (2 : Int32) 854) ∧ ((vp_in (6 : Int32) 854) ∧ ((vp_in (6 : Int32) 854) ∧ (J5 (wM_s (wM_s u (Int32.toNatClampNeg (2 : Int32)) x11) (Int32.toNatClampNeg (6 : Int32)) (((M_s (wM_s u (Int32.toNatClampNeg (2 : Int32)) x11)) (Int32.toNatClampNeg (6 : Int32))) + (1 : Int32))))))) ∧ (¬ (4 : Int32) ≤ x12 → wp_X4_keyOf u r1 x12 (fun r16 => wp_X4_uncovered x11 r16 (fun r17 => K13 r17 (x12 + 1))))) r2 (1 : Int32)) ∧ (r3 = 0 → wp_X4_hallOf u r1 (fun r18 => (vp_in ((114 : Int32) + r18) 854) ∧ (wp_X4_hallOf (wM_s u (Int32.toNatClampNeg ((114 : Int32) + r18)) r2) r1 (fun r19 => (vp_in ((118 : Int32) + r19) 854) ∧ ((vp_in (4 : Int32) 854) ∧ ((vp_in (4 : Int32) 854) ∧ (J5 (wM_s (wM_s (wM_s u (Int32.toNatClampNeg ((114 : Int32) + r18)) r2) (Int32.toNatClampNeg ((118 : Int32) + r19)) r1) (Int32.toNatClampNeg (4 : Int32)) (((M_s (wM_s (wM_s u (Int32.toNatClampNeg ((114 : Int32) + r18)) r2) (Int32.toNatClampNeg ((118 : Int32) + r19)) r1)) (Int32.toNatClampNeg (4 : Int32))) + (1 : Int32))))))))))))))
set_option maxHeartbeats 4000000 in
set_option maxRecDepth 100000 in
theorem c_X4_arrives (l : Launch) (D : va_G) (cI cS cJ : ClassId) (a : Nat → Nat) (u : Md) (sz : Nat) (p1 : Int32) {post : Md → Prop} (h : wp_X4_arrives u p1 post) : Met l yX4_arrives (wsA yX4_arrives cX4_arrives 5 none) rm_X4_arrives (va_Pc [.ref (a 0), .int p1] (rwP D (tysA cI cS cJ) (mdW cI a u) sz)) (va_Qv post (fun u9 t => va_P D vwCl ((mdW cI a) u9) t.heap ∧ va_D (va_A (mdW cI a u) sz) ((mdW cI a) u9)) (va_A (mdW cI a u) sz)) 0 0 (va_A (mdW cI a u) sz) := by
  refine mkRWv (wf := (mdW cI a)) (by decide +kernel) (Nat.le_of_ble_eq_true rfl) (fun {p e s m args below meth c Q ls A H0 H locs} hx hb F hts hown hin hK hP hD hS hA hl hQ => ?_)
  have hown : s.vm.findClass RX4 = some m.cls := hown
  have F : CallFix p m c cX4_arrives 5 s args wsT RX4 := F
  have hl : lv_has ls 5 [(0, .ref (a 0)), (1, .int p1)] := hl
  unfold wp_X4_arrives at h
  refine lv_aload_n hx hb dX4_arrives_0 rfl (lv_at hl 0 rfl) ?_
  refine lv_iload_n hx hb dX4_arrives_1 rfl (lv_at hl 1 rfl) ?_
  refine lv_iconst (v := (0 : Int32)) hx hb dX4_arrives_2 (by decide) ?_
  refine roVi (As := [.int p1, .int (0 : Int32)]) (rest := []) F (c_X4_of l D cI cS cJ a u H p1 (0 : Int32) h) (cw_X4_46 hts (Nat.le_of_ble_eq_true rfl) (Nat.le_of_ble_eq_true rfl)) hK hP (recv (ci := 4) (k0 := 0) hK hP rfl rfl) rfl hl.1 rfl (Nat.le_of_ble_eq_true rfl) dX4_arrives_3 ⟨Nat.zero_le _, Nat.zero_le _⟩ (fun r1 h => ?_)
  refine lv_istore_n (lv' := [(2, .int r1), (0, .ref (a 0)), (1, .int p1)]) hx hb dX4_arrives_6 rfl hl (by decide) rfl (fun ls hl => ?_)
  refine lv_aload_n hx hb dX4_arrives_7 rfl (lv_at hl 1 rfl) ?_
  refine lv_iload_n hx hb dX4_arrives_8 rfl (lv_at hl 2 rfl) ?_
  refine lv_iconst (v := (2 : Int32)) hx hb dX4_arrives_9 (by decide) ?_
  refine roVi (As := [.int p1, .int (2 : Int32)]) (rest := []) F (c_X4_of l D cI cS cJ a u H p1 (2 : Int32) h) (cw_X4_46 hts (Nat.le_of_ble_eq_true rfl) (Nat.le_of_ble_eq_true rfl)) hK hP (recv (ci := 4) (k0 := 0) hK hP rfl rfl) rfl hl.1 rfl (Nat.le_of_ble_eq_true rfl) dX4_arrives_10 ⟨Nat.zero_le _, Nat.zero_le _⟩ (fun r2 h => ?_)
  refine lv_istore_n (lv' := [(3, .int r2), (2, .int r1), (0, .ref (a 0)), (1, .int p1)]) hx hb dX4_arrives_13 rfl hl (by decide) rfl (fun ls hl => ?_)
  refine lv_aload_n hx hb dX4_arrives_14 rfl (lv_at hl 2 rfl) ?_
  refine lv_iload_n hx hb dX4_arrives_15 rfl (lv_at hl 3 rfl) ?_
  refine lv_iconst (v := (3 : Int32)) hx hb dX4_arrives_16 (by decide) ?_
  refine roVi (As := [.int p1, .int (3 : Int32)]) (rest := []) F (c_X4_of l D cI cS cJ a u H p1 (3 : Int32) h) (cw_X4_46 hts (Nat.le_of_ble_eq_true rfl) (Nat.le_of_ble_eq_true rfl)) hK hP (recv (ci := 4) (k0 := 0) hK hP rfl rfl) rfl hl.1 rfl (Nat.le_of_ble_eq_true rfl) dX4_arrives_17 ⟨Nat.zero_le _, Nat.zero_le _⟩ (fun r3 h => ?_)
  refine jn_e h (fun J5 e7 h => ?_)
  have w6 : ∀ (u4 : Md) (ls : Array Slot) (H : Heap) (locs : List Loc), lv_has ls 5 [(0, .ref (a 0)), (1, .int p1)] → va_P D vwCl (mdW cI a u4) H → va_D A (mdW cI a u4) → va_S A H0 H locs → J5 u4 → W p l e rm_X4_arrives s m args below meth c H locs 0 0 Q (F0 m 109 ls []) := by
    intro u4 ls H locs hl hP hD hS h
    subst e7
    refine lv_aload_n hx hb dX4_arrives_109 rfl (lv_at hl 0 rfl) ?_
    refine lv_iload_n hx hb dX4_arrives_110 rfl (lv_at hl 1 rfl) ?_
    refine rwVv0 (As := [.int p1]) (rest := []) F (c_X4_leaves l D cI cS cJ a u4 H.size p1 h) (cw_X4_56 hts (Nat.le_of_ble_eq_true rfl) (Nat.le_of_ble_eq_true rfl)) hK hP hD hS hA (recv (ci := 4) (k0 := 0) hK hP rfl rfl) rfl hl.1 rfl (Nat.le_of_ble_eq_true rfl) dX4_arrives_111 ⟨Nat.zero_le _, Nat.zero_le _⟩ (fun u9 H locs h hP hD hS => ?_)
    exact hQ h hP hD hS dX4_arrives_114
  clear e7
  refine lv_if_ne (tgt := 64) hx hb dX4_arrives_20 (by decide) (fun c10 => ?_) (fun c10 => ?_)
  · replace h := h.1 c10
    refine lv_iconst (v := (1 : Int32)) hx hb dX4_arrives_64 (by decide) ?_
    refine lv_istore (lv' := [(4, .int (1 : Int32)), (3, .int r2), (2, .int r1), (0, .ref (a 0)), (1, .int p1)]) hx hb dX4_arrives_65 hl (by decide) rfl (fun ls hl => ?_)
    refine lpu2 h (fun K13 : Int32 → Int32 → Prop => ∀ (x11 : Int32) (x12 : Int32) (ls : Array Slot) (H : Heap) (locs : List Loc), lv_has ls 5 [(0, .ref (a 0)), (1, .int p1), (2, .int r1), (3, .int x11), (4, .int x12)] → va_P D vwCl (mdW cI a u) H → va_D A (mdW cI a u) → va_S A H0 H locs → K13 x11 x12 → W p l e rm_X4_arrives s m args below meth c H locs 0 0 Q (F0 m 67 ls [])) ?_ ?_ ?_
    · intro x11 x12 ls H locs hl hP hD hS h
      exact h.elim
    · intro K13
      intro w14 x11 x12 ls H locs hl hP hD hS h
      refine lv_iload hx hb dX4_arrives_67 (lv_at hl 4 rfl) ?_
      refine lv_iconst (v := (4 : Int32)) hx hb dX4_arrives_69 (by decide) ?_
      refine lv_icmp_ge (tgt := 91) hx hb dX4_arrives_70 (by decide) (fun c15 => ?_) (fun c15 => ?_)
      · replace h := h.1 c15
        refine lv_aload_n hx hb dX4_arrives_91 rfl (lv_at hl 0 rfl) ?_
        refine va_get (D := D) (ci := 4) (v := .ref (a 1)) (C := RX4) (T := TX4) (N := 12) hx hb hts inT4 hown hK.k hP 0 rfl rfl 1 (by decide) (hts _ q_820) (fun _ h9 => h9) rfl dX4_arrives_92 ?_
        refine lv_iconst (v := (2 : Int32)) hx hb dX4_arrives_95 (by decide) ?_
        refine lv_iload_n hx hb dX4_arrives_96 rfl (lv_at hl 3 rfl) ?_
        refine va_iast hx hb hK.k hP hD hS 1 0 rfl rfl h.1 dX4_arrives_97 (fun H locs hP hD hS => ?_)
        replace h := h.2
        have hP : va_P D vwCl (mdW cI a (wM_s u (Int32.toNatClampNeg (2 : Int32)) x11)) H := hP
        have hD : va_D A (mdW cI a (wM_s u (Int32.toNatClampNeg (2 : Int32)) x11)) := hD
        refine lv_aload_n hx hb dX4_arrives_98 rfl (lv_at hl 0 rfl) ?_
        refine va_get (D := D) (ci := 4) (v := .ref (a 1)) (C := RX4) (T := TX4) (N := 12) hx hb hts inT4 hown hK.k hP 0 rfl rfl 1 (by decide) (hts _ q_820) (fun _ h9 => h9) rfl dX4_arrives_99 ?_
        refine lv_bipush (v := (6 : Int32)) hx hb dX4_arrives_102 (by decide) ?_
        refine lv_dup2_11 hx hb dX4_arrives_104 rfl rfl ?_
        refine va_iald hx hb hK.k hP 1 0 rfl rfl h.1 dX4_arrives_105 ?_
        replace h := h.2
        refine lv_iconst (v := (1 : Int32)) hx hb dX4_arrives_106 (by decide) ?_
        refine lv_iadd hx hb dX4_arrives_107 ?_
        refine va_iast hx hb hK.k hP hD hS 1 0 rfl rfl h.1 dX4_arrives_108 (fun H locs hP hD hS => ?_)
        replace h := h.2
        have hP : va_P D vwCl (mdW cI a (wM_s (wM_s u (Int32.toNatClampNeg (2 : Int32)) x11) (Int32.toNatClampNeg (6 : Int32)) (((M_s (wM_s u (Int32.toNatClampNeg (2 : Int32)) x11)) (Int32.toNatClampNeg (6 : Int32))) + (1 : Int32)))) H := hP
        have hD : va_D A (mdW cI a (wM_s (wM_s u (Int32.toNatClampNeg (2 : Int32)) x11) (Int32.toNatClampNeg (6 : Int32)) (((M_s (wM_s u (Int32.toNatClampNeg (2 : Int32)) x11)) (Int32.toNatClampNeg (6 : Int32))) + (1 : Int32)))) := hD
        exact w6 (wM_s (wM_s u (Int32.toNatClampNeg (2 : Int32)) x11) (Int32.toNatClampNeg (6 : Int32)) (((M_s (wM_s u (Int32.toNatClampNeg (2 : Int32)) x11)) (Int32.toNatClampNeg (6 : Int32))) + (1 : Int32))) _ _ _ (lv_sub hl [0, 1] rfl) hP hD hS h
      · replace h := h.2 c15
        refine lv_iload_n hx hb dX4_arrives_73 rfl (lv_at hl 3 rfl) ?_
        refine lv_aload_n hx hb dX4_arrives_74 rfl (lv_at hl 0 rfl) ?_
        refine lv_iload_n hx hb dX4_arrives_75 rfl (lv_at hl 2 rfl) ?_
        refine lv_iload hx hb dX4_arrives_76 (lv_at hl 4 rfl) ?_
        refine roVi (As := [.int r1, .int x12]) (rest := [.int x11]) F (c_X4_keyOf l D cI cS cJ a u H r1 x12 h) (cw_X4_36 hts (Nat.le_of_ble_eq_true rfl) (Nat.le_of_ble_eq_true rfl)) hK hP (recv (ci := 4) (k0 := 0) hK hP rfl rfl) rfl hl.1 rfl (Nat.le_of_ble_eq_true rfl) dX4_arrives_78 ⟨Nat.zero_le _, Nat.zero_le _⟩ (fun r16 h => ?_)
        refine roSi (As := [.int x11, .int r16]) (rest := []) F (c_X4_uncovered l D cI cS cJ H x11 r16 h) (cw_X4_53 hts (Nat.le_of_ble_eq_true rfl) (Nat.le_of_ble_eq_true rfl)) hK vP_nil rfl hl.1 rfl (Nat.le_of_ble_eq_true rfl) dX4_arrives_81 ⟨Nat.zero_le _, Nat.zero_le _⟩ (fun r17 h => ?_)
        refine lv_istore_n (lv' := [(3, .int r17), (0, .ref (a 0)), (1, .int p1), (2, .int r1), (4, .int x12)]) hx hb dX4_arrives_84 rfl hl (by decide) rfl (fun ls hl => ?_)
        refine lv_iinc (v := (x12 + 1)) (lv' := [(4, .int (x12 + 1)), (3, .int r17), (0, .ref (a 0)), (1, .int p1), (2, .int r1)]) hx hb dX4_arrives_85 hl (k := 4) rfl rfl (by decide) rfl (fun ls hl => ?_)
        refine lv_goto (tgt := 67) hx hb dX4_arrives_88 (by decide) ?_
        exact w14 r17 (x12 + 1) _ _ _ (lv_sub hl [2, 3, 4, 1, 0] rfl) hP hD hS h
    · intro K13 w14 h
      exact w14 r2 (1 : Int32) _ _ _ (lv_sub hl [3, 4, 2, 1, 0] rfl) hP hD hS h
  · replace h := h.2 c10
    refine lv_aload_n hx hb dX4_arrives_23 rfl (lv_at hl 2 rfl) ?_
    refine va_get (D := D) (ci := 4) (v := .ref (a 1)) (C := RX4) (T := TX4) (N := 12) hx hb hts inT4 hown hK.k hP 0 rfl rfl 1 (by decide) (hts _ q_820) (fun _ h9 => h9) rfl dX4_arrives_24 ?_
    refine lv_bipush (v := (114 : Int32)) hx hb dX4_arrives_27 (by decide) ?_
    refine lv_aload_n hx hb dX4_arrives_29 rfl (lv_at hl 2 rfl) ?_
    refine lv_iload_n hx hb dX4_arrives_30 rfl (lv_at hl 1 rfl) ?_
    refine roVi (As := [.int r1]) (rest := [.int (114 : Int32), .ref (a 1)]) F (c_X4_hallOf l D cI cS cJ a u H r1 h) (cw_X4_49 hts (Nat.le_of_ble_eq_true rfl) (Nat.le_of_ble_eq_true rfl)) hK hP (recv (ci := 4) (k0 := 0) hK hP rfl rfl) rfl hl.1 rfl (Nat.le_of_ble_eq_true rfl) dX4_arrives_31 ⟨Nat.zero_le _, Nat.zero_le _⟩ (fun r18 h => ?_)
    refine lv_iadd hx hb dX4_arrives_34 ?_
    refine lv_iload_n hx hb dX4_arrives_35 rfl (lv_at hl 0 rfl) ?_
    refine va_iast hx hb hK.k hP hD hS 1 0 rfl rfl h.1 dX4_arrives_36 (fun H locs hP hD hS => ?_)
    replace h := h.2
    have hP : va_P D vwCl (mdW cI a (wM_s u (Int32.toNatClampNeg ((114 : Int32) + r18)) r2)) H := hP
    have hD : va_D A (mdW cI a (wM_s u (Int32.toNatClampNeg ((114 : Int32) + r18)) r2)) := hD
    refine lv_aload_n hx hb dX4_arrives_37 rfl (lv_at hl 2 rfl) ?_
    refine va_get (D := D) (ci := 4) (v := .ref (a 1)) (C := RX4) (T := TX4) (N := 12) hx hb hts inT4 hown hK.k hP 0 rfl rfl 1 (by decide) (hts _ q_820) (fun _ h9 => h9) rfl dX4_arrives_38 ?_
    refine lv_bipush (v := (118 : Int32)) hx hb dX4_arrives_41 (by decide) ?_
    refine lv_aload_n hx hb dX4_arrives_43 rfl (lv_at hl 2 rfl) ?_
    refine lv_iload_n hx hb dX4_arrives_44 rfl (lv_at hl 1 rfl) ?_
    refine roVi (As := [.int r1]) (rest := [.int (118 : Int32), .ref (a 1)]) F (c_X4_hallOf l D cI cS cJ a (wM_s u (Int32.toNatClampNeg ((114 : Int32) + r18)) r2) H r1 h) (cw_X4_49 hts (Nat.le_of_ble_eq_true rfl) (Nat.le_of_ble_eq_true rfl)) hK hP (recv (ci := 4) (k0 := 0) hK hP rfl rfl) rfl hl.1 rfl (Nat.le_of_ble_eq_true rfl) dX4_arrives_45 ⟨Nat.zero_le _, Nat.zero_le _⟩ (fun r19 h => ?_)
    refine lv_iadd hx hb dX4_arrives_48 ?_
    refine lv_iload_n hx hb dX4_arrives_49 rfl (lv_at hl 1 rfl) ?_
    refine va_iast hx hb hK.k hP hD hS 1 0 rfl rfl h.1 dX4_arrives_50 (fun H locs hP hD hS => ?_)
    replace h := h.2
    have hP : va_P D vwCl (mdW cI a (wM_s (wM_s u (Int32.toNatClampNeg ((114 : Int32) + r18)) r2) (Int32.toNatClampNeg ((118 : Int32) + r19)) r1)) H := hP
    have hD : va_D A (mdW cI a (wM_s (wM_s u (Int32.toNatClampNeg ((114 : Int32) + r18)) r2) (Int32.toNatClampNeg ((118 : Int32) + r19)) r1)) := hD
    refine lv_aload_n hx hb dX4_arrives_51 rfl (lv_at hl 2 rfl) ?_
    refine va_get (D := D) (ci := 4) (v := .ref (a 1)) (C := RX4) (T := TX4) (N := 12) hx hb hts inT4 hown hK.k hP 0 rfl rfl 1 (by decide) (hts _ q_820) (fun _ h9 => h9) rfl dX4_arrives_52 ?_
    refine lv_iconst (v := (4 : Int32)) hx hb dX4_arrives_55 (by decide) ?_
    refine lv_dup2_11 hx hb dX4_arrives_56 rfl rfl ?_
    refine va_iald hx hb hK.k hP 1 0 rfl rfl h.1 dX4_arrives_57 ?_
    replace h := h.2
    refine lv_iconst (v := (1 : Int32)) hx hb dX4_arrives_58 (by decide) ?_
    refine lv_iadd hx hb dX4_arrives_59 ?_
    refine va_iast hx hb hK.k hP hD hS 1 0 rfl rfl h.1 dX4_arrives_60 (fun H locs hP hD hS => ?_)
    replace h := h.2
    have hP : va_P D vwCl (mdW cI a (wM_s (wM_s (wM_s u (Int32.toNatClampNeg ((114 : Int32) + r18)) r2) (Int32.toNatClampNeg ((118 : Int32) + r19)) r1) (Int32.toNatClampNeg (4 : Int32)) (((M_s (wM_s (wM_s u (Int32.toNatClampNeg ((114 : Int32) + r18)) r2) (Int32.toNatClampNeg ((118 : Int32) + r19)) r1)) (Int32.toNatClampNeg (4 : Int32))) + (1 : Int32)))) H := hP
    have hD : va_D A (mdW cI a (wM_s (wM_s (wM_s u (Int32.toNatClampNeg ((114 : Int32) + r18)) r2) (Int32.toNatClampNeg ((118 : Int32) + r19)) r1) (Int32.toNatClampNeg (4 : Int32)) (((M_s (wM_s (wM_s u (Int32.toNatClampNeg ((114 : Int32) + r18)) r2) (Int32.toNatClampNeg ((118 : Int32) + r19)) r1)) (Int32.toNatClampNeg (4 : Int32))) + (1 : Int32)))) := hD
    refine lv_goto (tgt := 109) hx hb dX4_arrives_61 (by decide) ?_
    exact w6 (wM_s (wM_s (wM_s u (Int32.toNatClampNeg ((114 : Int32) + r18)) r2) (Int32.toNatClampNeg ((118 : Int32) + r19)) r1) (Int32.toNatClampNeg (4 : Int32)) (((M_s (wM_s (wM_s u (Int32.toNatClampNeg ((114 : Int32) + r18)) r2) (Int32.toNatClampNeg ((118 : Int32) + r19)) r1)) (Int32.toNatClampNeg (4 : Int32))) + (1 : Int32))) _ _ _ (lv_sub hl [2, 3] rfl) hP hD hS h

def wp_X4_moves (u : Md) (p1 : Int32) (post : Md → Prop) : Prop :=
  wp_X4_of u p1 (3 : Int32) (fun r1 => jn (fun (x2 : Int32) => wp_X4_of u p1 (1 : Int32) (fun r7 => jn (fun (x8 : Int32) => wp_X4_of u p1 (0 : Int32) (fun r12 => wp_X4_lay4 u p1 (1 : Int32) (r7 + x8) (fun u14 => wp_X4_in (r7 + x8) (1 : Int32) (3 : Int32) (fun r15 => (¬ r15 = 0 → wp_X4_innOf u14 r12 (r7 + x8) (fun r18 => wp_X4_isOpenNow u14 r18 (fun r19 => (¬ r19 = 0 → wp_X4_keyOf u14 r12 (r7 + x8) (fun r22 => wp_X4_of u14 p1 (2 : Int32) (fun r23 => jn (fun (x24 : Int32) => wp_X4_lay4 u14 p1 (2 : Int32) x24 (fun u29 => post u29)) (fun (J25 : Int32 → Prop) => (x2 = 0 → wp_X4_uncovered r23 r22 (fun r31 => J25 r31)) ∧ (¬ x2 = 0 → wp_X4_covered r23 r22 (fun r32 => J25 r32)))))) ∧ (r19 = 0 → (vp_in (7 : Int32) 854) ∧ ((vp_in (7 : Int32) 854) ∧ (wp_X4_leaves (wM_s u14 (Int32.toNatClampNeg (7 : Int32)) (((M_s u14) (Int32.toNatClampNeg (7 : Int32))) + (1 : Int32))) p1 (fun u34 => post u34))))))) ∧ (r15 = 0 → wp_X4_arrives u14 p1 (fun u36 => post u36)))))) (fun (J9 : Int32 → Prop) => (x2 = 0 → J9 (1 : Int32)) ∧ (¬ x2 = 0 → J9 (-1 : Int32))))) (fun (J4 : Int32 → Prop) => (¬ r1 = (1 : Int32) → J4 (0 : Int32)) ∧ (r1 = (1 : Int32) → J4 (1 : Int32))))
set_option maxHeartbeats 4000000 in
set_option maxRecDepth 100000 in
theorem c_X4_moves (l : Launch) (D : va_G) (cI cS cJ : ClassId) (a : Nat → Nat) (u : Md) (sz : Nat) (p1 : Int32) {post : Md → Prop} (h : wp_X4_moves u p1 post) : Met l yX4_moves (wsA yX4_moves cX4_moves 7 none) rm_X4_moves (va_Pc [.ref (a 0), .int p1] (rwP D (tysA cI cS cJ) (mdW cI a u) sz)) (va_Qv post (fun u9 t => va_P D vwCl ((mdW cI a) u9) t.heap ∧ va_D (va_A (mdW cI a u) sz) ((mdW cI a) u9)) (va_A (mdW cI a u) sz)) 0 0 (va_A (mdW cI a u) sz) := by
  refine mkRWv (wf := (mdW cI a)) (by decide +kernel) (Nat.le_of_ble_eq_true rfl) (fun {p e s m args below meth c Q ls A H0 H locs} hx hb F hts hown hin hK hP hD hS hA hl hQ => ?_)
  have hown : s.vm.findClass RX4 = some m.cls := hown
  have F : CallFix p m c cX4_moves 7 s args wsT RX4 := F
  have hl : lv_has ls 7 [(0, .ref (a 0)), (1, .int p1)] := hl
  unfold wp_X4_moves at h
  refine lv_aload_n hx hb dX4_moves_0 rfl (lv_at hl 0 rfl) ?_
  refine lv_iload_n hx hb dX4_moves_1 rfl (lv_at hl 1 rfl) ?_
  refine lv_iconst (v := (3 : Int32)) hx hb dX4_moves_2 (by decide) ?_
  refine roVi (As := [.int p1, .int (3 : Int32)]) (rest := []) F (c_X4_of l D cI cS cJ a u H p1 (3 : Int32) h) (cw_X4_46 hts (Nat.le_of_ble_eq_true rfl) (Nat.le_of_ble_eq_true rfl)) hK hP (recv (ci := 4) (k0 := 0) hK hP rfl rfl) rfl hl.1 rfl (Nat.le_of_ble_eq_true rfl) dX4_moves_3 ⟨Nat.zero_le _, Nat.zero_le _⟩ (fun r1 h => ?_)
  refine lv_iconst (v := (1 : Int32)) hx hb dX4_moves_6 (by decide) ?_
  refine jn_e h (fun J4 e6 h => ?_)
  have w5 : ∀ (x2 : Int32) (ls : Array Slot) (H : Heap) (locs : List Loc), bz x2 → lv_has ls 7 [(0, .ref (a 0)), (1, .int p1)] → va_P D vwCl (mdW cI a u) H → va_D A (mdW cI a u) → va_S A H0 H locs → J4 x2 → W p l e rm_X4_moves s m args below meth c H locs 0 0 Q (F0 m 15 ls [.int x2]) := by
    intro x2 ls H locs b3 hl hP hD hS h
    subst e6
    refine lv_istore_n (lv' := [(2, .int x2), (0, .ref (a 0)), (1, .int p1)]) hx hb dX4_moves_15 rfl hl (by decide) rfl (fun ls hl => ?_)
    refine lv_aload_n hx hb dX4_moves_16 rfl (lv_at hl 1 rfl) ?_
    refine lv_iload_n hx hb dX4_moves_17 rfl (lv_at hl 2 rfl) ?_
    refine lv_iconst (v := (1 : Int32)) hx hb dX4_moves_18 (by decide) ?_
    refine roVi (As := [.int p1, .int (1 : Int32)]) (rest := []) F (c_X4_of l D cI cS cJ a u H p1 (1 : Int32) h) (cw_X4_46 hts (Nat.le_of_ble_eq_true rfl) (Nat.le_of_ble_eq_true rfl)) hK hP (recv (ci := 4) (k0 := 0) hK hP rfl rfl) rfl hl.1 rfl (Nat.le_of_ble_eq_true rfl) dX4_moves_19 ⟨Nat.zero_le _, Nat.zero_le _⟩ (fun r7 h => ?_)
    refine lv_iload_n hx hb dX4_moves_22 rfl (lv_at hl 0 rfl) ?_
    refine jn_e h (fun J9 e11 h => ?_)
    have w10 : ∀ (x8 : Int32) (ls : Array Slot) (H : Heap) (locs : List Loc), lv_has ls 7 [(0, .ref (a 0)), (1, .int p1), (2, .int x2)] → va_P D vwCl (mdW cI a u) H → va_D A (mdW cI a u) → va_S A H0 H locs → J9 x8 → W p l e rm_X4_moves s m args below meth c H locs 0 0 Q (F0 m 31 ls [.int x8, .int r7]) := by
      intro x8 ls H locs hl hP hD hS h
      subst e11
      refine lv_iadd hx hb dX4_moves_31 ?_
      refine lv_istore_n (lv' := [(3, .int (r7 + x8)), (0, .ref (a 0)), (1, .int p1), (2, .int x2)]) hx hb dX4_moves_32 rfl hl (by decide) rfl (fun ls hl => ?_)
      refine lv_aload_n hx hb dX4_moves_33 rfl (lv_at hl 1 rfl) ?_
      refine lv_iload_n hx hb dX4_moves_34 rfl (lv_at hl 2 rfl) ?_
      refine lv_iconst (v := (0 : Int32)) hx hb dX4_moves_35 (by decide) ?_
      refine roVi (As := [.int p1, .int (0 : Int32)]) (rest := []) F (c_X4_of l D cI cS cJ a u H p1 (0 : Int32) h) (cw_X4_46 hts (Nat.le_of_ble_eq_true rfl) (Nat.le_of_ble_eq_true rfl)) hK hP (recv (ci := 4) (k0 := 0) hK hP rfl rfl) rfl hl.1 rfl (Nat.le_of_ble_eq_true rfl) dX4_moves_36 ⟨Nat.zero_le _, Nat.zero_le _⟩ (fun r12 h => ?_)
      refine lv_istore (lv' := [(4, .int r12), (3, .int (r7 + x8)), (0, .ref (a 0)), (1, .int p1), (2, .int x2)]) hx hb dX4_moves_39 hl (by decide) rfl (fun ls hl => ?_)
      refine lv_aload_n hx hb dX4_moves_41 rfl (lv_at hl 2 rfl) ?_
      refine lv_iload_n hx hb dX4_moves_42 rfl (lv_at hl 3 rfl) ?_
      refine lv_iconst (v := (1 : Int32)) hx hb dX4_moves_43 (by decide) ?_
      refine lv_iload_n hx hb dX4_moves_44 rfl (lv_at hl 1 rfl) ?_
      refine rwVv0 (As := [.int p1, .int (1 : Int32), .int (r7 + x8)]) (rest := []) F (c_X4_lay4 l D cI cS cJ a u H.size p1 (1 : Int32) (r7 + x8) h) (cw_X4_32 hts (Nat.le_of_ble_eq_true rfl) (Nat.le_of_ble_eq_true rfl)) hK hP hD hS hA (recv (ci := 4) (k0 := 0) hK hP rfl rfl) rfl hl.1 rfl (Nat.le_of_ble_eq_true rfl) dX4_moves_45 ⟨Nat.zero_le _, Nat.zero_le _⟩ (fun u14 H locs h hP hD hS => ?_)
      refine lv_iload_n hx hb dX4_moves_48 rfl (lv_at hl 1 rfl) ?_
      refine lv_iconst (v := (1 : Int32)) hx hb dX4_moves_49 (by decide) ?_
      refine lv_iconst (v := (3 : Int32)) hx hb dX4_moves_50 (by decide) ?_
      refine roSi (As := [.int (r7 + x8), .int (1 : Int32), .int (3 : Int32)]) (rest := []) F (c_X4_in l D cI cS cJ H (r7 + x8) (1 : Int32) (3 : Int32) h) (cw_X4_20 hts (Nat.le_of_ble_eq_true rfl) (Nat.le_of_ble_eq_true rfl)) hK vP_nil rfl hl.1 rfl (Nat.le_of_ble_eq_true rfl) dX4_moves_51 ⟨Nat.zero_le _, Nat.zero_le _⟩ (fun r15 h => ?_)
      obtain ⟨b16, h⟩ := h
      refine lv_if_ne (tgt := 65) hx hb dX4_moves_54 (by decide) (fun c17 => ?_) (fun c17 => ?_)
      · replace h := h.1 c17
        refine lv_aload_n hx hb dX4_moves_65 rfl (lv_at hl 2 rfl) ?_
        refine lv_aload_n hx hb dX4_moves_66 rfl (lv_at hl 2 rfl) ?_
        refine lv_iload hx hb dX4_moves_67 (lv_at hl 0 rfl) ?_
        refine lv_iload_n hx hb dX4_moves_69 rfl (lv_at hl 1 rfl) ?_
        refine roVi (As := [.int r12, .int (r7 + x8)]) (rest := [.ref (a 0)]) F (c_X4_innOf l D cI cS cJ a u14 H r12 (r7 + x8) h) (cw_X4_24 hts (Nat.le_of_ble_eq_true rfl) (Nat.le_of_ble_eq_true rfl)) hK hP (recv (ci := 4) (k0 := 0) hK hP rfl rfl) rfl hl.1 rfl (Nat.le_of_ble_eq_true rfl) dX4_moves_70 ⟨Nat.zero_le _, Nat.zero_le _⟩ (fun r18 h => ?_)
        refine roVi (As := [.int r18]) (rest := []) F (c_X4_isOpenNow l D cI cS cJ a u14 H r18 h) (cw_X4_28 hts (Nat.le_of_ble_eq_true rfl) (Nat.le_of_ble_eq_true rfl)) hK hP (recv (ci := 4) (k0 := 0) hK hP rfl rfl) rfl hl.1 rfl (Nat.le_of_ble_eq_true rfl) dX4_moves_73 ⟨Nat.zero_le _, Nat.zero_le _⟩ (fun r19 h => ?_)
        obtain ⟨b20, h⟩ := h
        refine lv_if_ne (tgt := 98) hx hb dX4_moves_76 (by decide) (fun c21 => ?_) (fun c21 => ?_)
        · replace h := h.1 c21
          refine lv_aload_n hx hb dX4_moves_98 rfl (lv_at hl 2 rfl) ?_
          refine lv_iload hx hb dX4_moves_99 (lv_at hl 0 rfl) ?_
          refine lv_iload_n hx hb dX4_moves_101 rfl (lv_at hl 1 rfl) ?_
          refine roVi (As := [.int r12, .int (r7 + x8)]) (rest := []) F (c_X4_keyOf l D cI cS cJ a u14 H r12 (r7 + x8) h) (cw_X4_36 hts (Nat.le_of_ble_eq_true rfl) (Nat.le_of_ble_eq_true rfl)) hK hP (recv (ci := 4) (k0 := 0) hK hP rfl rfl) rfl hl.1 rfl (Nat.le_of_ble_eq_true rfl) dX4_moves_102 ⟨Nat.zero_le _, Nat.zero_le _⟩ (fun r22 h => ?_)
          refine lv_istore (lv' := [(5, .int r22), (4, .int r12), (3, .int (r7 + x8)), (0, .ref (a 0)), (1, .int p1), (2, .int x2)]) hx hb dX4_moves_105 hl (by decide) rfl (fun ls hl => ?_)
          refine lv_aload_n hx hb dX4_moves_107 rfl (lv_at hl 3 rfl) ?_
          refine lv_iload_n hx hb dX4_moves_108 rfl (lv_at hl 4 rfl) ?_
          refine lv_iconst (v := (2 : Int32)) hx hb dX4_moves_109 (by decide) ?_
          refine roVi (As := [.int p1, .int (2 : Int32)]) (rest := []) F (c_X4_of l D cI cS cJ a u14 H p1 (2 : Int32) h) (cw_X4_46 hts (Nat.le_of_ble_eq_true rfl) (Nat.le_of_ble_eq_true rfl)) hK hP (recv (ci := 4) (k0 := 0) hK hP rfl rfl) rfl hl.1 rfl (Nat.le_of_ble_eq_true rfl) dX4_moves_110 ⟨Nat.zero_le _, Nat.zero_le _⟩ (fun r23 h => ?_)
          refine lv_istore (lv' := [(6, .int r23), (5, .int r22), (4, .int r12), (3, .int (r7 + x8)), (0, .ref (a 0)), (1, .int p1), (2, .int x2)]) hx hb dX4_moves_113 hl (by decide) rfl (fun ls hl => ?_)
          refine lv_aload_n hx hb dX4_moves_115 rfl (lv_at hl 4 rfl) ?_
          refine lv_iload_n hx hb dX4_moves_116 rfl (lv_at hl 5 rfl) ?_
          refine lv_iconst (v := (2 : Int32)) hx hb dX4_moves_117 (by decide) ?_
          refine lv_iload_n hx hb dX4_moves_118 rfl (lv_at hl 6 rfl) ?_
          refine jn_e h (fun J25 e27 h => ?_)
          have w26 : ∀ (x24 : Int32) (ls : Array Slot) (H : Heap) (locs : List Loc), lv_has ls 7 [] → va_P D vwCl (mdW cI a u14) H → va_D A (mdW cI a u14) → va_S A H0 H locs → J25 x24 → W p l e rm_X4_moves s m args below meth c H locs 0 0 Q (F0 m 139 ls [.int x24, .int (2 : Int32), .int p1, .ref (a 0)]) := by
            intro x24 ls H locs hl hP hD hS h
            subst e27
            refine rwVv0 (As := [.int p1, .int (2 : Int32), .int x24]) (rest := []) F (c_X4_lay4 l D cI cS cJ a u14 H.size p1 (2 : Int32) x24 h) (cw_X4_32 hts (Nat.le_of_ble_eq_true rfl) (Nat.le_of_ble_eq_true rfl)) hK hP hD hS hA (recv (ci := 4) (k0 := 0) hK hP rfl rfl) rfl hl.1 rfl (Nat.le_of_ble_eq_true rfl) dX4_moves_139 ⟨Nat.zero_le _, Nat.zero_le _⟩ (fun u29 H locs h hP hD hS => ?_)
            exact hQ h hP hD hS dX4_moves_142
          clear e27
          refine lv_if_eq (tgt := 132) hx hb dX4_moves_119 (by decide) (fun c30 => ?_) (fun c30 => ?_)
          · replace h := h.1 c30
            refine lv_iload hx hb dX4_moves_132 (lv_at hl 0 rfl) ?_
            refine lv_iload hx hb dX4_moves_134 (lv_at hl 1 rfl) ?_
            refine roSi (As := [.int r23, .int r22]) (rest := [.int (2 : Int32), .int p1, .ref (a 0)]) F (c_X4_uncovered l D cI cS cJ H r23 r22 h) (cw_X4_53 hts (Nat.le_of_ble_eq_true rfl) (Nat.le_of_ble_eq_true rfl)) hK vP_nil rfl hl.1 rfl (Nat.le_of_ble_eq_true rfl) dX4_moves_136 ⟨Nat.zero_le _, Nat.zero_le _⟩ (fun r31 h => ?_)
            exact w26 r31 _ _ _ (lv_sub hl [] rfl) hP hD hS h
          · replace h := h.2 c30
            refine lv_iload hx hb dX4_moves_122 (lv_at hl 0 rfl) ?_
            refine lv_iload hx hb dX4_moves_124 (lv_at hl 1 rfl) ?_
            refine roSi (As := [.int r23, .int r22]) (rest := [.int (2 : Int32), .int p1, .ref (a 0)]) F (c_X4_covered l D cI cS cJ H r23 r22 h) (cw_X4_39 hts (Nat.le_of_ble_eq_true rfl) (Nat.le_of_ble_eq_true rfl)) hK vP_nil rfl hl.1 rfl (Nat.le_of_ble_eq_true rfl) dX4_moves_126 ⟨Nat.zero_le _, Nat.zero_le _⟩ (fun r32 h => ?_)
            refine lv_goto (tgt := 139) hx hb dX4_moves_129 (by decide) ?_
            exact w26 r32 _ _ _ (lv_sub hl [] rfl) hP hD hS h
        · replace h := h.2 c21
          refine lv_aload_n hx hb dX4_moves_79 rfl (lv_at hl 2 rfl) ?_
          refine va_get (D := D) (ci := 4) (v := .ref (a 1)) (C := RX4) (T := TX4) (N := 12) hx hb hts inT4 hown hK.k hP 0 rfl rfl 1 (by decide) (hts _ q_820) (fun _ h9 => h9) rfl dX4_moves_80 ?_
          refine lv_bipush (v := (7 : Int32)) hx hb dX4_moves_83 (by decide) ?_
          refine lv_dup2_11 hx hb dX4_moves_85 rfl rfl ?_
          refine va_iald hx hb hK.k hP 1 0 rfl rfl h.1 dX4_moves_86 ?_
          replace h := h.2
          refine lv_iconst (v := (1 : Int32)) hx hb dX4_moves_87 (by decide) ?_
          refine lv_iadd hx hb dX4_moves_88 ?_
          refine va_iast hx hb hK.k hP hD hS 1 0 rfl rfl h.1 dX4_moves_89 (fun H locs hP hD hS => ?_)
          replace h := h.2
          have hP : va_P D vwCl (mdW cI a (wM_s u14 (Int32.toNatClampNeg (7 : Int32)) (((M_s u14) (Int32.toNatClampNeg (7 : Int32))) + (1 : Int32)))) H := hP
          have hD : va_D A (mdW cI a (wM_s u14 (Int32.toNatClampNeg (7 : Int32)) (((M_s u14) (Int32.toNatClampNeg (7 : Int32))) + (1 : Int32)))) := hD
          refine lv_aload_n hx hb dX4_moves_90 rfl (lv_at hl 2 rfl) ?_
          refine lv_iload_n hx hb dX4_moves_91 rfl (lv_at hl 3 rfl) ?_
          refine rwVv0 (As := [.int p1]) (rest := []) F (c_X4_leaves l D cI cS cJ a (wM_s u14 (Int32.toNatClampNeg (7 : Int32)) (((M_s u14) (Int32.toNatClampNeg (7 : Int32))) + (1 : Int32))) H.size p1 h) (cw_X4_56 hts (Nat.le_of_ble_eq_true rfl) (Nat.le_of_ble_eq_true rfl)) hK hP hD hS hA (recv (ci := 4) (k0 := 0) hK hP rfl rfl) rfl hl.1 rfl (Nat.le_of_ble_eq_true rfl) dX4_moves_92 ⟨Nat.zero_le _, Nat.zero_le _⟩ (fun u34 H locs h hP hD hS => ?_)
          refine lv_goto (tgt := 142) hx hb dX4_moves_95 (by decide) ?_
          exact hQ h hP hD hS dX4_moves_142
      · replace h := h.2 c17
        refine lv_aload_n hx hb dX4_moves_57 rfl (lv_at hl 2 rfl) ?_
        refine lv_iload_n hx hb dX4_moves_58 rfl (lv_at hl 3 rfl) ?_
        refine rwVv0 (As := [.int p1]) (rest := []) F (c_X4_arrives l D cI cS cJ a u14 H.size p1 h) (cw_X4_60 hts (Nat.le_of_ble_eq_true rfl) (Nat.le_of_ble_eq_true rfl)) hK hP hD hS hA (recv (ci := 4) (k0 := 0) hK hP rfl rfl) rfl hl.1 rfl (Nat.le_of_ble_eq_true rfl) dX4_moves_59 ⟨Nat.zero_le _, Nat.zero_le _⟩ (fun u36 H locs h hP hD hS => ?_)
        refine lv_goto (tgt := 142) hx hb dX4_moves_62 (by decide) ?_
        exact hQ h hP hD hS dX4_moves_142
    clear e11
    refine lv_if_eq (tgt := 30) hx hb dX4_moves_23 (by decide) (fun c37 => ?_) (fun c37 => ?_)
    · replace h := h.1 c37
      refine lv_iconst (v := (1 : Int32)) hx hb dX4_moves_30 (by decide) ?_
      exact w10 (1 : Int32) _ _ _ (lv_sub hl [1, 2, 0] rfl) hP hD hS h
    · replace h := h.2 c37
      refine lv_iconst (v := (-1 : Int32)) hx hb dX4_moves_26 (by decide) ?_
      refine lv_goto (tgt := 31) hx hb dX4_moves_27 (by decide) ?_
      exact w10 (-1 : Int32) _ _ _ (lv_sub hl [1, 2, 0] rfl) hP hD hS h
  clear e6
  refine lv_icmp_ne (tgt := 14) hx hb dX4_moves_7 (by decide) (fun c38 => ?_) (fun c38 => ?_)
  · replace h := h.1 c38
    refine lv_iconst (v := (0 : Int32)) hx hb dX4_moves_14 (by decide) ?_
    exact w5 (0 : Int32) _ _ _ bz0 hl hP hD hS h
  · replace h := h.2 c38
    refine lv_iconst (v := (1 : Int32)) hx hb dX4_moves_10 (by decide) ?_
    refine lv_goto (tgt := 15) hx hb dX4_moves_11 (by decide) ?_
    exact w5 (1 : Int32) _ _ _ bz1 hl hP hD hS h

def wp_X4_ticks (u : Md)  (post : Md → Prop) : Prop :=
  LP2 (fun (K3 : Int32 → Md → Prop) (x1 : Int32) (u2 : Md) => (vp_in (1 : Int32) 854) ∧ ((((M_s u2) (Int32.toNatClampNeg (1 : Int32))) ≤ x1 → LP3 (fun (K9 : Int32 → Int32 → Md → Prop) (x6 : Int32) (x7 : Int32) (u8 : Md) => (vp_in (1 : Int32) 854) ∧ ((((M_s u8) (Int32.toNatClampNeg (1 : Int32))) ≤ x7 → (vp_in (1 : Int32) 854) ∧ (post (wM_s u8 (Int32.toNatClampNeg (1 : Int32)) x6))) ∧ (¬ ((M_s u8) (Int32.toNatClampNeg (1 : Int32))) ≤ x7 → wp_X4_of u8 x7 (0 : Int32) (fun r12 => (r12 = (-1 : Int32) → K9 x6 (x7 + 1) u8) ∧ (¬ r12 = (-1 : Int32) → LP2 (fun (K16 : Int32 → Md → Prop) (x14 : Int32) (u15 : Md) => ((4 : Int32) ≤ x14 → K9 (x6 + 1) (x7 + 1) u15) ∧ (¬ (4 : Int32) ≤ x14 → wp_X4_of u15 x7 x14 (fun r19 => wp_X4_lay4 u15 x6 x14 r19 (fun u21 => K16 (x14 + 1) u21)))) (0 : Int32) u8))))) (0 : Int32) (0 : Int32) u2) ∧ (¬ ((M_s u2) (Int32.toNatClampNeg (1 : Int32))) ≤ x1 → wp_X4_moves u2 x1 (fun u23 => K3 (x1 + 1) u23)))) (0 : Int32) u
set_option maxHeartbeats 4000000 in
set_option maxRecDepth 100000 in
theorem c_X4_ticks (l : Launch) (D : va_G) (cI cS cJ : ClassId) (a : Nat → Nat) (u : Md) (sz : Nat)  {post : Md → Prop} (h : wp_X4_ticks u post) : Met l yX4_ticks (wsA yX4_ticks cX4_ticks 4 none) rm_X4_ticks (va_Pc [.ref (a 0)] (rwP D (tysA cI cS cJ) (mdW cI a u) sz)) (va_Qv post (fun u9 t => va_P D vwCl ((mdW cI a) u9) t.heap ∧ va_D (va_A (mdW cI a u) sz) ((mdW cI a) u9)) (va_A (mdW cI a u) sz)) 0 0 (va_A (mdW cI a u) sz) := by
  refine mkRWv (wf := (mdW cI a)) (by decide +kernel) (Nat.le_of_ble_eq_true rfl) (fun {p e s m args below meth c Q ls A H0 H locs} hx hb F hts hown hin hK hP hD hS hA hl hQ => ?_)
  have hown : s.vm.findClass RX4 = some m.cls := hown
  have F : CallFix p m c cX4_ticks 4 s args wsT RX4 := F
  have hl : lv_has ls 4 [(0, .ref (a 0))] := hl
  unfold wp_X4_ticks at h
  refine lv_iconst (v := (0 : Int32)) hx hb dX4_ticks_0 (by decide) ?_
  refine lv_istore_n (lv' := [(1, .int (0 : Int32)), (0, .ref (a 0))]) hx hb dX4_ticks_1 rfl hl (by decide) rfl (fun ls hl => ?_)
  refine lpu2 h (fun K3 : Int32 → Md → Prop => ∀ (x1 : Int32) (u2 : Md) (ls : Array Slot) (H : Heap) (locs : List Loc), lv_has ls 4 [(0, .ref (a 0)), (1, .int x1)] → va_P D vwCl (mdW cI a u2) H → va_D A (mdW cI a u2) → va_S A H0 H locs → K3 x1 u2 → W p l e rm_X4_ticks s m args below meth c H locs 0 0 Q (F0 m 2 ls [])) ?_ ?_ ?_
  · intro x1 u2 ls H locs hl hP hD hS h
    exact h.elim
  · intro K3
    intro w4 x1 u2 ls H locs hl hP hD hS h
    refine lv_iload_n hx hb dX4_ticks_2 rfl (lv_at hl 1 rfl) ?_
    refine lv_aload_n hx hb dX4_ticks_3 rfl (lv_at hl 0 rfl) ?_
    refine va_get (D := D) (ci := 4) (v := .ref (a 1)) (C := RX4) (T := TX4) (N := 12) hx hb hts inT4 hown hK.k hP 0 rfl rfl 1 (by decide) (hts _ q_820) (fun _ h9 => h9) rfl dX4_ticks_4 ?_
    refine lv_iconst (v := (1 : Int32)) hx hb dX4_ticks_7 (by decide) ?_
    refine va_iald hx hb hK.k hP 1 0 rfl rfl h.1 dX4_ticks_8 ?_
    replace h := h.2
    refine lv_icmp_ge (tgt := 23) hx hb dX4_ticks_9 (by decide) (fun c5 => ?_) (fun c5 => ?_)
    · replace h := h.1 c5
      refine lv_iconst (v := (0 : Int32)) hx hb dX4_ticks_23 (by decide) ?_
      refine lv_istore_n (lv' := [(1, .int (0 : Int32)), (0, .ref (a 0))]) hx hb dX4_ticks_24 rfl hl (by decide) rfl (fun ls hl => ?_)
      refine lv_iconst (v := (0 : Int32)) hx hb dX4_ticks_25 (by decide) ?_
      refine lv_istore_n (lv' := [(2, .int (0 : Int32)), (1, .int (0 : Int32)), (0, .ref (a 0))]) hx hb dX4_ticks_26 rfl hl (by decide) rfl (fun ls hl => ?_)
      refine lpu3 h (fun K9 : Int32 → Int32 → Md → Prop => ∀ (x6 : Int32) (x7 : Int32) (u8 : Md) (ls : Array Slot) (H : Heap) (locs : List Loc), lv_has ls 4 [(0, .ref (a 0)), (1, .int x6), (2, .int x7)] → va_P D vwCl (mdW cI a u8) H → va_D A (mdW cI a u8) → va_S A H0 H locs → K9 x6 x7 u8 → W p l e rm_X4_ticks s m args below meth c H locs 0 0 Q (F0 m 27 ls [])) ?_ ?_ ?_
      · intro x6 x7 u8 ls H locs hl hP hD hS h
        exact h.elim
      · intro K9
        intro w10 x6 x7 u8 ls H locs hl hP hD hS h
        refine lv_iload_n hx hb dX4_ticks_27 rfl (lv_at hl 2 rfl) ?_
        refine lv_aload_n hx hb dX4_ticks_28 rfl (lv_at hl 0 rfl) ?_
        refine va_get (D := D) (ci := 4) (v := .ref (a 1)) (C := RX4) (T := TX4) (N := 12) hx hb hts inT4 hown hK.k hP 0 rfl rfl 1 (by decide) (hts _ q_820) (fun _ h9 => h9) rfl dX4_ticks_29 ?_
        refine lv_iconst (v := (1 : Int32)) hx hb dX4_ticks_32 (by decide) ?_
        refine va_iald hx hb hK.k hP 1 0 rfl rfl h.1 dX4_ticks_33 ?_
        replace h := h.2
        refine lv_icmp_ge (tgt := 81) hx hb dX4_ticks_34 (by decide) (fun c11 => ?_) (fun c11 => ?_)
        · replace h := h.1 c11
          refine lv_aload_n hx hb dX4_ticks_81 rfl (lv_at hl 0 rfl) ?_
          refine va_get (D := D) (ci := 4) (v := .ref (a 1)) (C := RX4) (T := TX4) (N := 12) hx hb hts inT4 hown hK.k hP 0 rfl rfl 1 (by decide) (hts _ q_820) (fun _ h9 => h9) rfl dX4_ticks_82 ?_
          refine lv_iconst (v := (1 : Int32)) hx hb dX4_ticks_85 (by decide) ?_
          refine lv_iload_n hx hb dX4_ticks_86 rfl (lv_at hl 1 rfl) ?_
          refine va_iast hx hb hK.k hP hD hS 1 0 rfl rfl h.1 dX4_ticks_87 (fun H locs hP hD hS => ?_)
          replace h := h.2
          have hP : va_P D vwCl (mdW cI a (wM_s u8 (Int32.toNatClampNeg (1 : Int32)) x6)) H := hP
          have hD : va_D A (mdW cI a (wM_s u8 (Int32.toNatClampNeg (1 : Int32)) x6)) := hD
          exact hQ h hP hD hS dX4_ticks_88
        · replace h := h.2 c11
          refine lv_aload_n hx hb dX4_ticks_37 rfl (lv_at hl 0 rfl) ?_
          refine lv_iload_n hx hb dX4_ticks_38 rfl (lv_at hl 2 rfl) ?_
          refine lv_iconst (v := (0 : Int32)) hx hb dX4_ticks_39 (by decide) ?_
          refine roVi (As := [.int x7, .int (0 : Int32)]) (rest := []) F (c_X4_of l D cI cS cJ a u8 H x7 (0 : Int32) h) (cw_X4_46 hts (Nat.le_of_ble_eq_true rfl) (Nat.le_of_ble_eq_true rfl)) hK hP (recv (ci := 4) (k0 := 0) hK hP rfl rfl) rfl hl.1 rfl (Nat.le_of_ble_eq_true rfl) dX4_ticks_40 ⟨Nat.zero_le _, Nat.zero_le _⟩ (fun r12 h => ?_)
          refine lv_iconst (v := (-1 : Int32)) hx hb dX4_ticks_43 (by decide) ?_
          refine lv_icmp_eq (tgt := 75) hx hb dX4_ticks_44 (by decide) (fun c13 => ?_) (fun c13 => ?_)
          · replace h := h.1 c13
            refine lv_iinc (v := (x7 + 1)) (lv' := [(2, .int (x7 + 1)), (0, .ref (a 0)), (1, .int x6)]) hx hb dX4_ticks_75 hl (k := 2) rfl rfl (by decide) rfl (fun ls hl => ?_)
            refine lv_goto (tgt := 27) hx hb dX4_ticks_78 (by decide) ?_
            exact w10 x6 (x7 + 1) u8 _ _ _ (lv_sub hl [1, 2, 0] rfl) hP hD hS h
          · replace h := h.2 c13
            refine lv_iconst (v := (0 : Int32)) hx hb dX4_ticks_47 (by decide) ?_
            refine lv_istore_n (lv' := [(3, .int (0 : Int32)), (0, .ref (a 0)), (1, .int x6), (2, .int x7)]) hx hb dX4_ticks_48 rfl hl (by decide) rfl (fun ls hl => ?_)
            refine lpu2 h (fun K16 : Int32 → Md → Prop => ∀ (x14 : Int32) (u15 : Md) (ls : Array Slot) (H : Heap) (locs : List Loc), lv_has ls 4 [(0, .ref (a 0)), (1, .int x6), (2, .int x7), (3, .int x14)] → va_P D vwCl (mdW cI a u15) H → va_D A (mdW cI a u15) → va_S A H0 H locs → K16 x14 u15 → W p l e rm_X4_ticks s m args below meth c H locs 0 0 Q (F0 m 49 ls [])) ?_ ?_ ?_
            · intro x14 u15 ls H locs hl hP hD hS h
              exact h.elim
            · intro K16
              intro w17 x14 u15 ls H locs hl hP hD hS h
              refine lv_iload_n hx hb dX4_ticks_49 rfl (lv_at hl 3 rfl) ?_
              refine lv_iconst (v := (4 : Int32)) hx hb dX4_ticks_50 (by decide) ?_
              refine lv_icmp_ge (tgt := 72) hx hb dX4_ticks_51 (by decide) (fun c18 => ?_) (fun c18 => ?_)
              · replace h := h.1 c18
                refine lv_iinc (v := (x6 + 1)) (lv' := [(1, .int (x6 + 1)), (0, .ref (a 0)), (2, .int x7), (3, .int x14)]) hx hb dX4_ticks_72 hl (k := 1) rfl rfl (by decide) rfl (fun ls hl => ?_)
                refine lv_iinc (v := (x7 + 1)) (lv' := [(2, .int (x7 + 1)), (1, .int (x6 + 1)), (0, .ref (a 0)), (3, .int x14)]) hx hb dX4_ticks_75 hl (k := 2) rfl rfl (by decide) rfl (fun ls hl => ?_)
                refine lv_goto (tgt := 27) hx hb dX4_ticks_78 (by decide) ?_
                exact w10 (x6 + 1) (x7 + 1) u15 _ _ _ (lv_sub hl [2, 1, 0] rfl) hP hD hS h
              · replace h := h.2 c18
                refine lv_aload_n hx hb dX4_ticks_54 rfl (lv_at hl 0 rfl) ?_
                refine lv_iload_n hx hb dX4_ticks_55 rfl (lv_at hl 1 rfl) ?_
                refine lv_iload_n hx hb dX4_ticks_56 rfl (lv_at hl 3 rfl) ?_
                refine lv_aload_n hx hb dX4_ticks_57 rfl (lv_at hl 0 rfl) ?_
                refine lv_iload_n hx hb dX4_ticks_58 rfl (lv_at hl 2 rfl) ?_
                refine lv_iload_n hx hb dX4_ticks_59 rfl (lv_at hl 3 rfl) ?_
                refine roVi (As := [.int x7, .int x14]) (rest := [.int x14, .int x6, .ref (a 0)]) F (c_X4_of l D cI cS cJ a u15 H x7 x14 h) (cw_X4_46 hts (Nat.le_of_ble_eq_true rfl) (Nat.le_of_ble_eq_true rfl)) hK hP (recv (ci := 4) (k0 := 0) hK hP rfl rfl) rfl hl.1 rfl (Nat.le_of_ble_eq_true rfl) dX4_ticks_60 ⟨Nat.zero_le _, Nat.zero_le _⟩ (fun r19 h => ?_)
                refine rwVv0 (As := [.int x6, .int x14, .int r19]) (rest := []) F (c_X4_lay4 l D cI cS cJ a u15 H.size x6 x14 r19 h) (cw_X4_32 hts (Nat.le_of_ble_eq_true rfl) (Nat.le_of_ble_eq_true rfl)) hK hP hD hS hA (recv (ci := 4) (k0 := 0) hK hP rfl rfl) rfl hl.1 rfl (Nat.le_of_ble_eq_true rfl) dX4_ticks_63 ⟨Nat.zero_le _, Nat.zero_le _⟩ (fun u21 H locs h hP hD hS => ?_)
                refine lv_iinc (v := (x14 + 1)) (lv' := [(3, .int (x14 + 1)), (0, .ref (a 0)), (1, .int x6), (2, .int x7)]) hx hb dX4_ticks_66 hl (k := 3) rfl rfl (by decide) rfl (fun ls hl => ?_)
                refine lv_goto (tgt := 49) hx hb dX4_ticks_69 (by decide) ?_
                exact w17 (x14 + 1) u21 _ _ _ (lv_sub hl [1, 2, 3, 0] rfl) hP hD hS h
            · intro K16 w17 h
              exact w17 (0 : Int32) u8 _ _ _ (lv_sub hl [1, 2, 3, 0] rfl) hP hD hS h
      · intro K9 w10 h
        exact w10 (0 : Int32) (0 : Int32) u2 _ _ _ (lv_sub hl [2, 1, 0] rfl) hP hD hS h
    · replace h := h.2 c5
      refine lv_aload_n hx hb dX4_ticks_12 rfl (lv_at hl 0 rfl) ?_
      refine lv_iload_n hx hb dX4_ticks_13 rfl (lv_at hl 1 rfl) ?_
      refine rwVv0 (As := [.int x1]) (rest := []) F (c_X4_moves l D cI cS cJ a u2 H.size x1 h) (cw_X4_63 hts (Nat.le_of_ble_eq_true rfl) (Nat.le_of_ble_eq_true rfl)) hK hP hD hS hA (recv (ci := 4) (k0 := 0) hK hP rfl rfl) rfl hl.1 rfl (Nat.le_of_ble_eq_true rfl) dX4_ticks_14 ⟨Nat.zero_le _, Nat.zero_le _⟩ (fun u23 H locs h hP hD hS => ?_)
      refine lv_iinc (v := (x1 + 1)) (lv' := [(1, .int (x1 + 1)), (0, .ref (a 0))]) hx hb dX4_ticks_17 hl (k := 1) rfl rfl (by decide) rfl (fun ls hl => ?_)
      refine lv_goto (tgt := 2) hx hb dX4_ticks_20 (by decide) ?_
      exact w4 (x1 + 1) u23 _ _ _ (lv_sub hl [1, 0] rfl) hP hD hS h
  · intro K3 w4 h
    exact w4 (0 : Int32) u _ _ _ (lv_sub hl [1, 0] rfl) hP hD hS h

def wp_X4_passes (u : Md) (p1 : Int32) (post : Int32 → Md → Prop) : Prop :=
  (vp_in (4 : Int32) 854) ∧ ((vp_in (6 : Int32) 854) ∧ (LP2 (fun (K3 : Int32 → Md → Prop) (x1 : Int32) (u2 : Md) => (p1 ≤ x1 → (vp_in (4 : Int32) 854) ∧ ((vp_in (6 : Int32) 854) ∧ (post ((((M_s u2) (Int32.toNatClampNeg (4 : Int32))) + ((M_s u2) (Int32.toNatClampNeg (6 : Int32)))) - (((M_s u) (Int32.toNatClampNeg (4 : Int32))) + ((M_s u) (Int32.toNatClampNeg (6 : Int32))))) u2))) ∧ (¬ p1 ≤ x1 → wp_X4_ticks u2 (fun u7 => K3 (x1 + 1) u7))) (0 : Int32) u))
set_option maxHeartbeats 4000000 in
set_option maxRecDepth 100000 in
theorem c_X4_passes (l : Launch) (D : va_G) (cI cS cJ : ClassId) (a : Nat → Nat) (u : Md) (sz : Nat) (p1 : Int32) {post : Int32 → Md → Prop} (h : wp_X4_passes u p1 post) : Met l yX4_passes (wsA yX4_passes cX4_passes 4 (some .int)) rm_X4_passes (va_Pc [.ref (a 0), .int p1] (rwP D (tysA cI cS cJ) (mdW cI a u) sz)) (va_Qi post (fun u9 t => va_P D vwCl ((mdW cI a) u9) t.heap ∧ va_D (va_A (mdW cI a u) sz) ((mdW cI a) u9)) (va_A (mdW cI a u) sz)) 0 0 (va_A (mdW cI a u) sz) := by
  refine mkRWi (wf := (mdW cI a)) (by decide +kernel) (Nat.le_of_ble_eq_true rfl) (fun {p e s m args below meth c Q ls A H0 H locs} hx hb F hts hown hK hP hD hS hA hl hQ => ?_)
  have hown : s.vm.findClass RX4 = some m.cls := hown
  have F : CallFix p m c cX4_passes 4 s args wsT RX4 := F
  have hl : lv_has ls 4 [(0, .ref (a 0)), (1, .int p1)] := hl
  unfold wp_X4_passes at h
  refine lv_aload_n hx hb dX4_passes_0 rfl (lv_at hl 0 rfl) ?_
  refine va_get (D := D) (ci := 4) (v := .ref (a 1)) (C := RX4) (T := TX4) (N := 12) hx hb hts inT4 hown hK.k hP 0 rfl rfl 1 (by decide) (hts _ q_820) (fun _ h9 => h9) rfl dX4_passes_1 ?_
  refine lv_iconst (v := (4 : Int32)) hx hb dX4_passes_4 (by decide) ?_
  refine va_iald hx hb hK.k hP 1 0 rfl rfl h.1 dX4_passes_5 ?_
  replace h := h.2
  refine lv_aload_n hx hb dX4_passes_6 rfl (lv_at hl 0 rfl) ?_
  refine va_get (D := D) (ci := 4) (v := .ref (a 1)) (C := RX4) (T := TX4) (N := 12) hx hb hts inT4 hown hK.k hP 0 rfl rfl 1 (by decide) (hts _ q_820) (fun _ h9 => h9) rfl dX4_passes_7 ?_
  refine lv_bipush (v := (6 : Int32)) hx hb dX4_passes_10 (by decide) ?_
  refine va_iald hx hb hK.k hP 1 0 rfl rfl h.1 dX4_passes_12 ?_
  replace h := h.2
  refine lv_iadd hx hb dX4_passes_13 ?_
  refine lv_istore_n (lv' := [(2, .int (((M_s u) (Int32.toNatClampNeg (4 : Int32))) + ((M_s u) (Int32.toNatClampNeg (6 : Int32))))), (0, .ref (a 0)), (1, .int p1)]) hx hb dX4_passes_14 rfl hl (by decide) rfl (fun ls hl => ?_)
  refine lv_iconst (v := (0 : Int32)) hx hb dX4_passes_15 (by decide) ?_
  refine lv_istore_n (lv' := [(3, .int (0 : Int32)), (2, .int (((M_s u) (Int32.toNatClampNeg (4 : Int32))) + ((M_s u) (Int32.toNatClampNeg (6 : Int32))))), (0, .ref (a 0)), (1, .int p1)]) hx hb dX4_passes_16 rfl hl (by decide) rfl (fun ls hl => ?_)
  refine lpu2 h (fun K3 : Int32 → Md → Prop => ∀ (x1 : Int32) (u2 : Md) (ls : Array Slot) (H : Heap) (locs : List Loc), lv_has ls 4 [(0, .ref (a 0)), (1, .int p1), (2, .int (((M_s u) (Int32.toNatClampNeg (4 : Int32))) + ((M_s u) (Int32.toNatClampNeg (6 : Int32))))), (3, .int x1)] → va_P D vwCl (mdW cI a u2) H → va_D A (mdW cI a u2) → va_S A H0 H locs → K3 x1 u2 → W p l e rm_X4_passes s m args below meth c H locs 0 0 Q (F0 m 17 ls [])) ?_ ?_ ?_
  · intro x1 u2 ls H locs hl hP hD hS h
    exact h.elim
  · intro K3
    intro w4 x1 u2 ls H locs hl hP hD hS h
    refine lv_iload_n hx hb dX4_passes_17 rfl (lv_at hl 3 rfl) ?_
    refine lv_iload_n hx hb dX4_passes_18 rfl (lv_at hl 1 rfl) ?_
    refine lv_icmp_ge (tgt := 32) hx hb dX4_passes_19 (by decide) (fun c5 => ?_) (fun c5 => ?_)
    · replace h := h.1 c5
      refine lv_aload_n hx hb dX4_passes_32 rfl (lv_at hl 0 rfl) ?_
      refine va_get (D := D) (ci := 4) (v := .ref (a 1)) (C := RX4) (T := TX4) (N := 12) hx hb hts inT4 hown hK.k hP 0 rfl rfl 1 (by decide) (hts _ q_820) (fun _ h9 => h9) rfl dX4_passes_33 ?_
      refine lv_iconst (v := (4 : Int32)) hx hb dX4_passes_36 (by decide) ?_
      refine va_iald hx hb hK.k hP 1 0 rfl rfl h.1 dX4_passes_37 ?_
      replace h := h.2
      refine lv_aload_n hx hb dX4_passes_38 rfl (lv_at hl 0 rfl) ?_
      refine va_get (D := D) (ci := 4) (v := .ref (a 1)) (C := RX4) (T := TX4) (N := 12) hx hb hts inT4 hown hK.k hP 0 rfl rfl 1 (by decide) (hts _ q_820) (fun _ h9 => h9) rfl dX4_passes_39 ?_
      refine lv_bipush (v := (6 : Int32)) hx hb dX4_passes_42 (by decide) ?_
      refine va_iald hx hb hK.k hP 1 0 rfl rfl h.1 dX4_passes_44 ?_
      replace h := h.2
      refine lv_iadd hx hb dX4_passes_45 ?_
      refine lv_iload_n hx hb dX4_passes_46 rfl (lv_at hl 2 rfl) ?_
      refine lv_isub hx hb dX4_passes_47 ?_
      exact hQ h hP hD hS dX4_passes_48
    · replace h := h.2 c5
      refine lv_aload_n hx hb dX4_passes_22 rfl (lv_at hl 0 rfl) ?_
      refine rwVv0 (As := []) (rest := []) F (c_X4_ticks l D cI cS cJ a u2 H.size  h) (cw_X4_66 hts (Nat.le_of_ble_eq_true rfl) (Nat.le_of_ble_eq_true rfl)) hK hP hD hS hA (recv (ci := 4) (k0 := 0) hK hP rfl rfl) rfl hl.1 rfl (Nat.le_of_ble_eq_true rfl) dX4_passes_23 ⟨Nat.zero_le _, Nat.zero_le _⟩ (fun u7 H locs h hP hD hS => ?_)
      refine lv_iinc (v := (x1 + 1)) (lv' := [(3, .int (x1 + 1)), (0, .ref (a 0)), (1, .int p1), (2, .int (((M_s u) (Int32.toNatClampNeg (4 : Int32))) + ((M_s u) (Int32.toNatClampNeg (6 : Int32)))))]) hx hb dX4_passes_26 hl (k := 3) rfl rfl (by decide) rfl (fun ls hl => ?_)
      refine lv_goto (tgt := 17) hx hb dX4_passes_29 (by decide) ?_
      exact w4 (x1 + 1) u7 _ _ _ (lv_sub hl [1, 2, 3, 0] rfl) hP hD hS h
  · intro K3 w4 h
    exact w4 (0 : Int32) u _ _ _ (lv_sub hl [2, 3, 1, 0] rfl) hP hD hS h
