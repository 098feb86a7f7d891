/-! the object is made -/
def mkG (a d : Nat → Nat) (h q r : Nat) (A : Nat → Nat → Nat) : Nat → Nat → Nat := fun i => match i with
  | 0 => a
  | 1 => d
  | 2 => fun j => match j with
    | 0 => h
    | 1 => q
    | _ => r
  | k + 3 => A k
theorem mkG_3 (a d : Nat → Nat) (h q r : Nat) (A : Nat → Nat → Nat) : (fun k => mkG a d h q r A (3 + k)) = A := by
  funext k
  rw [Nat.add_comm]
  rfl
theorem fs1_ok : ∀ j, j < 3 → defaultValue (tyX1 j) = vp_V [.null, .int 0, .int 0] j := by
  intro j hj
  rcases (show j = 0 ∨ j = 1 ∨ j = 2 by omega) with rfl | rfl | rfl <;> rfl
theorem fs0_ok : ∀ j, j < 2 → defaultValue (tyX0 j) = vp_V [.null, .int 0] j := by
  intro j hj
  rcases (show j = 0 ∨ j = 1 by omega) with rfl | rfl <;> rfl
theorem preAO {D : va_G} {T : List (ClassId × FieldType)} {ws wc wr : va_W} {s : State} {H : Heap} {A : Nat → Prop} {av : List Value} (hpm : ws.Perm (wc ++ wr)) (hK : KK D T s) (hAO : va_AO RX2 s) (hP : va_P D vwCl ws H) (hD : va_D A ws) : PreS s H (va_Pc av (fun U => rwP D T wc H.size U ∧ va_AO RX2 U)) av :=
  ⟨fun a U g mk q => ⟨q.1, ⟨q.2.1.1, q.2.1.2.1, KK.calling g mk a q.2.1.2.2.1, q.2.1.2.2.2⟩, va_AO.moved (u := U) (Vm.Alike.refl U.vm) q.2.2⟩, fun U hU hW => ⟨rfl, ((preRW (av := av) hpm hK hP hD).2 U hU hW).2, va_AO.moved hW.alike hAO⟩⟩
theorem q_41 : Cond.methodLink RX3 1 objectInit ∈ wsT := tw 41 (by decide +kernel) rfl
theorem q_44 : Cond.classLink RX3 7 RX2 ∈ wsT := tw 44 (by decide +kernel) rfl
theorem q_100 : Cond.classLink RX3 16 RX1 ∈ wsT := tw 100 (by decide +kernel) rfl
theorem q_101 : Cond.instantiable RX1 3 ∈ wsT := tw 101 (by decide +kernel) rfl
theorem q_120 : Cond.classLink RX3 23 RX0 ∈ wsT := tw 120 (by decide +kernel) rfl
theorem q_121 : Cond.instantiable RX0 2 ∈ wsT := tw 121 (by decide +kernel) rfl
theorem q_134 : Cond.fieldLink RX3 26 "NestedEnvelopes" "text" "LNestedEnvelopes$OrderText;" ∈ wsT := tw 134 (by decide +kernel) rfl

set_option maxHeartbeats 4000000 in
set_option maxRecDepth 100000 in
theorem c_X3_init (l : Launch) (D : va_G) (cI cS cJ : ClassId) (h0 : Nat) (sz : Nat) (hw0 : wp_X2_init (fun _ => True)) {post : Ne → Prop} (h : wp_X2_init (fun u => ∀ S, wp_X0_init (fun t => post (u, t, (S, 0, 0))))) : Met l yX3_init (wsA yX3_init cX3_init 1 none) rm_X3_init (va_Pc [.ref h0] (fun U => rwP D (tysA cI cS cJ) [(h0, .inr (3, [.null, .null, .null]))] sz U ∧ va_AO RX2 U)) (va_Qv (fun r9 : (Nat → Nat → Nat) × Ne => r9.1 2 0 = h0 ∧ post r9.2) (fun r9 t => va_P D vwCl (neW cI cS r9.1 r9.2) t.heap ∧ va_D (va_A [(h0, .inr (3, [.null, .null, .null]))] sz) (neW cI cS r9.1 r9.2)) (va_A [(h0, .inr (3, [.null, .null, .null]))] sz)) 67 932 (va_A [(h0, .inr (3, [.null, .null, .null]))] sz) := by
  refine va_MetF (cc := cX3_init) (maxL := 1) (ret := none) (by decide +kernel) rfl ?_
  intro p e s m args below meth c s₁ B hml hv
  obtain ⟨rfl, ⟨hsz, hP, hK, hD0⟩, hAO⟩ := hv
  have hts : ∀ w ∈ wsT, w.before ([.ref h0] : List Value).toArray s = true := fun w h => atoms_spec (ws := wsA yX3_init cX3_init 1 none) B.pre w (List.mem_cons_of_mem _ h)
  have hl := lv_entry [.ref h0] (n := 1) (Nat.le_of_ble_eq_true rfl)
  rw [lg_entry_eq]
  generalize (lg_sl ([.ref h0]) ++ List.replicate (1 - (lg_sl ([.ref h0])).length) Slot.unset).toArray = ls at hl ⊢
  subst hsz
  have hx := B.exec
  have hb := B.bytes
  have hown : s.vm.findClass RX3 = some m.cls := findClass_of_methodNamed B.named
  have F : CallFix p m c cX3_init 1 s ([.ref h0] : List Value).toArray wsT RX3 := ⟨hx, hb, hml, hown, hts⟩
  have hin : meth.name = "<init>" := (name_of_methodNamed B.named B.method).1
  have hl : lv_has ls 1 [(0, .ref h0)] := hl
  have hD := hD0.self (sz := s.heap.size)
  generalize hAe : va_A [(h0, .inr (3, [.null, .null, .null]))] s.heap.size = A at hD ⊢
  have hA : ∀ q : Nat, s.heap.size ≤ q → A q := fun q h => by rw [← hAe]; exact Or.inr h
  have hS : va_S A s.heap s.heap [] := va_S.rf
  refine lv_aload_n hx hb dX3_init_0 rfl (lv_at hl 0 rfl) ?_
  refine W.objInit hx hb hown (hts _ q_41) (hts _ q_42) (hts _ q_43) rfl (by rw [hml]; exact hl.1) rfl dX3_init_1 (Nat.le_of_ble_eq_true rfl) (Nat.le_of_ble_eq_true rfl) ?_
  refine W.eq (g2 := F0 m 4 ls []) rfl ?_
  refine lv_aload_n hx hb dX3_init_4 rfl (lv_at hl 0 rfl) ?_
  refine va_new (ci := 2) (fs := dv2) (C := RX2) (T := TX2) (N := 12) hx hb hts inT2 tyX2 tyX2_ok hown (hts _ q_44) (hts _ q_45) (hts _ q_24) hK.k hP hD hS hA rfl dv2_ok (Nat.le_of_ble_eq_true rfl) (Nat.le_of_ble_eq_true rfl) dX3_init_5 (fun q2 H hP hD hS => ?_)
  refine lv_dup hx hb dX3_init_8 rfl ?_
  refine rwIv (wc := [(q2, .inr (2, dv2))]) (wr := [(h0, .inr (3, [.null, .null, .null]))]) (As := []) (rest := [.ref q2, .ref h0]) List.perm_append_comm F (c_X2_init l D cI cS cJ q2 H.size h) (ci_X3_9 hts (Nat.le_of_ble_eq_true rfl) (Nat.le_of_ble_eq_true rfl)) hK hP hD hS hA rfl hl.1 rfl (Nat.le_of_ble_eq_true rfl) dX3_init_9 ⟨(Nat.le_of_ble_eq_true rfl), (Nat.le_of_ble_eq_true rfl)⟩ (fun u H locs hu hP2 hD2 hS2 => ?_)
  obtain ⟨a, u⟩ := u
  obtain ⟨ha, h⟩ := hu
  have ha : a 0 = q2 := ha
  subst ha
  have hP : va_P D vwCl (([(h0, .inr (3, [.null, .null, .null]))] : va_W) ++ stW cI a u) H := vP_perm List.perm_append_comm hP2
  have hD : va_D A (([(h0, .inr (3, [.null, .null, .null]))] : va_W) ++ stW cI a u) := vD_perm List.perm_append_comm hD2
  have hS := hS2
  refine va_putF (D := D) (ci := 3) (v := .ref (a 0)) (ty := .object RX2) (C := RX3) (T := TX3) (N := 3) hx hb hts inT3 tyX3 tyX3_ok nmX3 hown hK.k hP hD hS 0 rfl rfl 0 (by decide) (hts _ q_132) (fun _ h9 => h9) rfl hin rfl (by decide +kernel) rfl rfl (Nat.le_of_ble_eq_true rfl) dX3_init_12 (fun H locs hP hD hS => ?_)
  have hP : va_P D vwCl (([(h0, .inr (3, [.ref (a 0), .null, .null]))] : va_W) ++ stW cI a u) H := hP
  have hD : va_D A (([(h0, .inr (3, [.ref (a 0), .null, .null]))] : va_W) ++ stW cI a u) := hD
  refine lv_aload_n hx hb dX3_init_15 rfl (lv_at hl 0 rfl) ?_
  refine va_new (ci := 1) (fs := [.null, .int 0, .int 0]) (C := RX1) (T := TX1) (N := 3) hx hb hts inT1 tyX1 tyX1_ok hown (hts _ q_100) (hts _ q_101) (hts _ q_26) hK.k hP hD hS hA rfl fs1_ok (Nat.le_of_ble_eq_true rfl) (Nat.le_of_ble_eq_true rfl) dX3_init_16 (fun q3 H hP hD hS => ?_)
  refine lv_dup hx hb dX3_init_19 rfl ?_
  refine rw_kv (wc := [(q3, .inr (1, [.null, .int 0, .int 0]))]) (wr := ([(h0, .inr (3, [.ref (a 0), .null, .null]))] : va_W) ++ stW cI a u) (va_runI (As := []) (rest := [.ref q3, .ref h0]) F (c_X1_init l D cI cS cJ q3 H.size hw0 (post := fun v => wp_X0_init (fun t => post (u, t, v))) h) (ci_X3_18 hts (Nat.le_of_ble_eq_true rfl) (Nat.le_of_ble_eq_true rfl)) (preAO List.perm_append_comm hK hAO hP hD) rfl rfl hl.1 rfl (lv_room (Nat.le_of_ble_eq_true rfl)) dX3_init_20 ⟨(Nat.le_of_ble_eq_true rfl), (Nat.le_of_ble_eq_true rfl)⟩) List.perm_append_comm hP hD hS hA (fun v H locs hv hP2 hD2 hS2 => ?_)
  obtain ⟨⟨q, A'⟩, v⟩ := v
  have hv : wp_X0_init (fun t => post (u, t, v)) := hv
  have hP : va_P D vwCl ((([(h0, .inr (3, [.ref (a 0), .null, .null]))] : va_W) ++ stW cI a u) ++ ssX cI cS q3 q A' v) H := vP_perm List.perm_append_comm hP2
  have hD : va_D A ((([(h0, .inr (3, [.ref (a 0), .null, .null]))] : va_W) ++ stW cI a u) ++ ssX cI cS q3 q A' v) := vD_perm List.perm_append_comm hD2
  have hS := hS2
  refine va_putF (D := D) (ci := 3) (v := .ref q3) (ty := .object RX1) (C := RX3) (T := TX3) (N := 3) hx hb hts inT3 tyX3 tyX3_ok nmX3 hown hK.k hP hD hS 0 rfl rfl 1 (by decide) (hts _ q_133) (fun _ h9 => h9) rfl hin rfl (by decide +kernel) rfl rfl (Nat.le_of_ble_eq_true rfl) dX3_init_23 (fun H locs hP hD hS => ?_)
  have hP : va_P D vwCl ((([(h0, .inr (3, [.ref (a 0), .ref q3, .null]))] : va_W) ++ stW cI a u) ++ ssX cI cS q3 q A' v) H := hP
  have hD : va_D A ((([(h0, .inr (3, [.ref (a 0), .ref q3, .null]))] : va_W) ++ stW cI a u) ++ ssX cI cS q3 q A' v) := hD
  refine lv_aload_n hx hb dX3_init_26 rfl (lv_at hl 0 rfl) ?_
  refine va_new (ci := 0) (fs := [.null, .int 0]) (C := RX0) (T := TX0) (N := 2) hx hb hts inT0 tyX0 tyX0_ok hown (hts _ q_120) (hts _ q_121) (hts _ q_27) hK.k hP hD hS hA rfl fs0_ok (Nat.le_of_ble_eq_true rfl) (Nat.le_of_ble_eq_true rfl) dX3_init_27 (fun q4 H hP hD hS => ?_)
  refine lv_dup hx hb dX3_init_30 rfl ?_
  refine rwIv (wc := [(q4, .inr (0, [.null, .int 0]))]) (wr := (([(h0, .inr (3, [.ref (a 0), .ref q3, .null]))] : va_W) ++ stW cI a u) ++ ssX cI cS q3 q A' v) (As := []) (rest := [.ref q4, .ref h0]) List.perm_append_comm F (c_X0_init l D cI cS cJ q4 H.size hv) (ci_X3_25 hts (Nat.le_of_ble_eq_true rfl) (Nat.le_of_ble_eq_true rfl)) hK hP hD hS hA rfl hl.1 rfl (Nat.le_of_ble_eq_true rfl) dX3_init_31 ⟨(Nat.le_of_ble_eq_true rfl), (Nat.le_of_ble_eq_true rfl)⟩ (fun t H locs ht9 hP2 hD2 hS2 => ?_)
  obtain ⟨d, t⟩ := t
  obtain ⟨hd, h⟩ := ht9
  have hd : d 0 = q4 := hd
  have hP : va_P D vwCl (((([(h0, .inr (3, [.ref (a 0), .ref q3, .null]))] : va_W) ++ stW cI a u) ++ ssX cI cS q3 q A' v) ++ otW cI d t) H := vP_perm List.perm_append_comm hP2
  have hD : va_D A (((([(h0, .inr (3, [.ref (a 0), .ref q3, .null]))] : va_W) ++ stW cI a u) ++ ssX cI cS q3 q A' v) ++ otW cI d t) := vD_perm List.perm_append_comm hD2
  have hS := hS2
  refine va_putF (D := D) (ci := 3) (v := .ref q4) (ty := .object RX0) (C := RX3) (T := TX3) (N := 3) hx hb hts inT3 tyX3 tyX3_ok nmX3 hown hK.k hP hD hS 0 rfl rfl 2 (by decide) (hts _ q_134) (fun _ h9 => h9) rfl hin rfl (by decide +kernel) rfl rfl (Nat.le_of_ble_eq_true rfl) dX3_init_34 (fun H locs hP hD hS => ?_)
  have hpm : (((([(h0, .inr (3, [.ref (a 0), .ref q3, .ref q4]))] : va_W) ++ stW cI a u) ++ ssX cI cS q3 q A' v) ++ otW cI d t).Perm (neW cI cS (mkG a d h0 q3 q A') (u, t, v)) := by
    rw [← hd, List.append_assoc, List.append_assoc]
    refine List.Perm.append_left _ (List.Perm.append_left _ ?_)
    show List.Perm _ (otW cI d t ++ ssX cI cS q3 q (fun k => mkG a d h0 q3 q A' (3 + k)) v)
    rw [mkG_3]
    exact List.perm_append_comm
  have hP : va_P D vwCl (neW cI cS (mkG a d h0 q3 q A') (u, t, v)) H := vP_perm hpm hP
  have hD : va_D A (neW cI cS (mkG a d h0 q3 q A') (u, t, v)) := vD_perm hpm hD
  exact W.vret hx hb B.returns (fun t9 ht hW => ⟨⟨(mkG a d h0 q3 q A', (u, t, v)), rfl, ⟨rfl, h⟩, by rw [ht]; exact hP, hD⟩, hS.F ht⟩) hS.2.2 dX3_init_37 B.notSynchronized
