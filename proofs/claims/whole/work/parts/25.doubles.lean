/-! doubles: a method that may draw -/
theorem mkD {l : Launch} {y : MethodName} {cc : ByteArray} {nL : Nat} {rm : Room} {D : va_G} {T : List (ClassId × FieldType)} {S : Type} {wc : va_W} {wf : S → va_W} {sz mc ms : Nat} {av : List Value} {post : UInt64 → S → Prop} (hy : plainName y.cls = true) (hnl : (lg_sl av).length ≤ nL)
    (body : ∀ {p : Program} {e : Env} {s : State} {m : MethodId} {args : Array Value} {below : List Frame} {meth : Method} {c : Code} {Q : State → Prop} {ls : Array Slot} {A : Nat → Prop} {H0 H : Heap} {locs : List Loc}, p.tables.exec = Jvm.exec → c.code = cc → CallFix p m c cc nL s args wsT y.cls → (∀ w ∈ wsT, w.before args s = true) → s.vm.findClass y.cls = some m.cls → KK D T s → va_P D vwCl wc H → va_D A wc → va_S A H0 H locs → (∀ q, H0.size ≤ q → A q) → lv_has ls nL (lv_args 0 av) → s.drawn.sameBut s.drawn lw_cs →
      (∀ {d : Drawn} {v : UInt64} {u : S} {H : Heap} {locs : List Loc} {pc : Nat} {ls : Array Slot}, s.drawn.sameBut d lw_cs → post v u → va_P D vwCl (wf u) H → va_D A (wf u) → va_S A H0 H locs → decode cc pc = .ok (.dreturn, 1) → W p l e rm (s.setDrawn d) m args below meth c H locs mc ms Q (F0 m pc ls [.double v])) → W p l e rm s m args below meth c H locs 0 0 Q (F0 m 0 ls [])) :
    MetD lw_cs l y (wsA y cc nL (some .double)) rm (va_Pc av (rwP D T wc sz)) (va_Qd post (xQ D wf wc sz) (va_A wc sz)) mc ms (va_A wc sz) := by
  refine MetD.ofW (cc := cc) (maxL := nL) (ret := some .double) hy rfl ?_
  intro p e s m args below meth c s₁ B hml hv hd0
  obtain ⟨rfl, hsz, hP, hK, hD0⟩ := hv
  have hts : ∀ w ∈ wsT, w.before av.toArray s = true := fun w h => atoms_spec (ws := wsA y cc nL (some .double)) B.pre w (List.mem_cons_of_mem _ h)
  have hl := lv_entry av (n := nL) hnl
  rw [lg_entry_eq]
  subst hsz
  refine body (s := s) (A := va_A wc s.heap.size) (H0 := s.heap) (H := s.heap) (locs := []) B.exec B.bytes ⟨B.exec, B.bytes, hml, findClass_of_methodNamed B.named, hts⟩ hts (findClass_of_methodNamed B.named) hK hP hD0.self va_S.rf (fun q h => Or.inr h) hl hd0 (fun {d v u H locs pc ls} hd1 hpv hP1 hD1 hS hd => ?_)
  refine W.endD hd1 ?_
  exact W.dret B.exec B.bytes B.returns (fun t ht hW => ⟨⟨v, u, rfl, hpv, by rw [ht]; exact hP1, hD1⟩, hS.F ht⟩) hS.2.2 hd B.notSynchronized
abbrev rm_X3_deliveredShare : Room := { frames := 1, cells := 0, slots := 0, locals := 21 }
abbrev rm_X4_deliveredShare : Room := { frames := 0, cells := 0, slots := 0, locals := 0 }


def wp_X3_deliveredShare (u : Ne)  (post : UInt64 → Ne → Prop) : Prop :=
  wp_X3_read 5 (S_counts (N_now u)) (0 : Int32) (fun r1 => (¬ r1 = 0 → wp_X3_read 5 (S_counts (N_now u)) (1 : Int32) (fun r3 => ∀ r4 : UInt64, alike64 r4 (FP.ddiv (FP.i2d r3) (FP.i2d r1)) = true → (post r4 u))) ∧ (r1 = 0 → post FP.dconst1 u))
set_option maxHeartbeats 4000000 in
set_option maxRecDepth 100000 in
theorem c_X3_deliveredShare (l : Launch) (D : va_G) (cI cS cJ : ClassId) (G : Nat → Nat → Nat) (u : Ne) (sz : Nat)  {post : UInt64 → Ne → Prop} (h : wp_X3_deliveredShare u post) : MetD lw_cs l yX3_deliveredShare (wsA yX3_deliveredShare cX3_deliveredShare 2 (some .double)) rm_X3_deliveredShare (va_Pc [.ref (G 2 0)] (rwP D (tysA cI cS cJ) (neW cI cS G u) sz)) (va_Qd post (xQ D (neW cI cS G) (neW cI cS G u) sz) (va_A (neW cI cS G u) sz)) 0 0 (va_A (neW cI cS G u) sz) := by
  refine mkD (wf := (neW cI cS G)) (by decide +kernel) (Nat.le_of_ble_eq_true rfl) (fun {p e s m args below meth c Q ls A H0 H locs} hx hb F hts hown hK hP hD hS hA hl hd0 hQ => ?_)
  have hown : s.vm.findClass RX3 = some m.cls := hown
  have F : CallFix p m c cX3_deliveredShare 2 s args wsT RX3 := F
  have hl : lv_has ls 2 [(0, .ref (G 2 0))] := hl
  unfold wp_X3_deliveredShare at h
  refine lv_aload_n hx hb dX3_deliveredShare_0 rfl (lv_at hl 0 rfl) ?_
  refine va_get (D := D) (ci := 3) (v := .ref (G 0 0)) (C := RX3) (T := TX3) (N := 3) hx hb hts inT3 hown hK.k hP 0 rfl rfl 0 (by decide) (hts _ q_188) (fun _ h9 => h9) rfl dX3_deliveredShare_1 ?_
  refine va_get (D := D) (ci := 2) (v := .ref ((G 0) 8)) (C := RX2) (T := TX2) (N := 12) hx hb hts inT2 hown hK.k hP 1 rfl rfl 11 (by decide) (hts _ q_127) (fun _ h9 => h9) rfl dX3_deliveredShare_4 ?_
  refine lv_iconst (v := (0 : Int32)) hx hb dX3_deliveredShare_7 (by decide) ?_
  refine roSi (As := [.ref ((G 0) 8), .int (0 : Int32)]) (rest := []) F (c_X3_read l D cI cS cJ ((G 0) 8) 5 (S_counts (N_now u)) H (0 : Int32) h) (cw_X3_58 hts (Nat.le_of_ble_eq_true rfl) (Nat.le_of_ble_eq_true rfl)) hK (vP_one hP 9 rfl) rfl hl.1 rfl (Nat.le_of_ble_eq_true rfl) dX3_deliveredShare_8 ⟨(Nat.le_of_ble_eq_true rfl), (Nat.le_of_ble_eq_true rfl)⟩ (fun r1 h => ?_)
  refine lv_istore_n (lv' := [(1, .int r1), (0, .ref (G 2 0))]) hx hb dX3_deliveredShare_11 rfl hl (by decide) rfl (fun ls hl => ?_)
  refine lv_iload_n hx hb dX3_deliveredShare_12 rfl (lv_at hl 0 rfl) ?_
  refine lv_if_ne (tgt := 18) hx hb dX3_deliveredShare_13 (by decide) (fun c2 => ?_) (fun c2 => ?_)
  · replace h := h.1 c2
    refine lv_aload_n hx hb dX3_deliveredShare_18 rfl (lv_at hl 1 rfl) ?_
    refine va_get (D := D) (ci := 3) (v := .ref (G 0 0)) (C := RX3) (T := TX3) (N := 3) hx hb hts inT3 hown hK.k hP 0 rfl rfl 0 (by decide) (hts _ q_188) (fun _ h9 => h9) rfl dX3_deliveredShare_19 ?_
    refine va_get (D := D) (ci := 2) (v := .ref ((G 0) 8)) (C := RX2) (T := TX2) (N := 12) hx hb hts inT2 hown hK.k hP 1 rfl rfl 11 (by decide) (hts _ q_127) (fun _ h9 => h9) rfl dX3_deliveredShare_22 ?_
    refine lv_iconst (v := (1 : Int32)) hx hb dX3_deliveredShare_25 (by decide) ?_
    refine roSi (As := [.ref ((G 0) 8), .int (1 : Int32)]) (rest := []) F (c_X3_read l D cI cS cJ ((G 0) 8) 5 (S_counts (N_now u)) H (1 : Int32) h) (cw_X3_58 hts (Nat.le_of_ble_eq_true rfl) (Nat.le_of_ble_eq_true rfl)) hK (vP_one hP 9 rfl) rfl hl.1 rfl (Nat.le_of_ble_eq_true rfl) dX3_deliveredShare_26 ⟨(Nat.le_of_ble_eq_true rfl), (Nat.le_of_ble_eq_true rfl)⟩ (fun r3 h => ?_)
    refine lv_i2d hx hb dX3_deliveredShare_29 ?_
    refine lv_iload_n hx hb dX3_deliveredShare_30 rfl (lv_at hl 0 rfl) ?_
    refine lv_i2d hx hb dX3_deliveredShare_31 ?_
    refine W.base ?_
    refine lv_ddiv_any hd0 lw_bits hx hb dX3_deliveredShare_32 (fun r4 d1 h1 hd1 => ?_)
    replace h := h r4 h1
    exact hQ hd1 h hP hD hS dX3_deliveredShare_33
  · replace h := h.2 c2
    refine lv_dconst1 hx hb dX3_deliveredShare_16 ?_
    exact hQ (d := s.drawn) hd0 h hP hD hS dX3_deliveredShare_17

def wp_X4_deliveredShare (u : Md)  (post : UInt64 → Md → Prop) : Prop :=
  (vp_in (3 : Int32) 854) ∧ ((¬ ((M_s (sM_thrown u (0 : Int32))) (Int32.toNatClampNeg (3 : Int32))) = 0 → (vp_in (4 : Int32) 854) ∧ ((vp_in (3 : Int32) 854) ∧ (∀ r2 : UInt64, alike64 r2 (FP.ddiv (FP.i2d ((M_s (sM_thrown u (0 : Int32))) (Int32.toNatClampNeg (4 : Int32)))) (FP.i2d ((M_s (sM_thrown u (0 : Int32))) (Int32.toNatClampNeg (3 : Int32))))) = true → (post r2 (sM_thrown u (0 : Int32)))))) ∧ (((M_s (sM_thrown u (0 : Int32))) (Int32.toNatClampNeg (3 : Int32))) = 0 → post FP.dconst1 (sM_thrown u (0 : Int32))))
set_option maxHeartbeats 4000000 in
set_option maxRecDepth 100000 in
theorem c_X4_deliveredShare (l : Launch) (D : va_G) (cI cS cJ : ClassId) (a : Nat → Nat) (u : Md) (sz : Nat)  {post : UInt64 → Md → Prop} (h : wp_X4_deliveredShare u post) : MetD lw_cs l yX4_deliveredShare (wsA yX4_deliveredShare cX4_deliveredShare 1 (some .double)) rm_X4_deliveredShare (va_Pc [.ref (a 0)] (rwP D (tysA cI cS cJ) (mdW cI a u) sz)) (va_Qd post (xQ D (mdW cI a) (mdW cI a u) sz) (va_A (mdW cI a u) sz)) 0 0 (va_A (mdW cI a u) sz) := by
  refine mkD (wf := (mdW cI a)) (by decide +kernel) (Nat.le_of_ble_eq_true rfl) (fun {p e s m args below meth c Q ls A H0 H locs} hx hb F hts hown hK hP hD hS hA hl hd0 hQ => ?_)
  have hown : s.vm.findClass RX4 = some m.cls := hown
  have F : CallFix p m c cX4_deliveredShare 1 s args wsT RX4 := F
  have hl : lv_has ls 1 [(0, .ref (a 0))] := hl
  unfold wp_X4_deliveredShare at h
  refine lv_aload_n hx hb dX4_deliveredShare_0 rfl (lv_at hl 0 rfl) ?_
  refine lv_iconst (v := (0 : Int32)) hx hb dX4_deliveredShare_1 (by decide) ?_
  refine va_put (D := D) (ci := 4) (v := .int (0 : Int32)) (ty := .int) (C := RX4) (T := TX4) (N := 12) hx hb hts inT4 tyX4 tyX4_ok nmX4 hown hK.k hP hD hS 0 rfl rfl 0 (by decide) (hts _ q_819) (fun _ h9 => h9) rfl (by decide +kernel) rfl rfl (Nat.le_of_ble_eq_true rfl) dX4_deliveredShare_2 (fun H locs hP hD hS => ?_)
  have hP : va_P D vwCl (mdW cI a (sM_thrown u (0 : Int32))) H := hP
  have hD : va_D A (mdW cI a (sM_thrown u (0 : Int32))) := hD
  refine lv_aload_n hx hb dX4_deliveredShare_5 rfl (lv_at hl 0 rfl) ?_
  refine va_get (D := D) (ci := 4) (v := .ref (a 1)) (C := RX4) (T := TX4) (N := 12) hx hb hts inT4 hown hK.k hP 0 rfl rfl 1 (by decide) (hts _ q_820) (fun _ h9 => h9) rfl dX4_deliveredShare_6 ?_
  refine lv_iconst (v := (3 : Int32)) hx hb dX4_deliveredShare_9 (by decide) ?_
  refine va_iald hx hb hK.k hP 1 0 rfl rfl h.1 dX4_deliveredShare_10 ?_
  replace h := h.2
  refine lv_if_ne (tgt := 18) hx hb dX4_deliveredShare_11 (by decide) (fun c1 => ?_) (fun c1 => ?_)
  · replace h := h.1 c1
    refine lv_aload_n hx hb dX4_deliveredShare_18 rfl (lv_at hl 0 rfl) ?_
    refine va_get (D := D) (ci := 4) (v := .ref (a 1)) (C := RX4) (T := TX4) (N := 12) hx hb hts inT4 hown hK.k hP 0 rfl rfl 1 (by decide) (hts _ q_820) (fun _ h9 => h9) rfl dX4_deliveredShare_19 ?_
    refine lv_iconst (v := (4 : Int32)) hx hb dX4_deliveredShare_22 (by decide) ?_
    refine va_iald hx hb hK.k hP 1 0 rfl rfl h.1 dX4_deliveredShare_23 ?_
    replace h := h.2
    refine lv_i2d hx hb dX4_deliveredShare_24 ?_
    refine lv_aload_n hx hb dX4_deliveredShare_25 rfl (lv_at hl 0 rfl) ?_
    refine va_get (D := D) (ci := 4) (v := .ref (a 1)) (C := RX4) (T := TX4) (N := 12) hx hb hts inT4 hown hK.k hP 0 rfl rfl 1 (by decide) (hts _ q_820) (fun _ h9 => h9) rfl dX4_deliveredShare_26 ?_
    refine lv_iconst (v := (3 : Int32)) hx hb dX4_deliveredShare_29 (by decide) ?_
    refine va_iald hx hb hK.k hP 1 0 rfl rfl h.1 dX4_deliveredShare_30 ?_
    replace h := h.2
    refine lv_i2d hx hb dX4_deliveredShare_31 ?_
    refine W.base ?_
    refine lv_ddiv_any hd0 lw_bits hx hb dX4_deliveredShare_32 (fun r2 d1 h1 hd1 => ?_)
    replace h := h r2 h1
    exact hQ hd1 h hP hD hS dX4_deliveredShare_33
  · replace h := h.2 c1
    refine lv_dconst1 hx hb dX4_deliveredShare_14 ?_
    refine lv_goto (tgt := 33) hx hb dX4_deliveredShare_15 (by decide) ?_
    exact hQ (d := s.drawn) hd0 h hP hD hS dX4_deliveredShare_33
