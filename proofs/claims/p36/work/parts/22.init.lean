/-! constructors; methods that answer longs and write -/
theorem arrI_eq {D : va_G} {cI cS cJ cA : ClassId} {s : State} (h : va_K D vwCl (tysA cI cS cJ ++ [(cA, .int)]) s) : cA = cI := by
  have h1 : s.vm.findClass ("[" ++ FieldType.int.toString) = some cI := (h.2 0 (cI, .int) rfl).2
  have h2 : s.vm.findClass ("[" ++ FieldType.int.toString) = some cA := (h.2 2 (cA, .int) rfl).2
  exact Option.some.inj (h2.symm.trans h1)
theorem arrS_eq {D : va_G} {cI cS cJ cA : ClassId} {s : State} (h : va_K D vwCl (tysA cI cS cJ ++ [(cA, .object RX2)]) s) : cA = cS := by
  obtain ⟨kA, comp, -, -, -, h1⟩ := (h.2 1 (cS, .object RX2) rfl).2
  obtain ⟨kB, comp2, -, -, -, h2⟩ := (h.2 2 (cA, .object RX2) rfl).2
  exact Option.some.inj (h2.symm.trans h1)
theorem mkRWl {l : Launch} {y : MethodName} {cc : ByteArray} {nL : Nat} {rm : Room} {D : va_G} {T : List (ClassId × FieldType)} {S : Type} {wc : va_W} {wf : S → va_W} {sz mc ms : Nat} {av : List Value} {post : Int64 → S → Prop} (hy : plainFor y = true) (hnl : (lg_sl av).length ≤ nL)
    (body : ∀ {p : Program} {e : Env} {s : State} {m : MethodId} {args : Array Value} {below : List Frame} {meth : Method} {c : Code} {Q : State → Prop} {ls : Array Slot} {A : Nat → Prop} {H0 H : Heap} {locs : List Loc}, p.tables.exec = Jvm.exec → c.code = cc → CallFix p m c cc nL s args wsT y.cls → (∀ w ∈ wsT, w.before args s = true) → s.vm.findClass y.cls = some m.cls → KK D T s → va_P D vwCl wc H → va_D A wc → va_S A H0 H locs → (∀ q, H0.size ≤ q → A q) → lv_has ls nL (lv_args 0 av) →
      (∀ {v : Int64} {u : S} {H : Heap} {locs : List Loc} {pc : Nat} {ls : Array Slot}, post v u → va_P D vwCl (wf u) H → va_D A (wf u) → va_S A H0 H locs → decode cc pc = .ok (.lreturn, 1) → W p l e rm s m args below meth c H locs mc ms Q (F0 m pc ls [.long v])) → W p l e rm s m args below meth c H locs 0 0 Q (F0 m 0 ls [])) :
    Met l y (wsA y cc nL (some .long)) rm (va_Pc av (rwP D T wc sz)) (va_Ql post (fun u t => va_P D vwCl (wf u) t.heap ∧ va_D (va_A wc sz) (wf u)) (va_A wc sz)) mc ms (va_A wc sz) := by
  refine va_MetF (cc := cc) (maxL := nL) (ret := some .long) hy rfl ?_
  intro p e s m args below meth c s₁ B hml hv
  obtain ⟨rfl, hsz, hP, hK, hD0⟩ := hv
  have hts : ∀ w ∈ wsT, w.before av.toArray s = true := fun w h => atoms_spec (ws := wsA y cc nL (some .long)) B.pre w (List.mem_cons_of_mem _ h)
  have hl := lv_entry av (n := nL) hnl
  rw [lg_entry_eq]
  subst hsz
  refine body (A := va_A wc s.heap.size) (H0 := s.heap) (H := s.heap) (locs := []) B.exec B.bytes ⟨B.exec, B.bytes, hml, findClass_of_methodNamed B.named, hts⟩ hts (findClass_of_methodNamed B.named) hK hP hD0.self va_S.rf (fun q h => Or.inr h) hl (fun {v u H locs pc ls} hpv hP1 hD1 hS hd => ?_)
  exact W.lret B.exec B.bytes B.returns (fun t ht hW => ⟨⟨v, u, rfl, hpv, by rw [ht]; exact hP1, hD1⟩, hS.F ht⟩) hS.2.2 hd B.notSynchronized
abbrev rm_X0_init : Room := { frames := 1, cells := 1, slots := 60, locals := 20 }
abbrev rm_X2_init : Room := { frames := 1, cells := 8, slots := 111, locals := 23 }
theorem q_25 : Cond.initialized RJ7 ∈ wsT := tw 25 (by decide +kernel) rfl
theorem q_42 : Cond.instanceMethod objectInit ∈ wsT := tw 42 (by decide +kernel) rfl
theorem q_43 : Cond.code objectInit ⟨#[0xb1]⟩ 1 none ∈ wsT := tw 43 (by decide +kernel) rfl
theorem q_49 : Cond.methodLink RX2 3 objectInit ∈ wsT := tw 49 (by decide +kernel) rfl
theorem q_50 : Cond.methodLink RX2 34 yJ7_fill_53178 ∈ wsT := tw 50 (by decide +kernel) rfl
theorem q_51 : Cond.static yJ7_fill_53178 ∈ wsT := tw 51 (by decide +kernel) rfl
theorem q_52 : Cond.code yJ7_fill_53178 cJ7_fill_53178 4 none ∈ wsT := tw 52 (by decide +kernel) rfl
theorem q_99 : Cond.arrayClass .int ∈ wsT := tw 99 (by decide +kernel) rfl
theorem q_125 : Cond.methodLink RX0 3 objectInit ∈ wsT := tw 125 (by decide +kernel) rfl
theorem q_126 : Cond.fieldLink RX0 9 "NestedEnvelopes$OrderText" "codes" "[I" ∈ wsT := tw 126 (by decide +kernel) rfl
theorem cw_X2_34 {R : Room} {s : State} {args : Array Value} (hts : ∀ w ∈ wsT, w.before args s = true) (hf : 0 + 1 ≤ R.frames) (hl : 8 + (4 + 11) + 0 ≤ R.locals) : CallB R s args RX2 34 yJ7_fill_53178 cJ7_fill_53178 4 none (wsA yJ7_fill_53178 cJ7_fill_53178 4 none) rm_J7_fill_53178 0 0 2 ∧ (Cond.static yJ7_fill_53178).before args s = true := cwAS 2 hts q_50 q_51 q_25 q_52 rfl rfl (by decide +kernel) ⟨hf, hl⟩
def wp_X0_init (post : Ot → Prop) : Prop :=
  post ((fun _ => 0), 0)
set_option maxHeartbeats 4000000 in
set_option maxRecDepth 100000 in
theorem c_X0_init (l : Launch) (D : va_G) (cI cS cJ : ClassId) (h0 : Nat) (sz : Nat) {post : Ot → Prop} (h : wp_X0_init post) : Met l yX0_init (wsA yX0_init cX0_init 1 none) rm_X0_init (va_Pc [.ref h0] (rwP D (tysA cI cS cJ) ([(h0, .inr (0, [.null, .int 0]))]) sz)) (va_Qv (fun q9 : (Nat → Nat) × Ot => q9.1 0 = h0 ∧ post q9.2) (fun q9 t => va_P D vwCl (otW cI q9.1 q9.2) t.heap ∧ va_D (va_A ([(h0, .inr (0, [.null, .int 0]))]) sz) (otW cI q9.1 q9.2)) (va_A ([(h0, .inr (0, [.null, .int 0]))]) sz)) 1 60 (va_A ([(h0, .inr (0, [.null, .int 0]))]) sz) := by
  refine mkRWv (S := (Nat → Nat) × Ot) (wf := fun q9 => otW cI q9.1 q9.2) (by decide +kernel) (Nat.le_of_ble_eq_true rfl) (fun {p e s m args below meth c Q ls A H0 H locs} hx hb F hts hown hin hK hP hD hS hA hl hQ => ?_)
  have hown : s.vm.findClass RX0 = some m.cls := hown
  have F : CallFix p m c cX0_init 1 s args wsT RX0 := F
  have hl : lv_has ls 1 [(0, .ref h0)] := hl
  unfold wp_X0_init at h
  refine lv_aload_n hx hb dX0_init_0 rfl (lv_at hl 0 rfl) ?_
  refine W.objInit hx hb hown (hts _ q_125) (hts _ q_42) (hts _ q_43) rfl (by rw [F.2.2.1]; exact hl.1) rfl dX0_init_1 (Nat.le_of_ble_eq_true rfl) (Nat.le_of_ble_eq_true rfl) ?_
  refine W.eq (g2 := F0 m 4 ls []) rfl ?_
  refine lv_aload_n hx hb dX0_init_4 rfl (lv_at hl 0 rfl) ?_
  refine lv_bipush (v := (60 : Int32)) hx hb dX0_init_5 (by decide) ?_
  refine va_newa (atype := .int) (ty := .int) (a0 := (60, .inl (fun _ => 0))) (N' := 60) hx hb (hts _ q_99) rfl hK.k hP hD hS hA (fun cA => rfl) (by decide) rfl (by decide) (Nat.le_of_ble_eq_true rfl) (Nat.le_of_ble_eq_true rfl) dX0_init_7 (fun q1 ck2 H k2 hP hD hS => ?_)
  rw [arrI_eq k2] at hP hD
  have hP : va_P D vwCl ([(h0, .inr (0, [.null, .int 0])), (q1, .inl (cI, 60, .inl (fun _ => 0)))]) H := hP
  have hD : va_D A ([(h0, .inr (0, [.null, .int 0])), (q1, .inl (cI, 60, .inl (fun _ => 0)))]) := hD
  refine va_putF (D := D) (ci := 0) (v := .ref q1) (ty := (.array .int)) (C := RX0) (T := TX0) (N := 2) hx hb hts inT0 tyX0 tyX0_ok nmX0 hown hK.k hP hD hS 0 rfl rfl 0 (by decide) (hts _ q_126) (fun _ h9 => h9) rfl (hin rfl) rfl (by decide +kernel) rfl rfl (Nat.le_of_ble_eq_true rfl) dX0_init_9 (fun H locs hP hD hS => ?_)
  have hP : va_P D vwCl ([(h0, .inr (0, [.ref q1, .int 0])), (q1, .inl (cI, 60, .inl (fun _ => 0)))]) H := hP
  have hD : va_D A ([(h0, .inr (0, [.ref q1, .int 0])), (q1, .inl (cI, 60, .inl (fun _ => 0)))]) := hD
  exact hQ (u := (fun k => ([h0, q1] : List Nat).getD k 0, ((fun _ => 0), 0))) ⟨rfl, h⟩ hP hD hS dX0_init_12

def wp_X2_init (post : St → Prop) : Prop :=
  LP2 (fun (K5 : Int32 → (Nat → Int32) → Prop) (x3 : Int32) (f4 : (Nat → Int32)) => ((8 : Int32) ≤ x3 → wp_J7_fill_53178 4 (fun _ => 0) (-1 : Int32) (fun f18 => wp_J7_fill_53178 4 (fun _ => 0) (-1 : Int32) (fun f21 => post ((255 : Int32), f4, 0, (fun _ => 0), (fun _ => 0), (fun _ => 0), 0, (fun _ => 0), f18, f21, (-1 : Int32), (fun _ => 0))))) ∧ (¬ (8 : Int32) ≤ x3 → (vp_in x3 8) ∧ (K5 (x3 + 1) (upd f4 (Int32.toNatClampNeg x3) ((1111 : Int32) * (x3 + (1 : Int32))))))) (0 : Int32) (fun _ => 0)
set_option maxHeartbeats 4000000 in
set_option maxRecDepth 100000 in
theorem c_X2_init (l : Launch) (D : va_G) (cI cS cJ : ClassId) (h0 : Nat) (sz : Nat) {post : St → Prop} (h : wp_X2_init post) : Met l yX2_init (wsA yX2_init cX2_init 2 none) rm_X2_init (va_Pc [.ref h0] (rwP D (tysA cI cS cJ) ([(h0, .inr (2, [.int 0, .null, .int 0, .null, .null, .null, .int 0, .null, .null, .null, .int 0, .null]))]) sz)) (va_Qv (fun q9 : (Nat → Nat) × St => q9.1 0 = h0 ∧ post q9.2) (fun q9 t => va_P D vwCl (stW cI q9.1 q9.2) t.heap ∧ va_D (va_A ([(h0, .inr (2, [.int 0, .null, .int 0, .null, .null, .null, .int 0, .null, .null, .null, .int 0, .null]))]) sz) (stW cI q9.1 q9.2)) (va_A ([(h0, .inr (2, [.int 0, .null, .int 0, .null, .null, .null, .int 0, .null, .null, .null, .int 0, .null]))]) sz)) 8 111 (va_A ([(h0, .inr (2, [.int 0, .null, .int 0, .null, .null, .null, .int 0, .null, .null, .null, .int 0, .null]))]) sz) := by
  refine mkRWv (S := (Nat → Nat) × St) (wf := fun q9 => stW cI q9.1 q9.2) (by decide +kernel) (Nat.le_of_ble_eq_true rfl) (fun {p e s m args below meth c Q ls A H0 H locs} hx hb F hts hown hin hK hP hD hS hA hl hQ => ?_)
  have hown : s.vm.findClass RX2 = some m.cls := hown
  have F : CallFix p m c cX2_init 2 s args wsT RX2 := F
  have hl : lv_has ls 2 [(0, .ref h0)] := hl
  unfold wp_X2_init at h
  refine lv_aload_n hx hb dX2_init_0 rfl (lv_at hl 0 rfl) ?_
  refine W.objInit hx hb hown (hts _ q_49) (hts _ q_42) (hts _ q_43) rfl (by rw [F.2.2.1]; exact hl.1) rfl dX2_init_1 (Nat.le_of_ble_eq_true rfl) (Nat.le_of_ble_eq_true rfl) ?_
  refine W.eq (g2 := F0 m 4 ls []) rfl ?_
  refine lv_aload_n hx hb dX2_init_4 rfl (lv_at hl 0 rfl) ?_
  refine lv_sipush (v := (255 : Int32)) hx hb dX2_init_5 (by decide) ?_
  refine va_put (D := D) (ci := 2) (v := .int (255 : Int32)) (ty := .int) (C := RX2) (T := TX2) (N := 12) hx hb hts inT2 tyX2 tyX2_ok nmX2 hown hK.k hP hD hS 0 rfl rfl 0 (by decide) (hts _ q_53) (fun _ h9 => h9) rfl (by decide +kernel) rfl rfl (Nat.le_of_ble_eq_true rfl) dX2_init_8 (fun H locs hP hD hS => ?_)
  have hP : va_P D vwCl ([(h0, .inr (2, [.int (255 : Int32), .null, .int 0, .null, .null, .null, .int 0, .null, .null, .null, .int 0, .null]))]) H := hP
  have hD : va_D A ([(h0, .inr (2, [.int (255 : Int32), .null, .int 0, .null, .null, .null, .int 0, .null, .null, .null, .int 0, .null]))]) := hD
  refine lv_aload_n hx hb dX2_init_11 rfl (lv_at hl 0 rfl) ?_
  refine lv_bipush (v := (8 : Int32)) hx hb dX2_init_12 (by decide) ?_
  refine va_newa (atype := .int) (ty := .int) (a0 := (8, .inl (fun _ => 0))) (N' := 8) hx hb (hts _ q_99) rfl hK.k hP hD hS hA (fun cA => rfl) (by decide) rfl (by decide) (Nat.le_of_ble_eq_true rfl) (Nat.le_of_ble_eq_true rfl) dX2_init_14 (fun q1 ck2 H k2 hP hD hS => ?_)
  rw [arrI_eq k2] at hP hD
  have hP : va_P D vwCl ([(h0, .inr (2, [.int (255 : Int32), .null, .int 0, .null, .null, .null, .int 0, .null, .null, .null, .int 0, .null])), (q1, .inl (cI, 8, .inl (fun _ => 0)))]) H := hP
  have hD : va_D A ([(h0, .inr (2, [.int (255 : Int32), .null, .int 0, .null, .null, .null, .int 0, .null, .null, .null, .int 0, .null])), (q1, .inl (cI, 8, .inl (fun _ => 0)))]) := hD
  refine va_putF (D := D) (ci := 2) (v := .ref q1) (ty := (.array .int)) (C := RX2) (T := TX2) (N := 12) hx hb hts inT2 tyX2 tyX2_ok nmX2 hown hK.k hP hD hS 0 rfl rfl 1 (by decide) (hts _ q_55) (fun _ h9 => h9) rfl (hin rfl) rfl (by decide +kernel) rfl rfl (Nat.le_of_ble_eq_true rfl) dX2_init_16 (fun H locs hP hD hS => ?_)
  have hP : va_P D vwCl ([(h0, .inr (2, [.int (255 : Int32), .ref q1, .int 0, .null, .null, .null, .int 0, .null, .null, .null, .int 0, .null])), (q1, .inl (cI, 8, .inl (fun _ => 0)))]) H := hP
  have hD : va_D A ([(h0, .inr (2, [.int (255 : Int32), .ref q1, .int 0, .null, .null, .null, .int 0, .null, .null, .null, .int 0, .null])), (q1, .inl (cI, 8, .inl (fun _ => 0)))]) := hD
  refine lv_iconst (v := (0 : Int32)) hx hb dX2_init_19 (by decide) ?_
  refine lv_istore_n (lv' := [(1, .int (0 : Int32)), (0, .ref h0)]) hx hb dX2_init_20 rfl hl (by decide) rfl (fun ls hl => ?_)
  refine lpu2 h (fun K5 : Int32 → (Nat → Int32) → Prop => ∀ (x3 : Int32) (f4 : (Nat → Int32)) (ls : Array Slot) (H : Heap) (locs : List Loc), lv_has ls 2 [(0, .ref h0), (1, .int x3)] → va_P D vwCl ([(h0, .inr (2, [.int (255 : Int32), .ref q1, .int 0, .null, .null, .null, .int 0, .null, .null, .null, .int 0, .null])), (q1, .inl (cI, 8, .inl f4))]) H → va_D A ([(h0, .inr (2, [.int (255 : Int32), .ref q1, .int 0, .null, .null, .null, .int 0, .null, .null, .null, .int 0, .null])), (q1, .inl (cI, 8, .inl f4))]) → va_S A H0 H locs → K5 x3 f4 → W p l e rm_X2_init s m args below meth c H locs (0 + 1) (0 + 8) Q (F0 m 21 ls [])) ?_ ?_ ?_
  · intro x3 f4 ls H locs hl hP hD hS h
    exact h.elim
  · intro K5
    intro w6 x3 f4 ls H locs hl hP hD hS h
    refine lv_iload_n hx hb dX2_init_21 rfl (lv_at hl 1 rfl) ?_
    refine lv_aload_n hx hb dX2_init_22 rfl (lv_at hl 0 rfl) ?_
    refine va_get (D := D) (ci := 2) (v := .ref q1) (C := RX2) (T := TX2) (N := 12) hx hb hts inT2 hown hK.k hP 0 rfl rfl 1 (by decide) (hts _ q_55) (fun _ h9 => h9) rfl dX2_init_23 ?_
    refine va_alen (v := (8 : Int32)) hx hb hK.k hP 1 0 rfl rfl rfl dX2_init_26 ?_
    refine lv_icmp_ge (tgt := 49) hx hb dX2_init_27 (by decide) (fun c7 => ?_) (fun c7 => ?_)
    · replace h := h.1 c7
      refine lv_aload_n hx hb dX2_init_49 rfl (lv_at hl 0 rfl) ?_
      refine lv_bipush (v := (18 : Int32)) hx hb dX2_init_50 (by decide) ?_
      refine va_newa (atype := .int) (ty := .int) (a0 := (18, .inl (fun _ => 0))) (N' := 18) hx hb (hts _ q_99) rfl hK.k hP hD hS hA (fun cA => rfl) (by decide) rfl (by decide) (Nat.le_of_ble_eq_true rfl) (Nat.le_of_ble_eq_true rfl) dX2_init_52 (fun q8 ck9 H k9 hP hD hS => ?_)
      rw [arrI_eq k9] at hP hD
      have hP : va_P D vwCl ([(h0, .inr (2, [.int (255 : Int32), .ref q1, .int 0, .null, .null, .null, .int 0, .null, .null, .null, .int 0, .null])), (q1, .inl (cI, 8, .inl f4)), (q8, .inl (cI, 18, .inl (fun _ => 0)))]) H := hP
      have hD : va_D A ([(h0, .inr (2, [.int (255 : Int32), .ref q1, .int 0, .null, .null, .null, .int 0, .null, .null, .null, .int 0, .null])), (q1, .inl (cI, 8, .inl f4)), (q8, .inl (cI, 18, .inl (fun _ => 0)))]) := hD
      refine va_putF (D := D) (ci := 2) (v := .ref q8) (ty := (.array .int)) (C := RX2) (T := TX2) (N := 12) hx hb hts inT2 tyX2 tyX2_ok nmX2 hown hK.k hP hD hS 0 rfl rfl 3 (by decide) (hts _ q_59) (fun _ h9 => h9) rfl (hin rfl) rfl (by decide +kernel) rfl rfl (Nat.le_of_ble_eq_true rfl) dX2_init_54 (fun H locs hP hD hS => ?_)
      have hP : va_P D vwCl ([(h0, .inr (2, [.int (255 : Int32), .ref q1, .int 0, .ref q8, .null, .null, .int 0, .null, .null, .null, .int 0, .null])), (q1, .inl (cI, 8, .inl f4)), (q8, .inl (cI, 18, .inl (fun _ => 0)))]) H := hP
      have hD : va_D A ([(h0, .inr (2, [.int (255 : Int32), .ref q1, .int 0, .ref q8, .null, .null, .int 0, .null, .null, .null, .int 0, .null])), (q1, .inl (cI, 8, .inl f4)), (q8, .inl (cI, 18, .inl (fun _ => 0)))]) := hD
      refine lv_aload_n hx hb dX2_init_57 rfl (lv_at hl 0 rfl) ?_
      refine lv_bipush (v := (18 : Int32)) hx hb dX2_init_58 (by decide) ?_
      refine va_newa (atype := .int) (ty := .int) (a0 := (18, .inl (fun _ => 0))) (N' := 18) hx hb (hts _ q_99) rfl hK.k hP hD hS hA (fun cA => rfl) (by decide) rfl (by decide) (Nat.le_of_ble_eq_true rfl) (Nat.le_of_ble_eq_true rfl) dX2_init_60 (fun q10 ck11 H k11 hP hD hS => ?_)
      rw [arrI_eq k11] at hP hD
      have hP : va_P D vwCl ([(h0, .inr (2, [.int (255 : Int32), .ref q1, .int 0, .ref q8, .null, .null, .int 0, .null, .null, .null, .int 0, .null])), (q1, .inl (cI, 8, .inl f4)), (q8, .inl (cI, 18, .inl (fun _ => 0))), (q10, .inl (cI, 18, .inl (fun _ => 0)))]) H := hP
      have hD : va_D A ([(h0, .inr (2, [.int (255 : Int32), .ref q1, .int 0, .ref q8, .null, .null, .int 0, .null, .null, .null, .int 0, .null])), (q1, .inl (cI, 8, .inl f4)), (q8, .inl (cI, 18, .inl (fun _ => 0))), (q10, .inl (cI, 18, .inl (fun _ => 0)))]) := hD
      refine va_putF (D := D) (ci := 2) (v := .ref q10) (ty := (.array .int)) (C := RX2) (T := TX2) (N := 12) hx hb hts inT2 tyX2 tyX2_ok nmX2 hown hK.k hP hD hS 0 rfl rfl 4 (by decide) (hts _ q_60) (fun _ h9 => h9) rfl (hin rfl) rfl (by decide +kernel) rfl rfl (Nat.le_of_ble_eq_true rfl) dX2_init_62 (fun H locs hP hD hS => ?_)
      have hP : va_P D vwCl ([(h0, .inr (2, [.int (255 : Int32), .ref q1, .int 0, .ref q8, .ref q10, .null, .int 0, .null, .null, .null, .int 0, .null])), (q1, .inl (cI, 8, .inl f4)), (q8, .inl (cI, 18, .inl (fun _ => 0))), (q10, .inl (cI, 18, .inl (fun _ => 0)))]) H := hP
      have hD : va_D A ([(h0, .inr (2, [.int (255 : Int32), .ref q1, .int 0, .ref q8, .ref q10, .null, .int 0, .null, .null, .null, .int 0, .null])), (q1, .inl (cI, 8, .inl f4)), (q8, .inl (cI, 18, .inl (fun _ => 0))), (q10, .inl (cI, 18, .inl (fun _ => 0)))]) := hD
      refine lv_aload_n hx hb dX2_init_65 rfl (lv_at hl 0 rfl) ?_
      refine lv_bipush (v := (6 : Int32)) hx hb dX2_init_66 (by decide) ?_
      refine va_newa (atype := .int) (ty := .int) (a0 := (6, .inl (fun _ => 0))) (N' := 6) hx hb (hts _ q_99) rfl hK.k hP hD hS hA (fun cA => rfl) (by decide) rfl (by decide) (Nat.le_of_ble_eq_true rfl) (Nat.le_of_ble_eq_true rfl) dX2_init_68 (fun q12 ck13 H k13 hP hD hS => ?_)
      rw [arrI_eq k13] at hP hD
      have hP : va_P D vwCl ([(h0, .inr (2, [.int (255 : Int32), .ref q1, .int 0, .ref q8, .ref q10, .null, .int 0, .null, .null, .null, .int 0, .null])), (q1, .inl (cI, 8, .inl f4)), (q8, .inl (cI, 18, .inl (fun _ => 0))), (q10, .inl (cI, 18, .inl (fun _ => 0))), (q12, .inl (cI, 6, .inl (fun _ => 0)))]) H := hP
      have hD : va_D A ([(h0, .inr (2, [.int (255 : Int32), .ref q1, .int 0, .ref q8, .ref q10, .null, .int 0, .null, .null, .null, .int 0, .null])), (q1, .inl (cI, 8, .inl f4)), (q8, .inl (cI, 18, .inl (fun _ => 0))), (q10, .inl (cI, 18, .inl (fun _ => 0))), (q12, .inl (cI, 6, .inl (fun _ => 0)))]) := hD
      refine va_putF (D := D) (ci := 2) (v := .ref q12) (ty := (.array .int)) (C := RX2) (T := TX2) (N := 12) hx hb hts inT2 tyX2 tyX2_ok nmX2 hown hK.k hP hD hS 0 rfl rfl 5 (by decide) (hts _ q_61) (fun _ h9 => h9) rfl (hin rfl) rfl (by decide +kernel) rfl rfl (Nat.le_of_ble_eq_true rfl) dX2_init_70 (fun H locs hP hD hS => ?_)
      have hP : va_P D vwCl ([(h0, .inr (2, [.int (255 : Int32), .ref q1, .int 0, .ref q8, .ref q10, .ref q12, .int 0, .null, .null, .null, .int 0, .null])), (q1, .inl (cI, 8, .inl f4)), (q8, .inl (cI, 18, .inl (fun _ => 0))), (q10, .inl (cI, 18, .inl (fun _ => 0))), (q12, .inl (cI, 6, .inl (fun _ => 0)))]) H := hP
      have hD : va_D A ([(h0, .inr (2, [.int (255 : Int32), .ref q1, .int 0, .ref q8, .ref q10, .ref q12, .int 0, .null, .null, .null, .int 0, .null])), (q1, .inl (cI, 8, .inl f4)), (q8, .inl (cI, 18, .inl (fun _ => 0))), (q10, .inl (cI, 18, .inl (fun _ => 0))), (q12, .inl (cI, 6, .inl (fun _ => 0)))]) := hD
      refine lv_aload_n hx hb dX2_init_73 rfl (lv_at hl 0 rfl) ?_
      refine lv_bipush (v := (48 : Int32)) hx hb dX2_init_74 (by decide) ?_
      refine va_newa (atype := .int) (ty := .int) (a0 := (48, .inl (fun _ => 0))) (N' := 48) hx hb (hts _ q_99) rfl hK.k hP hD hS hA (fun cA => rfl) (by decide) rfl (by decide) (Nat.le_of_ble_eq_true rfl) (Nat.le_of_ble_eq_true rfl) dX2_init_76 (fun q14 ck15 H k15 hP hD hS => ?_)
      rw [arrI_eq k15] at hP hD
      have hP : va_P D vwCl ([(h0, .inr (2, [.int (255 : Int32), .ref q1, .int 0, .ref q8, .ref q10, .ref q12, .int 0, .null, .null, .null, .int 0, .null])), (q1, .inl (cI, 8, .inl f4)), (q8, .inl (cI, 18, .inl (fun _ => 0))), (q10, .inl (cI, 18, .inl (fun _ => 0))), (q12, .inl (cI, 6, .inl (fun _ => 0))), (q14, .inl (cI, 48, .inl (fun _ => 0)))]) H := hP
      have hD : va_D A ([(h0, .inr (2, [.int (255 : Int32), .ref q1, .int 0, .ref q8, .ref q10, .ref q12, .int 0, .null, .null, .null, .int 0, .null])), (q1, .inl (cI, 8, .inl f4)), (q8, .inl (cI, 18, .inl (fun _ => 0))), (q10, .inl (cI, 18, .inl (fun _ => 0))), (q12, .inl (cI, 6, .inl (fun _ => 0))), (q14, .inl (cI, 48, .inl (fun _ => 0)))]) := hD
      refine va_putF (D := D) (ci := 2) (v := .ref q14) (ty := (.array .int)) (C := RX2) (T := TX2) (N := 12) hx hb hts inT2 tyX2 tyX2_ok nmX2 hown hK.k hP hD hS 0 rfl rfl 7 (by decide) (hts _ q_65) (fun _ h9 => h9) rfl (hin rfl) rfl (by decide +kernel) rfl rfl (Nat.le_of_ble_eq_true rfl) dX2_init_78 (fun H locs hP hD hS => ?_)
      have hP : va_P D vwCl ([(h0, .inr (2, [.int (255 : Int32), .ref q1, .int 0, .ref q8, .ref q10, .ref q12, .int 0, .ref q14, .null, .null, .int 0, .null])), (q1, .inl (cI, 8, .inl f4)), (q8, .inl (cI, 18, .inl (fun _ => 0))), (q10, .inl (cI, 18, .inl (fun _ => 0))), (q12, .inl (cI, 6, .inl (fun _ => 0))), (q14, .inl (cI, 48, .inl (fun _ => 0)))]) H := hP
      have hD : va_D A ([(h0, .inr (2, [.int (255 : Int32), .ref q1, .int 0, .ref q8, .ref q10, .ref q12, .int 0, .ref q14, .null, .null, .int 0, .null])), (q1, .inl (cI, 8, .inl f4)), (q8, .inl (cI, 18, .inl (fun _ => 0))), (q10, .inl (cI, 18, .inl (fun _ => 0))), (q12, .inl (cI, 6, .inl (fun _ => 0))), (q14, .inl (cI, 48, .inl (fun _ => 0)))]) := hD
      refine lv_aload_n hx hb dX2_init_81 rfl (lv_at hl 0 rfl) ?_
      refine lv_iconst (v := (4 : Int32)) hx hb dX2_init_82 (by decide) ?_
      refine va_newa (atype := .int) (ty := .int) (a0 := (4, .inl (fun _ => 0))) (N' := 4) hx hb (hts _ q_99) rfl hK.k hP hD hS hA (fun cA => rfl) (by decide) rfl (by decide) (Nat.le_of_ble_eq_true rfl) (Nat.le_of_ble_eq_true rfl) dX2_init_83 (fun q16 ck17 H k17 hP hD hS => ?_)
      rw [arrI_eq k17] at hP hD
      have hP : va_P D vwCl ([(h0, .inr (2, [.int (255 : Int32), .ref q1, .int 0, .ref q8, .ref q10, .ref q12, .int 0, .ref q14, .null, .null, .int 0, .null])), (q1, .inl (cI, 8, .inl f4)), (q8, .inl (cI, 18, .inl (fun _ => 0))), (q10, .inl (cI, 18, .inl (fun _ => 0))), (q12, .inl (cI, 6, .inl (fun _ => 0))), (q14, .inl (cI, 48, .inl (fun _ => 0))), (q16, .inl (cI, 4, .inl (fun _ => 0)))]) H := hP
      have hD : va_D A ([(h0, .inr (2, [.int (255 : Int32), .ref q1, .int 0, .ref q8, .ref q10, .ref q12, .int 0, .ref q14, .null, .null, .int 0, .null])), (q1, .inl (cI, 8, .inl f4)), (q8, .inl (cI, 18, .inl (fun _ => 0))), (q10, .inl (cI, 18, .inl (fun _ => 0))), (q12, .inl (cI, 6, .inl (fun _ => 0))), (q14, .inl (cI, 48, .inl (fun _ => 0))), (q16, .inl (cI, 4, .inl (fun _ => 0)))]) := hD
      refine va_putF (D := D) (ci := 2) (v := .ref q16) (ty := (.array .int)) (C := RX2) (T := TX2) (N := 12) hx hb hts inT2 tyX2 tyX2_ok nmX2 hown hK.k hP hD hS 0 rfl rfl 8 (by decide) (hts _ q_66) (fun _ h9 => h9) rfl (hin rfl) rfl (by decide +kernel) rfl rfl (Nat.le_of_ble_eq_true rfl) dX2_init_85 (fun H locs hP hD hS => ?_)
      have hP : va_P D vwCl ([(h0, .inr (2, [.int (255 : Int32), .ref q1, .int 0, .ref q8, .ref q10, .ref q12, .int 0, .ref q14, .ref q16, .null, .int 0, .null])), (q1, .inl (cI, 8, .inl f4)), (q8, .inl (cI, 18, .inl (fun _ => 0))), (q10, .inl (cI, 18, .inl (fun _ => 0))), (q12, .inl (cI, 6, .inl (fun _ => 0))), (q14, .inl (cI, 48, .inl (fun _ => 0))), (q16, .inl (cI, 4, .inl (fun _ => 0)))]) H := hP
      have hD : va_D A ([(h0, .inr (2, [.int (255 : Int32), .ref q1, .int 0, .ref q8, .ref q10, .ref q12, .int 0, .ref q14, .ref q16, .null, .int 0, .null])), (q1, .inl (cI, 8, .inl f4)), (q8, .inl (cI, 18, .inl (fun _ => 0))), (q10, .inl (cI, 18, .inl (fun _ => 0))), (q12, .inl (cI, 6, .inl (fun _ => 0))), (q14, .inl (cI, 48, .inl (fun _ => 0))), (q16, .inl (cI, 4, .inl (fun _ => 0)))]) := hD
      refine lv_aload_n hx hb dX2_init_88 rfl (lv_at hl 0 rfl) ?_
      refine va_get (D := D) (ci := 2) (v := .ref q16) (C := RX2) (T := TX2) (N := 12) hx hb hts inT2 hown hK.k hP 0 rfl rfl 8 (by decide) (hts _ q_66) (fun _ h9 => h9) rfl dX2_init_89 ?_
      refine lv_iconst (v := (-1 : Int32)) hx hb dX2_init_92 (by decide) ?_
      refine rwSv (wr := List.eraseIdx ([(h0, .inr (2, [.int (255 : Int32), .ref q1, .int 0, .ref q8, .ref q10, .ref q12, .int 0, .ref q14, .ref q16, .null, .int 0, .null])), (q1, .inl (cI, 8, .inl f4)), (q8, .inl (cI, 18, .inl (fun _ => 0))), (q10, .inl (cI, 18, .inl (fun _ => 0))), (q12, .inl (cI, 6, .inl (fun _ => 0))), (q14, .inl (cI, 48, .inl (fun _ => 0))), (q16, .inl (cI, 4, .inl (fun _ => 0)))]) 6) (wf := fun f1 => [(q16, .inl (cI, 4, .inl f1))]) (As := [.ref q16, .int (-1 : Int32)]) (rest := []) (perm_k _ 6 rfl) F (c_J7_fill_53178 l D cI cS cJ q16 4 (fun _ => 0) H.size (-1 : Int32) h) (cw_X2_34 hts (Nat.le_of_ble_eq_true rfl) (Nat.le_of_ble_eq_true rfl)) hK hP hD hS hA rfl hl.1 rfl (Nat.le_of_ble_eq_true rfl) dX2_init_93 ⟨(Nat.le_of_ble_eq_true rfl), (Nat.le_of_ble_eq_true rfl)⟩ (fun f18 H locs h hP hD hS => ?_)
      have hP : va_P D vwCl ([(h0, .inr (2, [.int (255 : Int32), .ref q1, .int 0, .ref q8, .ref q10, .ref q12, .int 0, .ref q14, .ref q16, .null, .int 0, .null])), (q1, .inl (cI, 8, .inl f4)), (q8, .inl (cI, 18, .inl (fun _ => 0))), (q10, .inl (cI, 18, .inl (fun _ => 0))), (q12, .inl (cI, 6, .inl (fun _ => 0))), (q14, .inl (cI, 48, .inl (fun _ => 0))), (q16, .inl (cI, 4, .inl f18))]) H := vP_set1 (k := 6) (ws := [(h0, .inr (2, [.int (255 : Int32), .ref q1, .int 0, .ref q8, .ref q10, .ref q12, .int 0, .ref q14, .ref q16, .null, .int 0, .null])), (q1, .inl (cI, 8, .inl f4)), (q8, .inl (cI, 18, .inl (fun _ => 0))), (q10, .inl (cI, 18, .inl (fun _ => 0))), (q12, .inl (cI, 6, .inl (fun _ => 0))), (q14, .inl (cI, 48, .inl (fun _ => 0))), (q16, .inl (cI, 4, .inl (fun _ => 0)))]) rfl hP
      have hD : va_D A ([(h0, .inr (2, [.int (255 : Int32), .ref q1, .int 0, .ref q8, .ref q10, .ref q12, .int 0, .ref q14, .ref q16, .null, .int 0, .null])), (q1, .inl (cI, 8, .inl f4)), (q8, .inl (cI, 18, .inl (fun _ => 0))), (q10, .inl (cI, 18, .inl (fun _ => 0))), (q12, .inl (cI, 6, .inl (fun _ => 0))), (q14, .inl (cI, 48, .inl (fun _ => 0))), (q16, .inl (cI, 4, .inl f18))]) := vD_set1 (k := 6) (ws := [(h0, .inr (2, [.int (255 : Int32), .ref q1, .int 0, .ref q8, .ref q10, .ref q12, .int 0, .ref q14, .ref q16, .null, .int 0, .null])), (q1, .inl (cI, 8, .inl f4)), (q8, .inl (cI, 18, .inl (fun _ => 0))), (q10, .inl (cI, 18, .inl (fun _ => 0))), (q12, .inl (cI, 6, .inl (fun _ => 0))), (q14, .inl (cI, 48, .inl (fun _ => 0))), (q16, .inl (cI, 4, .inl (fun _ => 0)))]) rfl hD
      refine lv_aload_n hx hb dX2_init_96 rfl (lv_at hl 0 rfl) ?_
      refine lv_iconst (v := (4 : Int32)) hx hb dX2_init_97 (by decide) ?_
      refine va_newa (atype := .int) (ty := .int) (a0 := (4, .inl (fun _ => 0))) (N' := 4) hx hb (hts _ q_99) rfl hK.k hP hD hS hA (fun cA => rfl) (by decide) rfl (by decide) (Nat.le_of_ble_eq_true rfl) (Nat.le_of_ble_eq_true rfl) dX2_init_98 (fun q19 ck20 H k20 hP hD hS => ?_)
      rw [arrI_eq k20] at hP hD
      have hP : va_P D vwCl ([(h0, .inr (2, [.int (255 : Int32), .ref q1, .int 0, .ref q8, .ref q10, .ref q12, .int 0, .ref q14, .ref q16, .null, .int 0, .null])), (q1, .inl (cI, 8, .inl f4)), (q8, .inl (cI, 18, .inl (fun _ => 0))), (q10, .inl (cI, 18, .inl (fun _ => 0))), (q12, .inl (cI, 6, .inl (fun _ => 0))), (q14, .inl (cI, 48, .inl (fun _ => 0))), (q16, .inl (cI, 4, .inl f18)), (q19, .inl (cI, 4, .inl (fun _ => 0)))]) H := hP
      have hD : va_D A ([(h0, .inr (2, [.int (255 : Int32), .ref q1, .int 0, .ref q8, .ref q10, .ref q12, .int 0, .ref q14, .ref q16, .null, .int 0, .null])), (q1, .inl (cI, 8, .inl f4)), (q8, .inl (cI, 18, .inl (fun _ => 0))), (q10, .inl (cI, 18, .inl (fun _ => 0))), (q12, .inl (cI, 6, .inl (fun _ => 0))), (q14, .inl (cI, 48, .inl (fun _ => 0))), (q16, .inl (cI, 4, .inl f18)), (q19, .inl (cI, 4, .inl (fun _ => 0)))]) := hD
      refine va_putF (D := D) (ci := 2) (v := .ref q19) (ty := (.array .int)) (C := RX2) (T := TX2) (N := 12) hx hb hts inT2 tyX2 tyX2_ok nmX2 hown hK.k hP hD hS 0 rfl rfl 9 (by decide) (hts _ q_68) (fun _ h9 => h9) rfl (hin rfl) rfl (by decide +kernel) rfl rfl (Nat.le_of_ble_eq_true rfl) dX2_init_100 (fun H locs hP hD hS => ?_)
      have hP : va_P D vwCl ([(h0, .inr (2, [.int (255 : Int32), .ref q1, .int 0, .ref q8, .ref q10, .ref q12, .int 0, .ref q14, .ref q16, .ref q19, .int 0, .null])), (q1, .inl (cI, 8, .inl f4)), (q8, .inl (cI, 18, .inl (fun _ => 0))), (q10, .inl (cI, 18, .inl (fun _ => 0))), (q12, .inl (cI, 6, .inl (fun _ => 0))), (q14, .inl (cI, 48, .inl (fun _ => 0))), (q16, .inl (cI, 4, .inl f18)), (q19, .inl (cI, 4, .inl (fun _ => 0)))]) H := hP
      have hD : va_D A ([(h0, .inr (2, [.int (255 : Int32), .ref q1, .int 0, .ref q8, .ref q10, .ref q12, .int 0, .ref q14, .ref q16, .ref q19, .int 0, .null])), (q1, .inl (cI, 8, .inl f4)), (q8, .inl (cI, 18, .inl (fun _ => 0))), (q10, .inl (cI, 18, .inl (fun _ => 0))), (q12, .inl (cI, 6, .inl (fun _ => 0))), (q14, .inl (cI, 48, .inl (fun _ => 0))), (q16, .inl (cI, 4, .inl f18)), (q19, .inl (cI, 4, .inl (fun _ => 0)))]) := hD
      refine lv_aload_n hx hb dX2_init_103 rfl (lv_at hl 0 rfl) ?_
      refine va_get (D := D) (ci := 2) (v := .ref q19) (C := RX2) (T := TX2) (N := 12) hx hb hts inT2 hown hK.k hP 0 rfl rfl 9 (by decide) (hts _ q_68) (fun _ h9 => h9) rfl dX2_init_104 ?_
      refine lv_iconst (v := (-1 : Int32)) hx hb dX2_init_107 (by decide) ?_
      refine rwSv (wr := List.eraseIdx ([(h0, .inr (2, [.int (255 : Int32), .ref q1, .int 0, .ref q8, .ref q10, .ref q12, .int 0, .ref q14, .ref q16, .ref q19, .int 0, .null])), (q1, .inl (cI, 8, .inl f4)), (q8, .inl (cI, 18, .inl (fun _ => 0))), (q10, .inl (cI, 18, .inl (fun _ => 0))), (q12, .inl (cI, 6, .inl (fun _ => 0))), (q14, .inl (cI, 48, .inl (fun _ => 0))), (q16, .inl (cI, 4, .inl f18)), (q19, .inl (cI, 4, .inl (fun _ => 0)))]) 7) (wf := fun f1 => [(q19, .inl (cI, 4, .inl f1))]) (As := [.ref q19, .int (-1 : Int32)]) (rest := []) (perm_k _ 7 rfl) F (c_J7_fill_53178 l D cI cS cJ q19 4 (fun _ => 0) H.size (-1 : Int32) h) (cw_X2_34 hts (Nat.le_of_ble_eq_true rfl) (Nat.le_of_ble_eq_true rfl)) hK hP hD hS hA rfl hl.1 rfl (Nat.le_of_ble_eq_true rfl) dX2_init_108 ⟨(Nat.le_of_ble_eq_true rfl), (Nat.le_of_ble_eq_true rfl)⟩ (fun f21 H locs h hP hD hS => ?_)
      have hP : va_P D vwCl ([(h0, .inr (2, [.int (255 : Int32), .ref q1, .int 0, .ref q8, .ref q10, .ref q12, .int 0, .ref q14, .ref q16, .ref q19, .int 0, .null])), (q1, .inl (cI, 8, .inl f4)), (q8, .inl (cI, 18, .inl (fun _ => 0))), (q10, .inl (cI, 18, .inl (fun _ => 0))), (q12, .inl (cI, 6, .inl (fun _ => 0))), (q14, .inl (cI, 48, .inl (fun _ => 0))), (q16, .inl (cI, 4, .inl f18)), (q19, .inl (cI, 4, .inl f21))]) H := vP_set1 (k := 7) (ws := [(h0, .inr (2, [.int (255 : Int32), .ref q1, .int 0, .ref q8, .ref q10, .ref q12, .int 0, .ref q14, .ref q16, .ref q19, .int 0, .null])), (q1, .inl (cI, 8, .inl f4)), (q8, .inl (cI, 18, .inl (fun _ => 0))), (q10, .inl (cI, 18, .inl (fun _ => 0))), (q12, .inl (cI, 6, .inl (fun _ => 0))), (q14, .inl (cI, 48, .inl (fun _ => 0))), (q16, .inl (cI, 4, .inl f18)), (q19, .inl (cI, 4, .inl (fun _ => 0)))]) rfl hP
      have hD : va_D A ([(h0, .inr (2, [.int (255 : Int32), .ref q1, .int 0, .ref q8, .ref q10, .ref q12, .int 0, .ref q14, .ref q16, .ref q19, .int 0, .null])), (q1, .inl (cI, 8, .inl f4)), (q8, .inl (cI, 18, .inl (fun _ => 0))), (q10, .inl (cI, 18, .inl (fun _ => 0))), (q12, .inl (cI, 6, .inl (fun _ => 0))), (q14, .inl (cI, 48, .inl (fun _ => 0))), (q16, .inl (cI, 4, .inl f18)), (q19, .inl (cI, 4, .inl f21))]) := vD_set1 (k := 7) (ws := [(h0, .inr (2, [.int (255 : Int32), .ref q1, .int 0, .ref q8, .ref q10, .ref q12, .int 0, .ref q14, .ref q16, .ref q19, .int 0, .null])), (q1, .inl (cI, 8, .inl f4)), (q8, .inl (cI, 18, .inl (fun _ => 0))), (q10, .inl (cI, 18, .inl (fun _ => 0))), (q12, .inl (cI, 6, .inl (fun _ => 0))), (q14, .inl (cI, 48, .inl (fun _ => 0))), (q16, .inl (cI, 4, .inl f18)), (q19, .inl (cI, 4, .inl (fun _ => 0)))]) rfl hD
      refine lv_aload_n hx hb dX2_init_111 rfl (lv_at hl 0 rfl) ?_
      refine lv_iconst (v := (-1 : Int32)) hx hb dX2_init_112 (by decide) ?_
      refine va_put (D := D) (ci := 2) (v := .int (-1 : Int32)) (ty := .int) (C := RX2) (T := TX2) (N := 12) hx hb hts inT2 tyX2 tyX2_ok nmX2 hown hK.k hP hD hS 0 rfl rfl 10 (by decide) (hts _ q_70) (fun _ h9 => h9) rfl (by decide +kernel) rfl rfl (Nat.le_of_ble_eq_true rfl) dX2_init_113 (fun H locs hP hD hS => ?_)
      have hP : va_P D vwCl ([(h0, .inr (2, [.int (255 : Int32), .ref q1, .int 0, .ref q8, .ref q10, .ref q12, .int 0, .ref q14, .ref q16, .ref q19, .int (-1 : Int32), .null])), (q1, .inl (cI, 8, .inl f4)), (q8, .inl (cI, 18, .inl (fun _ => 0))), (q10, .inl (cI, 18, .inl (fun _ => 0))), (q12, .inl (cI, 6, .inl (fun _ => 0))), (q14, .inl (cI, 48, .inl (fun _ => 0))), (q16, .inl (cI, 4, .inl f18)), (q19, .inl (cI, 4, .inl f21))]) H := hP
      have hD : va_D A ([(h0, .inr (2, [.int (255 : Int32), .ref q1, .int 0, .ref q8, .ref q10, .ref q12, .int 0, .ref q14, .ref q16, .ref q19, .int (-1 : Int32), .null])), (q1, .inl (cI, 8, .inl f4)), (q8, .inl (cI, 18, .inl (fun _ => 0))), (q10, .inl (cI, 18, .inl (fun _ => 0))), (q12, .inl (cI, 6, .inl (fun _ => 0))), (q14, .inl (cI, 48, .inl (fun _ => 0))), (q16, .inl (cI, 4, .inl f18)), (q19, .inl (cI, 4, .inl f21))]) := hD
      refine lv_aload_n hx hb dX2_init_116 rfl (lv_at hl 0 rfl) ?_
      refine lv_iconst (v := (5 : Int32)) hx hb dX2_init_117 (by decide) ?_
      refine va_newa (atype := .int) (ty := .int) (a0 := (5, .inl (fun _ => 0))) (N' := 5) hx hb (hts _ q_99) rfl hK.k hP hD hS hA (fun cA => rfl) (by decide) rfl (by decide) (Nat.le_of_ble_eq_true rfl) (Nat.le_of_ble_eq_true rfl) dX2_init_118 (fun q22 ck23 H k23 hP hD hS => ?_)
      rw [arrI_eq k23] at hP hD
      have hP : va_P D vwCl ([(h0, .inr (2, [.int (255 : Int32), .ref q1, .int 0, .ref q8, .ref q10, .ref q12, .int 0, .ref q14, .ref q16, .ref q19, .int (-1 : Int32), .null])), (q1, .inl (cI, 8, .inl f4)), (q8, .inl (cI, 18, .inl (fun _ => 0))), (q10, .inl (cI, 18, .inl (fun _ => 0))), (q12, .inl (cI, 6, .inl (fun _ => 0))), (q14, .inl (cI, 48, .inl (fun _ => 0))), (q16, .inl (cI, 4, .inl f18)), (q19, .inl (cI, 4, .inl f21)), (q22, .inl (cI, 5, .inl (fun _ => 0)))]) H := hP
      have hD : va_D A ([(h0, .inr (2, [.int (255 : Int32), .ref q1, .int 0, .ref q8, .ref q10, .ref q12, .int 0, .ref q14, .ref q16, .ref q19, .int (-1 : Int32), .null])), (q1, .inl (cI, 8, .inl f4)), (q8, .inl (cI, 18, .inl (fun _ => 0))), (q10, .inl (cI, 18, .inl (fun _ => 0))), (q12, .inl (cI, 6, .inl (fun _ => 0))), (q14, .inl (cI, 48, .inl (fun _ => 0))), (q16, .inl (cI, 4, .inl f18)), (q19, .inl (cI, 4, .inl f21)), (q22, .inl (cI, 5, .inl (fun _ => 0)))]) := hD
      refine va_putF (D := D) (ci := 2) (v := .ref q22) (ty := (.array .int)) (C := RX2) (T := TX2) (N := 12) hx hb hts inT2 tyX2 tyX2_ok nmX2 hown hK.k hP hD hS 0 rfl rfl 11 (by decide) (hts _ q_72) (fun _ h9 => h9) rfl (hin rfl) rfl (by decide +kernel) rfl rfl (Nat.le_of_ble_eq_true rfl) dX2_init_120 (fun H locs hP hD hS => ?_)
      have hP : va_P D vwCl ([(h0, .inr (2, [.int (255 : Int32), .ref q1, .int 0, .ref q8, .ref q10, .ref q12, .int 0, .ref q14, .ref q16, .ref q19, .int (-1 : Int32), .ref q22])), (q1, .inl (cI, 8, .inl f4)), (q8, .inl (cI, 18, .inl (fun _ => 0))), (q10, .inl (cI, 18, .inl (fun _ => 0))), (q12, .inl (cI, 6, .inl (fun _ => 0))), (q14, .inl (cI, 48, .inl (fun _ => 0))), (q16, .inl (cI, 4, .inl f18)), (q19, .inl (cI, 4, .inl f21)), (q22, .inl (cI, 5, .inl (fun _ => 0)))]) H := hP
      have hD : va_D A ([(h0, .inr (2, [.int (255 : Int32), .ref q1, .int 0, .ref q8, .ref q10, .ref q12, .int 0, .ref q14, .ref q16, .ref q19, .int (-1 : Int32), .ref q22])), (q1, .inl (cI, 8, .inl f4)), (q8, .inl (cI, 18, .inl (fun _ => 0))), (q10, .inl (cI, 18, .inl (fun _ => 0))), (q12, .inl (cI, 6, .inl (fun _ => 0))), (q14, .inl (cI, 48, .inl (fun _ => 0))), (q16, .inl (cI, 4, .inl f18)), (q19, .inl (cI, 4, .inl f21)), (q22, .inl (cI, 5, .inl (fun _ => 0)))]) := hD
      exact hQ (u := (fun k => ([h0, q1, q8, q10, q12, q14, q16, q19, q22] : List Nat).getD k 0, ((255 : Int32), f4, 0, (fun _ => 0), (fun _ => 0), (fun _ => 0), 0, (fun _ => 0), f18, f21, (-1 : Int32), (fun _ => 0)))) ⟨rfl, h⟩ hP hD hS dX2_init_123
    · replace h := h.2 c7
      refine lv_aload_n hx hb dX2_init_30 rfl (lv_at hl 0 rfl) ?_
      refine va_get (D := D) (ci := 2) (v := .ref q1) (C := RX2) (T := TX2) (N := 12) hx hb hts inT2 hown hK.k hP 0 rfl rfl 1 (by decide) (hts _ q_55) (fun _ h9 => h9) rfl dX2_init_31 ?_
      refine lv_iload_n hx hb dX2_init_34 rfl (lv_at hl 1 rfl) ?_
      refine lv_sipush (v := (1111 : Int32)) hx hb dX2_init_35 (by decide) ?_
      refine lv_iload_n hx hb dX2_init_38 rfl (lv_at hl 1 rfl) ?_
      refine lv_iconst (v := (1 : Int32)) hx hb dX2_init_39 (by decide) ?_
      refine lv_iadd hx hb dX2_init_40 ?_
      refine lv_imul hx hb dX2_init_41 ?_
      refine va_iast hx hb hK.k hP hD hS 1 0 rfl rfl h.1 dX2_init_42 (fun H locs hP hD hS => ?_)
      replace h := h.2
      have hP : va_P D vwCl ([(h0, .inr (2, [.int (255 : Int32), .ref q1, .int 0, .null, .null, .null, .int 0, .null, .null, .null, .int 0, .null])), (q1, .inl (cI, 8, .inl (upd f4 (Int32.toNatClampNeg x3) ((1111 : Int32) * (x3 + (1 : Int32))))))]) H := hP
      have hD : va_D A ([(h0, .inr (2, [.int (255 : Int32), .ref q1, .int 0, .null, .null, .null, .int 0, .null, .null, .null, .int 0, .null])), (q1, .inl (cI, 8, .inl (upd f4 (Int32.toNatClampNeg x3) ((1111 : Int32) * (x3 + (1 : Int32))))))]) := hD
      refine lv_iinc (v := (x3 + 1)) (lv' := [(1, .int (x3 + 1)), (0, .ref h0)]) hx hb dX2_init_43 hl (k := 1) rfl rfl (by decide) rfl (fun ls hl => ?_)
      refine lv_goto (tgt := 21) hx hb dX2_init_46 (by decide) ?_
      exact w6 (x3 + 1) (upd f4 (Int32.toNatClampNeg x3) ((1111 : Int32) * (x3 + (1 : Int32)))) _ _ _ (lv_sub hl [1, 0] rfl) hP hD hS h
  · intro K5 w6 h
    exact w6 (0 : Int32) (fun _ => 0) _ _ _ (lv_sub hl [1, 0] rfl) hP hD hS h
