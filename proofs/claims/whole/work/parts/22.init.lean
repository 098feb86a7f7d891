/-! constructors; methods that answer longs and write -/
theorem arrI_eq {D : va_G} {cI cS cJ cA : ClassId} {s : State} (h : va_K D vwCl (tysA cI cS cJ ++ [(cA, .int)]) s) : cA = cI := by
  have h1 : s.vm.findClass ("[" ++ FieldType.int.toString) = some cI := (h.2 0 (cI, .int) rfl).2
  have h2 : s.vm.findClass ("[" ++ FieldType.int.toString) = some cA := (h.2 3 (cA, .int) rfl).2
  exact Option.some.inj (h2.symm.trans h1)
theorem arrS_eq {D : va_G} {cI cS cJ cA : ClassId} {s : State} (h : va_K D vwCl (tysA cI cS cJ ++ [(cA, .object RX2)]) s) : cA = cS := by
  obtain ⟨kA, comp, -, -, -, h1⟩ := (h.2 1 (cS, .object RX2) rfl).2
  obtain ⟨kB, comp2, -, -, -, h2⟩ := (h.2 3 (cA, .object RX2) rfl).2
  exact Option.some.inj (h2.symm.trans h1)
theorem arrJ_eq {D : va_G} {cI cS cJ cA : ClassId} {s : State} (h : va_K D vwCl (tysA cI cS cJ ++ [(cA, .long)]) s) : cA = cJ := by
  have h1 : s.vm.findClass ("[" ++ FieldType.long.toString) = some cJ := (h.2 2 (cJ, .long) rfl).2
  have h2 : s.vm.findClass ("[" ++ FieldType.long.toString) = some cA := (h.2 3 (cA, .long) rfl).2
  exact Option.some.inj (h2.symm.trans h1)
theorem mkRWl {l : Launch} {y : MethodName} {cc : ByteArray} {nL : Nat} {rm : Room} {D : va_G} {T : List (ClassId × FieldType)} {S : Type} {wc : va_W} {wf : S → va_W} {sz mc ms : Nat} {av : List Value} {post : Int64 → S → Prop} (hy : plainFor y = true) (hnl : (lg_sl av).length ≤ nL)
    (body : ∀ {p : Program} {e : Env} {s : State} {m : MethodId} {args : Array Value} {below : List Frame} {meth : Method} {c : Code} {Q : State → Prop} {ls : Array Slot} {A : Nat → Prop} {H0 H : Heap} {locs : List Loc}, p.tables.exec = Jvm.exec → c.code = cc → CallFix p m c cc nL s args wsT y.cls → (∀ w ∈ wsT, w.before args s = true) → s.vm.findClass y.cls = some m.cls → KK D T s → va_P D vwCl wc H → va_D A wc → va_S A H0 H locs → (∀ q, H0.size ≤ q → A q) → lv_has ls nL (lv_args 0 av) →
      (∀ {v : Int64} {u : S} {H : Heap} {locs : List Loc} {pc : Nat} {ls : Array Slot}, post v u → va_P D vwCl (wf u) H → va_D A (wf u) → va_S A H0 H locs → decode cc pc = .ok (.lreturn, 1) → W p l e rm s m args below meth c H locs mc ms Q (F0 m pc ls [.long v])) → W p l e rm s m args below meth c H locs 0 0 Q (F0 m 0 ls [])) :
    Met l y (wsA y cc nL (some .long)) rm (va_Pc av (rwP D T wc sz)) (va_Ql post (fun u t => va_P D vwCl (wf u) t.heap ∧ va_D (va_A wc sz) (wf u)) (va_A wc sz)) mc ms (va_A wc sz) := by
  refine va_MetF (cc := cc) (maxL := nL) (ret := some .long) hy rfl ?_
  intro p e s m args below meth c s₁ B hml hv
  obtain ⟨rfl, hsz, hP, hK, hD0⟩ := hv
  have hts : ∀ w ∈ wsT, w.before av.toArray s = true := fun w h => atoms_spec (ws := wsA y cc nL (some .long)) B.pre w (List.mem_cons_of_mem _ h)
  have hl := lv_entry av (n := nL) hnl
  rw [lg_entry_eq]
  subst hsz
  refine body (A := va_A wc s.heap.size) (H0 := s.heap) (H := s.heap) (locs := []) B.exec B.bytes ⟨B.exec, B.bytes, hml, findClass_of_methodNamed B.named, hts⟩ hts (findClass_of_methodNamed B.named) hK hP hD0.self va_S.rf (fun q h => Or.inr h) hl (fun {v u H locs pc ls} hpv hP1 hD1 hS hd => ?_)
  exact W.lret B.exec B.bytes B.returns (fun t ht hW => ⟨⟨v, u, rfl, hpv, by rw [ht]; exact hP1, hD1⟩, hS.F ht⟩) hS.2.2 hd B.notSynchronized
abbrev rm_X0_init : Room := { frames := 1, cells := 1, slots := 60, locals := 20 }
abbrev rm_X2_init : Room := { frames := 1, cells := 8, slots := 111, locals := 23 }
abbrev rm_X4_init : Room := { frames := 1, cells := 2, slots := 914, locals := 20 }
abbrev rm_X4_digest : Room := { frames := 4, cells := 0, slots := 0, locals := 94 }
theorem q_74 : Cond.selects RX4 yX4_mix yX4_mix ∈ wsT := tw 74 (by decide +kernel) rfl
theorem q_78 : Cond.initialized RJ7 ∈ wsT := tw 78 (by decide +kernel) rfl
theorem q_96 : Cond.instanceMethod objectInit ∈ wsT := tw 96 (by decide +kernel) rfl
theorem q_97 : Cond.code objectInit ⟨#[0xb1]⟩ 1 none ∈ wsT := tw 97 (by decide +kernel) rfl
theorem q_103 : Cond.methodLink RX2 3 objectInit ∈ wsT := tw 103 (by decide +kernel) rfl
theorem q_104 : Cond.methodLink RX2 34 yJ7_fill_53178 ∈ wsT := tw 104 (by decide +kernel) rfl
theorem q_105 : Cond.static yJ7_fill_53178 ∈ wsT := tw 105 (by decide +kernel) rfl
theorem q_106 : Cond.code yJ7_fill_53178 cJ7_fill_53178 4 none ∈ wsT := tw 106 (by decide +kernel) rfl
theorem q_153 : Cond.arrayClass .int ∈ wsT := tw 153 (by decide +kernel) rfl
theorem q_179 : Cond.methodLink RX0 3 objectInit ∈ wsT := tw 179 (by decide +kernel) rfl
theorem q_818 : Cond.methodLink RX4 1 objectInit ∈ wsT := tw 818 (by decide +kernel) rfl
theorem q_1182 : Cond.constantLong RX4 208 4726 ∈ wsT := tw 1182 (by decide +kernel) rfl
theorem q_1183 : Cond.methodLink RX4 210 yX4_mix ∈ wsT := tw 1183 (by decide +kernel) rfl
theorem q_1185 : Cond.instanceMethod yX4_mix ∈ wsT := tw 1185 (by decide +kernel) rfl
theorem q_1186 : Cond.code yX4_mix cX4_mix 3 none ∈ wsT := tw 1186 (by decide +kernel) rfl
theorem cw_X2_34 {R : Room} {s : State} {args : Array Value} (hts : ∀ w ∈ wsT, w.before args s = true) (hf : 0 + 1 ≤ R.frames) (hl : 8 + (4 + 11) + 0 ≤ R.locals) : CallB R s args RX2 34 yJ7_fill_53178 cJ7_fill_53178 4 none (wsA yJ7_fill_53178 cJ7_fill_53178 4 none) rm_J7_fill_53178 0 0 2 ∧ (Cond.static yJ7_fill_53178).before args s = true := cwAS 2 hts q_104 q_105 q_78 q_106 rfl rfl (by decide +kernel) ⟨hf, hl⟩
theorem cw_X4_210 {R : Room} {s : State} {args : Array Value} (hts : ∀ w ∈ wsT, w.before args s = true) (hf : 0 + 1 ≤ R.frames) (hl : 8 + (3 + 11) + 0 ≤ R.locals) : CallW R s args RX4 RX4 210 yX4_mix cX4_mix 3 none (wsA yX4_mix cX4_mix 3 none) rm_X4_mix 0 0 1 := cwAV 1 hts q_1183 q_1185 q_74 q_81 q_1186 rfl rfl (by decide +kernel) ⟨hf, hl⟩
def wp_X0_init (post : Ot → Prop) : Prop :=
  post ((fun _ => 0), 0)
set_option maxHeartbeats 4000000 in
set_option maxRecDepth 100000 in
theorem c_X0_init (l : Launch) (D : va_G) (cI cS cJ : ClassId) (h0 : Nat) (sz : Nat) {post : Ot → Prop} (h : wp_X0_init post) : Met l yX0_init (wsA yX0_init cX0_init 1 none) rm_X0_init (va_Pc [.ref h0] (rwP D (tysA cI cS cJ) ([(h0, .inr (0, [.null, .int 0]))]) sz)) (va_Qv (fun q9 : (Nat → Nat) × Ot => q9.1 0 = h0 ∧ post q9.2) (fun q9 t => va_P D vwCl (otW cI q9.1 q9.2) t.heap ∧ va_D (va_A ([(h0, .inr (0, [.null, .int 0]))]) sz) (otW cI q9.1 q9.2)) (va_A ([(h0, .inr (0, [.null, .int 0]))]) sz)) 1 60 (va_A ([(h0, .inr (0, [.null, .int 0]))]) sz) := by
  refine mkRWv (S := (Nat → Nat) × Ot) (wf := fun q9 => otW cI q9.1 q9.2) (by decide +kernel) (Nat.le_of_ble_eq_true rfl) (fun {p e s m args below meth c Q ls A H0 H locs} hx hb F hts hown hin hK hP hD hS hA hl hQ => ?_)
  have hown : s.vm.findClass RX0 = some m.cls := hown
  have F : CallFix p m c cX0_init 1 s args wsT RX0 := F
  have hl : lv_has ls 1 [(0, .ref h0)] := hl
  unfold wp_X0_init at h
  refine lv_aload_n hx hb dX0_init_0 rfl (lv_at hl 0 rfl) ?_
  refine W.objInit hx hb hown (hts _ q_179) (hts _ q_96) (hts _ q_97) rfl (by rw [F.2.2.1]; exact hl.1) rfl dX0_init_1 (Nat.le_of_ble_eq_true rfl) (Nat.le_of_ble_eq_true rfl) ?_
  refine W.eq (g2 := F0 m 4 ls []) rfl ?_
  refine lv_aload_n hx hb dX0_init_4 rfl (lv_at hl 0 rfl) ?_
  refine lv_bipush (v := (60 : Int32)) hx hb dX0_init_5 (by decide) ?_
  refine va_newa (atype := .int) (ty := .int) (a0 := (60, .inl (fun _ => 0))) (N' := 60) hx hb (hts _ q_153) rfl hK.k hP hD hS hA (fun cA => rfl) (by decide) rfl (by decide) (Nat.le_of_ble_eq_true rfl) (Nat.le_of_ble_eq_true rfl) dX0_init_7 (fun q1 ck2 H k2 hP hD hS => ?_)
  rw [arrI_eq k2] at hP hD
  have hP : va_P D vwCl ([(h0, .inr (0, [.null, .int 0])), (q1, .inl (cI, 60, .inl (fun _ => 0)))]) H := hP
  have hD : va_D A ([(h0, .inr (0, [.null, .int 0])), (q1, .inl (cI, 60, .inl (fun _ => 0)))]) := hD
  refine va_putF (D := D) (ci := 0) (v := .ref q1) (ty := (.array .int)) (C := RX0) (T := TX0) (N := 2) hx hb hts inT0 tyX0 tyX0_ok nmX0 hown hK.k hP hD hS 0 rfl rfl 0 (by decide) (hts _ q_180) (fun _ h9 => h9) rfl (hin rfl) rfl (by decide +kernel) rfl rfl (Nat.le_of_ble_eq_true rfl) dX0_init_9 (fun H locs hP hD hS => ?_)
  have hP : va_P D vwCl ([(h0, .inr (0, [.ref q1, .int 0])), (q1, .inl (cI, 60, .inl (fun _ => 0)))]) H := hP
  have hD : va_D A ([(h0, .inr (0, [.ref q1, .int 0])), (q1, .inl (cI, 60, .inl (fun _ => 0)))]) := hD
  exact hQ (u := (fun k => ([h0, q1] : List Nat).getD k 0, ((fun _ => 0), 0))) ⟨rfl, h⟩ hP hD hS dX0_init_12

def wp_X2_init (post : St → Prop) : Prop :=
  LP2 (fun (K5 : Int32 → (Nat → Int32) → Prop) (x3 : Int32) (f4 : (Nat → Int32)) => ((8 : Int32) ≤ x3 → wp_J7_fill_53178 4 (fun _ => 0) (-1 : Int32) (fun f18 => wp_J7_fill_53178 4 (fun _ => 0) (-1 : Int32) (fun f21 => post ((255 : Int32), f4, 0, (fun _ => 0), (fun _ => 0), (fun _ => 0), 0, (fun _ => 0), f18, f21, (-1 : Int32), (fun _ => 0))))) ∧ (¬ (8 : Int32) ≤ x3 → (vp_in x3 8) ∧ (K5 (x3 + 1) (upd f4 (Int32.toNatClampNeg x3) ((1111 : Int32) * (x3 + (1 : Int32))))))) (0 : Int32) (fun _ => 0)
set_option maxHeartbeats 4000000 in
set_option maxRecDepth 100000 in
theorem c_X2_init (l : Launch) (D : va_G) (cI cS cJ : ClassId) (h0 : Nat) (sz : Nat) {post : St → Prop} (h : wp_X2_init post) : Met l yX2_init (wsA yX2_init cX2_init 2 none) rm_X2_init (va_Pc [.ref h0] (rwP D (tysA cI cS cJ) ([(h0, .inr (2, [.int 0, .null, .int 0, .null, .null, .null, .int 0, .null, .null, .null, .int 0, .null]))]) sz)) (va_Qv (fun q9 : (Nat → Nat) × St => q9.1 0 = h0 ∧ post q9.2) (fun q9 t => va_P D vwCl (stW cI q9.1 q9.2) t.heap ∧ va_D (va_A ([(h0, .inr (2, [.int 0, .null, .int 0, .null, .null, .null, .int 0, .null, .null, .null, .int 0, .null]))]) sz) (stW cI q9.1 q9.2)) (va_A ([(h0, .inr (2, [.int 0, .null, .int 0, .null, .null, .null, .int 0, .null, .null, .null, .int 0, .null]))]) sz)) 8 111 (va_A ([(h0, .inr (2, [.int 0, .null, .int 0, .null, .null, .null, .int 0, .null, .null, .null, .int 0, .null]))]) sz) := by
  refine mkRWv (S := (Nat → Nat) × St) (wf := fun q9 => stW cI q9.1 q9.2) (by decide +kernel) (Nat.le_of_ble_eq_true rfl) (fun {p e s m args below meth c Q ls A H0 H locs} hx hb F hts hown hin hK hP hD hS hA hl hQ => ?_)
  have hown : s.vm.findClass RX2 = some m.cls := hown
  have F : CallFix p m c cX2_init 2 s args wsT RX2 := F
  have hl : lv_has ls 2 [(0, .ref h0)] := hl
  unfold wp_X2_init at h
  refine lv_aload_n hx hb dX2_init_0 rfl (lv_at hl 0 rfl) ?_
  refine W.objInit hx hb hown (hts _ q_103) (hts _ q_96) (hts _ q_97) rfl (by rw [F.2.2.1]; exact hl.1) rfl dX2_init_1 (Nat.le_of_ble_eq_true rfl) (Nat.le_of_ble_eq_true rfl) ?_
  refine W.eq (g2 := F0 m 4 ls []) rfl ?_
  refine lv_aload_n hx hb dX2_init_4 rfl (lv_at hl 0 rfl) ?_
  refine lv_sipush (v := (255 : Int32)) hx hb dX2_init_5 (by decide) ?_
  refine va_put (D := D) (ci := 2) (v := .int (255 : Int32)) (ty := .int) (C := RX2) (T := TX2) (N := 12) hx hb hts inT2 tyX2 tyX2_ok nmX2 hown hK.k hP hD hS 0 rfl rfl 0 (by decide) (hts _ q_107) (fun _ h9 => h9) rfl (by decide +kernel) rfl rfl (Nat.le_of_ble_eq_true rfl) dX2_init_8 (fun H locs hP hD hS => ?_)
  have hP : va_P D vwCl ([(h0, .inr (2, [.int (255 : Int32), .null, .int 0, .null, .null, .null, .int 0, .null, .null, .null, .int 0, .null]))]) H := hP
  have hD : va_D A ([(h0, .inr (2, [.int (255 : Int32), .null, .int 0, .null, .null, .null, .int 0, .null, .null, .null, .int 0, .null]))]) := hD
  refine lv_aload_n hx hb dX2_init_11 rfl (lv_at hl 0 rfl) ?_
  refine lv_bipush (v := (8 : Int32)) hx hb dX2_init_12 (by decide) ?_
  refine va_newa (atype := .int) (ty := .int) (a0 := (8, .inl (fun _ => 0))) (N' := 8) hx hb (hts _ q_153) rfl hK.k hP hD hS hA (fun cA => rfl) (by decide) rfl (by decide) (Nat.le_of_ble_eq_true rfl) (Nat.le_of_ble_eq_true rfl) dX2_init_14 (fun q1 ck2 H k2 hP hD hS => ?_)
  rw [arrI_eq k2] at hP hD
  have hP : va_P D vwCl ([(h0, .inr (2, [.int (255 : Int32), .null, .int 0, .null, .null, .null, .int 0, .null, .null, .null, .int 0, .null])), (q1, .inl (cI, 8, .inl (fun _ => 0)))]) H := hP
  have hD : va_D A ([(h0, .inr (2, [.int (255 : Int32), .null, .int 0, .null, .null, .null, .int 0, .null, .null, .null, .int 0, .null])), (q1, .inl (cI, 8, .inl (fun _ => 0)))]) := hD
  refine va_putF (D := D) (ci := 2) (v := .ref q1) (ty := (.array .int)) (C := RX2) (T := TX2) (N := 12) hx hb hts inT2 tyX2 tyX2_ok nmX2 hown hK.k hP hD hS 0 rfl rfl 1 (by decide) (hts _ q_109) (fun _ h9 => h9) rfl (hin rfl) rfl (by decide +kernel) rfl rfl (Nat.le_of_ble_eq_true rfl) dX2_init_16 (fun H locs hP hD hS => ?_)
  have hP : va_P D vwCl ([(h0, .inr (2, [.int (255 : Int32), .ref q1, .int 0, .null, .null, .null, .int 0, .null, .null, .null, .int 0, .null])), (q1, .inl (cI, 8, .inl (fun _ => 0)))]) H := hP
  have hD : va_D A ([(h0, .inr (2, [.int (255 : Int32), .ref q1, .int 0, .null, .null, .null, .int 0, .null, .null, .null, .int 0, .null])), (q1, .inl (cI, 8, .inl (fun _ => 0)))]) := hD
  refine lv_iconst (v := (0 : Int32)) hx hb dX2_init_19 (by decide) ?_
  refine lv_istore_n (lv' := [(1, .int (0 : Int32)), (0, .ref h0)]) hx hb dX2_init_20 rfl hl (by decide) rfl (fun ls hl => ?_)
  refine lpu2 h (fun K5 : Int32 → (Nat → Int32) → Prop => ∀ (x3 : Int32) (f4 : (Nat → Int32)) (ls : Array Slot) (H : Heap) (locs : List Loc), lv_has ls 2 [(0, .ref h0), (1, .int x3)] → va_P D vwCl ([(h0, .inr (2, [.int (255 : Int32), .ref q1, .int 0, .null, .null, .null, .int 0, .null, .null, .null, .int 0, .null])), (q1, .inl (cI, 8, .inl f4))]) H → va_D A ([(h0, .inr (2, [.int (255 : Int32), .ref q1, .int 0, .null, .null, .null, .int 0, .null, .null, .null, .int 0, .null])), (q1, .inl (cI, 8, .inl f4))]) → va_S A H0 H locs → K5 x3 f4 → W p l e rm_X2_init s m args below meth c H locs (0 + 1) (0 + 8) Q (F0 m 21 ls [])) ?_ ?_ ?_
  · intro x3 f4 ls H locs hl hP hD hS h
    exact h.elim
  · intro K5
    intro w6 x3 f4 ls H locs hl hP hD hS h
    refine lv_iload_n hx hb dX2_init_21 rfl (lv_at hl 1 rfl) ?_
    refine lv_aload_n hx hb dX2_init_22 rfl (lv_at hl 0 rfl) ?_
    refine va_get (D := D) (ci := 2) (v := .ref q1) (C := RX2) (T := TX2) (N := 12) hx hb hts inT2 hown hK.k hP 0 rfl rfl 1 (by decide) (hts _ q_109) (fun _ h9 => h9) rfl dX2_init_23 ?_
    refine va_alen (v := (8 : Int32)) hx hb hK.k hP 1 0 rfl rfl rfl dX2_init_26 ?_
    refine lv_icmp_ge (tgt := 49) hx hb dX2_init_27 (by decide) (fun c7 => ?_) (fun c7 => ?_)
    · replace h := h.1 c7
      refine lv_aload_n hx hb dX2_init_49 rfl (lv_at hl 0 rfl) ?_
      refine lv_bipush (v := (18 : Int32)) hx hb dX2_init_50 (by decide) ?_
      refine va_newa (atype := .int) (ty := .int) (a0 := (18, .inl (fun _ => 0))) (N' := 18) hx hb (hts _ q_153) rfl hK.k hP hD hS hA (fun cA => rfl) (by decide) rfl (by decide) (Nat.le_of_ble_eq_true rfl) (Nat.le_of_ble_eq_true rfl) dX2_init_52 (fun q8 ck9 H k9 hP hD hS => ?_)
      rw [arrI_eq k9] at hP hD
      have hP : va_P D vwCl ([(h0, .inr (2, [.int (255 : Int32), .ref q1, .int 0, .null, .null, .null, .int 0, .null, .null, .null, .int 0, .null])), (q1, .inl (cI, 8, .inl f4)), (q8, .inl (cI, 18, .inl (fun _ => 0)))]) H := hP
      have hD : va_D A ([(h0, .inr (2, [.int (255 : Int32), .ref q1, .int 0, .null, .null, .null, .int 0, .null, .null, .null, .int 0, .null])), (q1, .inl (cI, 8, .inl f4)), (q8, .inl (cI, 18, .inl (fun _ => 0)))]) := hD
      refine va_putF (D := D) (ci := 2) (v := .ref q8) (ty := (.array .int)) (C := RX2) (T := TX2) (N := 12) hx hb hts inT2 tyX2 tyX2_ok nmX2 hown hK.k hP hD hS 0 rfl rfl 3 (by decide) (hts _ q_113) (fun _ h9 => h9) rfl (hin rfl) rfl (by decide +kernel) rfl rfl (Nat.le_of_ble_eq_true rfl) dX2_init_54 (fun H locs hP hD hS => ?_)
      have hP : va_P D vwCl ([(h0, .inr (2, [.int (255 : Int32), .ref q1, .int 0, .ref q8, .null, .null, .int 0, .null, .null, .null, .int 0, .null])), (q1, .inl (cI, 8, .inl f4)), (q8, .inl (cI, 18, .inl (fun _ => 0)))]) H := hP
      have hD : va_D A ([(h0, .inr (2, [.int (255 : Int32), .ref q1, .int 0, .ref q8, .null, .null, .int 0, .null, .null, .null, .int 0, .null])), (q1, .inl (cI, 8, .inl f4)), (q8, .inl (cI, 18, .inl (fun _ => 0)))]) := hD
      refine lv_aload_n hx hb dX2_init_57 rfl (lv_at hl 0 rfl) ?_
      refine lv_bipush (v := (18 : Int32)) hx hb dX2_init_58 (by decide) ?_
      refine va_newa (atype := .int) (ty := .int) (a0 := (18, .inl (fun _ => 0))) (N' := 18) hx hb (hts _ q_153) rfl hK.k hP hD hS hA (fun cA => rfl) (by decide) rfl (by decide) (Nat.le_of_ble_eq_true rfl) (Nat.le_of_ble_eq_true rfl) dX2_init_60 (fun q10 ck11 H k11 hP hD hS => ?_)
      rw [arrI_eq k11] at hP hD
      have hP : va_P D vwCl ([(h0, .inr (2, [.int (255 : Int32), .ref q1, .int 0, .ref q8, .null, .null, .int 0, .null, .null, .null, .int 0, .null])), (q1, .inl (cI, 8, .inl f4)), (q8, .inl (cI, 18, .inl (fun _ => 0))), (q10, .inl (cI, 18, .inl (fun _ => 0)))]) H := hP
      have hD : va_D A ([(h0, .inr (2, [.int (255 : Int32), .ref q1, .int 0, .ref q8, .null, .null, .int 0, .null, .null, .null, .int 0, .null])), (q1, .inl (cI, 8, .inl f4)), (q8, .inl (cI, 18, .inl (fun _ => 0))), (q10, .inl (cI, 18, .inl (fun _ => 0)))]) := hD
      refine va_putF (D := D) (ci := 2) (v := .ref q10) (ty := (.array .int)) (C := RX2) (T := TX2) (N := 12) hx hb hts inT2 tyX2 tyX2_ok nmX2 hown hK.k hP hD hS 0 rfl rfl 4 (by decide) (hts _ q_114) (fun _ h9 => h9) rfl (hin rfl) rfl (by decide +kernel) rfl rfl (Nat.le_of_ble_eq_true rfl) dX2_init_62 (fun H locs hP hD hS => ?_)
      have hP : va_P D vwCl ([(h0, .inr (2, [.int (255 : Int32), .ref q1, .int 0, .ref q8, .ref q10, .null, .int 0, .null, .null, .null, .int 0, .null])), (q1, .inl (cI, 8, .inl f4)), (q8, .inl (cI, 18, .inl (fun _ => 0))), (q10, .inl (cI, 18, .inl (fun _ => 0)))]) H := hP
      have hD : va_D A ([(h0, .inr (2, [.int (255 : Int32), .ref q1, .int 0, .ref q8, .ref q10, .null, .int 0, .null, .null, .null, .int 0, .null])), (q1, .inl (cI, 8, .inl f4)), (q8, .inl (cI, 18, .inl (fun _ => 0))), (q10, .inl (cI, 18, .inl (fun _ => 0)))]) := hD
      refine lv_aload_n hx hb dX2_init_65 rfl (lv_at hl 0 rfl) ?_
      refine lv_bipush (v := (6 : Int32)) hx hb dX2_init_66 (by decide) ?_
      refine va_newa (atype := .int) (ty := .int) (a0 := (6, .inl (fun _ => 0))) (N' := 6) hx hb (hts _ q_153) rfl hK.k hP hD hS hA (fun cA => rfl) (by decide) rfl (by decide) (Nat.le_of_ble_eq_true rfl) (Nat.le_of_ble_eq_true rfl) dX2_init_68 (fun q12 ck13 H k13 hP hD hS => ?_)
      rw [arrI_eq k13] at hP hD
      have hP : va_P D vwCl ([(h0, .inr (2, [.int (255 : Int32), .ref q1, .int 0, .ref q8, .ref q10, .null, .int 0, .null, .null, .null, .int 0, .null])), (q1, .inl (cI, 8, .inl f4)), (q8, .inl (cI, 18, .inl (fun _ => 0))), (q10, .inl (cI, 18, .inl (fun _ => 0))), (q12, .inl (cI, 6, .inl (fun _ => 0)))]) H := hP
      have hD : va_D A ([(h0, .inr (2, [.int (255 : Int32), .ref q1, .int 0, .ref q8, .ref q10, .null, .int 0, .null, .null, .null, .int 0, .null])), (q1, .inl (cI, 8, .inl f4)), (q8, .inl (cI, 18, .inl (fun _ => 0))), (q10, .inl (cI, 18, .inl (fun _ => 0))), (q12, .inl (cI, 6, .inl (fun _ => 0)))]) := hD
      refine va_putF (D := D) (ci := 2) (v := .ref q12) (ty := (.array .int)) (C := RX2) (T := TX2) (N := 12) hx hb hts inT2 tyX2 tyX2_ok nmX2 hown hK.k hP hD hS 0 rfl rfl 5 (by decide) (hts _ q_115) (fun _ h9 => h9) rfl (hin rfl) rfl (by decide +kernel) rfl rfl (Nat.le_of_ble_eq_true rfl) dX2_init_70 (fun H locs hP hD hS => ?_)
      have hP : va_P D vwCl ([(h0, .inr (2, [.int (255 : Int32), .ref q1, .int 0, .ref q8, .ref q10, .ref q12, .int 0, .null, .null, .null, .int 0, .null])), (q1, .inl (cI, 8, .inl f4)), (q8, .inl (cI, 18, .inl (fun _ => 0))), (q10, .inl (cI, 18, .inl (fun _ => 0))), (q12, .inl (cI, 6, .inl (fun _ => 0)))]) H := hP
      have hD : va_D A ([(h0, .inr (2, [.int (255 : Int32), .ref q1, .int 0, .ref q8, .ref q10, .ref q12, .int 0, .null, .null, .null, .int 0, .null])), (q1, .inl (cI, 8, .inl f4)), (q8, .inl (cI, 18, .inl (fun _ => 0))), (q10, .inl (cI, 18, .inl (fun _ => 0))), (q12, .inl (cI, 6, .inl (fun _ => 0)))]) := hD
      refine lv_aload_n hx hb dX2_init_73 rfl (lv_at hl 0 rfl) ?_
      refine lv_bipush (v := (48 : Int32)) hx hb dX2_init_74 (by decide) ?_
      refine va_newa (atype := .int) (ty := .int) (a0 := (48, .inl (fun _ => 0))) (N' := 48) hx hb (hts _ q_153) rfl hK.k hP hD hS hA (fun cA => rfl) (by decide) rfl (by decide) (Nat.le_of_ble_eq_true rfl) (Nat.le_of_ble_eq_true rfl) dX2_init_76 (fun q14 ck15 H k15 hP hD hS => ?_)
      rw [arrI_eq k15] at hP hD
      have hP : va_P D vwCl ([(h0, .inr (2, [.int (255 : Int32), .ref q1, .int 0, .ref q8, .ref q10, .ref q12, .int 0, .null, .null, .null, .int 0, .null])), (q1, .inl (cI, 8, .inl f4)), (q8, .inl (cI, 18, .inl (fun _ => 0))), (q10, .inl (cI, 18, .inl (fun _ => 0))), (q12, .inl (cI, 6, .inl (fun _ => 0))), (q14, .inl (cI, 48, .inl (fun _ => 0)))]) H := hP
      have hD : va_D A ([(h0, .inr (2, [.int (255 : Int32), .ref q1, .int 0, .ref q8, .ref q10, .ref q12, .int 0, .null, .null, .null, .int 0, .null])), (q1, .inl (cI, 8, .inl f4)), (q8, .inl (cI, 18, .inl (fun _ => 0))), (q10, .inl (cI, 18, .inl (fun _ => 0))), (q12, .inl (cI, 6, .inl (fun _ => 0))), (q14, .inl (cI, 48, .inl (fun _ => 0)))]) := hD
      refine va_putF (D := D) (ci := 2) (v := .ref q14) (ty := (.array .int)) (C := RX2) (T := TX2) (N := 12) hx hb hts inT2 tyX2 tyX2_ok nmX2 hown hK.k hP hD hS 0 rfl rfl 7 (by decide) (hts _ q_119) (fun _ h9 => h9) rfl (hin rfl) rfl (by decide +kernel) rfl rfl (Nat.le_of_ble_eq_true rfl) dX2_init_78 (fun H locs hP hD hS => ?_)
      have hP : va_P D vwCl ([(h0, .inr (2, [.int (255 : Int32), .ref q1, .int 0, .ref q8, .ref q10, .ref q12, .int 0, .ref q14, .null, .null, .int 0, .null])), (q1, .inl (cI, 8, .inl f4)), (q8, .inl (cI, 18, .inl (fun _ => 0))), (q10, .inl (cI, 18, .inl (fun _ => 0))), (q12, .inl (cI, 6, .inl (fun _ => 0))), (q14, .inl (cI, 48, .inl (fun _ => 0)))]) H := hP
      have hD : va_D A ([(h0, .inr (2, [.int (255 : Int32), .ref q1, .int 0, .ref q8, .ref q10, .ref q12, .int 0, .ref q14, .null, .null, .int 0, .null])), (q1, .inl (cI, 8, .inl f4)), (q8, .inl (cI, 18, .inl (fun _ => 0))), (q10, .inl (cI, 18, .inl (fun _ => 0))), (q12, .inl (cI, 6, .inl (fun _ => 0))), (q14, .inl (cI, 48, .inl (fun _ => 0)))]) := hD
      refine lv_aload_n hx hb dX2_init_81 rfl (lv_at hl 0 rfl) ?_
      refine lv_iconst (v := (4 : Int32)) hx hb dX2_init_82 (by decide) ?_
      refine va_newa (atype := .int) (ty := .int) (a0 := (4, .inl (fun _ => 0))) (N' := 4) hx hb (hts _ q_153) rfl hK.k hP hD hS hA (fun cA => rfl) (by decide) rfl (by decide) (Nat.le_of_ble_eq_true rfl) (Nat.le_of_ble_eq_true rfl) dX2_init_83 (fun q16 ck17 H k17 hP hD hS => ?_)
      rw [arrI_eq k17] at hP hD
      have hP : va_P D vwCl ([(h0, .inr (2, [.int (255 : Int32), .ref q1, .int 0, .ref q8, .ref q10, .ref q12, .int 0, .ref q14, .null, .null, .int 0, .null])), (q1, .inl (cI, 8, .inl f4)), (q8, .inl (cI, 18, .inl (fun _ => 0))), (q10, .inl (cI, 18, .inl (fun _ => 0))), (q12, .inl (cI, 6, .inl (fun _ => 0))), (q14, .inl (cI, 48, .inl (fun _ => 0))), (q16, .inl (cI, 4, .inl (fun _ => 0)))]) H := hP
      have hD : va_D A ([(h0, .inr (2, [.int (255 : Int32), .ref q1, .int 0, .ref q8, .ref q10, .ref q12, .int 0, .ref q14, .null, .null, .int 0, .null])), (q1, .inl (cI, 8, .inl f4)), (q8, .inl (cI, 18, .inl (fun _ => 0))), (q10, .inl (cI, 18, .inl (fun _ => 0))), (q12, .inl (cI, 6, .inl (fun _ => 0))), (q14, .inl (cI, 48, .inl (fun _ => 0))), (q16, .inl (cI, 4, .inl (fun _ => 0)))]) := hD
      refine va_putF (D := D) (ci := 2) (v := .ref q16) (ty := (.array .int)) (C := RX2) (T := TX2) (N := 12) hx hb hts inT2 tyX2 tyX2_ok nmX2 hown hK.k hP hD hS 0 rfl rfl 8 (by decide) (hts _ q_120) (fun _ h9 => h9) rfl (hin rfl) rfl (by decide +kernel) rfl rfl (Nat.le_of_ble_eq_true rfl) dX2_init_85 (fun H locs hP hD hS => ?_)
      have hP : va_P D vwCl ([(h0, .inr (2, [.int (255 : Int32), .ref q1, .int 0, .ref q8, .ref q10, .ref q12, .int 0, .ref q14, .ref q16, .null, .int 0, .null])), (q1, .inl (cI, 8, .inl f4)), (q8, .inl (cI, 18, .inl (fun _ => 0))), (q10, .inl (cI, 18, .inl (fun _ => 0))), (q12, .inl (cI, 6, .inl (fun _ => 0))), (q14, .inl (cI, 48, .inl (fun _ => 0))), (q16, .inl (cI, 4, .inl (fun _ => 0)))]) H := hP
      have hD : va_D A ([(h0, .inr (2, [.int (255 : Int32), .ref q1, .int 0, .ref q8, .ref q10, .ref q12, .int 0, .ref q14, .ref q16, .null, .int 0, .null])), (q1, .inl (cI, 8, .inl f4)), (q8, .inl (cI, 18, .inl (fun _ => 0))), (q10, .inl (cI, 18, .inl (fun _ => 0))), (q12, .inl (cI, 6, .inl (fun _ => 0))), (q14, .inl (cI, 48, .inl (fun _ => 0))), (q16, .inl (cI, 4, .inl (fun _ => 0)))]) := hD
      refine lv_aload_n hx hb dX2_init_88 rfl (lv_at hl 0 rfl) ?_
      refine va_get (D := D) (ci := 2) (v := .ref q16) (C := RX2) (T := TX2) (N := 12) hx hb hts inT2 hown hK.k hP 0 rfl rfl 8 (by decide) (hts _ q_120) (fun _ h9 => h9) rfl dX2_init_89 ?_
      refine lv_iconst (v := (-1 : Int32)) hx hb dX2_init_92 (by decide) ?_
      refine rwSv (wr := List.eraseIdx ([(h0, .inr (2, [.int (255 : Int32), .ref q1, .int 0, .ref q8, .ref q10, .ref q12, .int 0, .ref q14, .ref q16, .null, .int 0, .null])), (q1, .inl (cI, 8, .inl f4)), (q8, .inl (cI, 18, .inl (fun _ => 0))), (q10, .inl (cI, 18, .inl (fun _ => 0))), (q12, .inl (cI, 6, .inl (fun _ => 0))), (q14, .inl (cI, 48, .inl (fun _ => 0))), (q16, .inl (cI, 4, .inl (fun _ => 0)))]) 6) (wf := fun f1 => [(q16, .inl (cI, 4, .inl f1))]) (As := [.ref q16, .int (-1 : Int32)]) (rest := []) (perm_k _ 6 rfl) F (c_J7_fill_53178 l D cI cS cJ q16 4 (fun _ => 0) H.size (-1 : Int32) h) (cw_X2_34 hts (Nat.le_of_ble_eq_true rfl) (Nat.le_of_ble_eq_true rfl)) hK hP hD hS hA rfl hl.1 rfl (Nat.le_of_ble_eq_true rfl) dX2_init_93 ⟨(Nat.le_of_ble_eq_true rfl), (Nat.le_of_ble_eq_true rfl)⟩ (fun f18 H locs h hP hD hS => ?_)
      have hP : va_P D vwCl ([(h0, .inr (2, [.int (255 : Int32), .ref q1, .int 0, .ref q8, .ref q10, .ref q12, .int 0, .ref q14, .ref q16, .null, .int 0, .null])), (q1, .inl (cI, 8, .inl f4)), (q8, .inl (cI, 18, .inl (fun _ => 0))), (q10, .inl (cI, 18, .inl (fun _ => 0))), (q12, .inl (cI, 6, .inl (fun _ => 0))), (q14, .inl (cI, 48, .inl (fun _ => 0))), (q16, .inl (cI, 4, .inl f18))]) H := vP_set1 (k := 6) (ws := [(h0, .inr (2, [.int (255 : Int32), .ref q1, .int 0, .ref q8, .ref q10, .ref q12, .int 0, .ref q14, .ref q16, .null, .int 0, .null])), (q1, .inl (cI, 8, .inl f4)), (q8, .inl (cI, 18, .inl (fun _ => 0))), (q10, .inl (cI, 18, .inl (fun _ => 0))), (q12, .inl (cI, 6, .inl (fun _ => 0))), (q14, .inl (cI, 48, .inl (fun _ => 0))), (q16, .inl (cI, 4, .inl (fun _ => 0)))]) rfl hP
      have hD : va_D A ([(h0, .inr (2, [.int (255 : Int32), .ref q1, .int 0, .ref q8, .ref q10, .ref q12, .int 0, .ref q14, .ref q16, .null, .int 0, .null])), (q1, .inl (cI, 8, .inl f4)), (q8, .inl (cI, 18, .inl (fun _ => 0))), (q10, .inl (cI, 18, .inl (fun _ => 0))), (q12, .inl (cI, 6, .inl (fun _ => 0))), (q14, .inl (cI, 48, .inl (fun _ => 0))), (q16, .inl (cI, 4, .inl f18))]) := vD_set1 (k := 6) (ws := [(h0, .inr (2, [.int (255 : Int32), .ref q1, .int 0, .ref q8, .ref q10, .ref q12, .int 0, .ref q14, .ref q16, .null, .int 0, .null])), (q1, .inl (cI, 8, .inl f4)), (q8, .inl (cI, 18, .inl (fun _ => 0))), (q10, .inl (cI, 18, .inl (fun _ => 0))), (q12, .inl (cI, 6, .inl (fun _ => 0))), (q14, .inl (cI, 48, .inl (fun _ => 0))), (q16, .inl (cI, 4, .inl (fun _ => 0)))]) rfl hD
      refine lv_aload_n hx hb dX2_init_96 rfl (lv_at hl 0 rfl) ?_
      refine lv_iconst (v := (4 : Int32)) hx hb dX2_init_97 (by decide) ?_
      refine va_newa (atype := .int) (ty := .int) (a0 := (4, .inl (fun _ => 0))) (N' := 4) hx hb (hts _ q_153) rfl hK.k hP hD hS hA (fun cA => rfl) (by decide) rfl (by decide) (Nat.le_of_ble_eq_true rfl) (Nat.le_of_ble_eq_true rfl) dX2_init_98 (fun q19 ck20 H k20 hP hD hS => ?_)
      rw [arrI_eq k20] at hP hD
      have hP : va_P D vwCl ([(h0, .inr (2, [.int (255 : Int32), .ref q1, .int 0, .ref q8, .ref q10, .ref q12, .int 0, .ref q14, .ref q16, .null, .int 0, .null])), (q1, .inl (cI, 8, .inl f4)), (q8, .inl (cI, 18, .inl (fun _ => 0))), (q10, .inl (cI, 18, .inl (fun _ => 0))), (q12, .inl (cI, 6, .inl (fun _ => 0))), (q14, .inl (cI, 48, .inl (fun _ => 0))), (q16, .inl (cI, 4, .inl f18)), (q19, .inl (cI, 4, .inl (fun _ => 0)))]) H := hP
      have hD : va_D A ([(h0, .inr (2, [.int (255 : Int32), .ref q1, .int 0, .ref q8, .ref q10, .ref q12, .int 0, .ref q14, .ref q16, .null, .int 0, .null])), (q1, .inl (cI, 8, .inl f4)), (q8, .inl (cI, 18, .inl (fun _ => 0))), (q10, .inl (cI, 18, .inl (fun _ => 0))), (q12, .inl (cI, 6, .inl (fun _ => 0))), (q14, .inl (cI, 48, .inl (fun _ => 0))), (q16, .inl (cI, 4, .inl f18)), (q19, .inl (cI, 4, .inl (fun _ => 0)))]) := hD
      refine va_putF (D := D) (ci := 2) (v := .ref q19) (ty := (.array .int)) (C := RX2) (T := TX2) (N := 12) hx hb hts inT2 tyX2 tyX2_ok nmX2 hown hK.k hP hD hS 0 rfl rfl 9 (by decide) (hts _ q_122) (fun _ h9 => h9) rfl (hin rfl) rfl (by decide +kernel) rfl rfl (Nat.le_of_ble_eq_true rfl) dX2_init_100 (fun H locs hP hD hS => ?_)
      have hP : va_P D vwCl ([(h0, .inr (2, [.int (255 : Int32), .ref q1, .int 0, .ref q8, .ref q10, .ref q12, .int 0, .ref q14, .ref q16, .ref q19, .int 0, .null])), (q1, .inl (cI, 8, .inl f4)), (q8, .inl (cI, 18, .inl (fun _ => 0))), (q10, .inl (cI, 18, .inl (fun _ => 0))), (q12, .inl (cI, 6, .inl (fun _ => 0))), (q14, .inl (cI, 48, .inl (fun _ => 0))), (q16, .inl (cI, 4, .inl f18)), (q19, .inl (cI, 4, .inl (fun _ => 0)))]) H := hP
      have hD : va_D A ([(h0, .inr (2, [.int (255 : Int32), .ref q1, .int 0, .ref q8, .ref q10, .ref q12, .int 0, .ref q14, .ref q16, .ref q19, .int 0, .null])), (q1, .inl (cI, 8, .inl f4)), (q8, .inl (cI, 18, .inl (fun _ => 0))), (q10, .inl (cI, 18, .inl (fun _ => 0))), (q12, .inl (cI, 6, .inl (fun _ => 0))), (q14, .inl (cI, 48, .inl (fun _ => 0))), (q16, .inl (cI, 4, .inl f18)), (q19, .inl (cI, 4, .inl (fun _ => 0)))]) := hD
      refine lv_aload_n hx hb dX2_init_103 rfl (lv_at hl 0 rfl) ?_
      refine va_get (D := D) (ci := 2) (v := .ref q19) (C := RX2) (T := TX2) (N := 12) hx hb hts inT2 hown hK.k hP 0 rfl rfl 9 (by decide) (hts _ q_122) (fun _ h9 => h9) rfl dX2_init_104 ?_
      refine lv_iconst (v := (-1 : Int32)) hx hb dX2_init_107 (by decide) ?_
      refine rwSv (wr := List.eraseIdx ([(h0, .inr (2, [.int (255 : Int32), .ref q1, .int 0, .ref q8, .ref q10, .ref q12, .int 0, .ref q14, .ref q16, .ref q19, .int 0, .null])), (q1, .inl (cI, 8, .inl f4)), (q8, .inl (cI, 18, .inl (fun _ => 0))), (q10, .inl (cI, 18, .inl (fun _ => 0))), (q12, .inl (cI, 6, .inl (fun _ => 0))), (q14, .inl (cI, 48, .inl (fun _ => 0))), (q16, .inl (cI, 4, .inl f18)), (q19, .inl (cI, 4, .inl (fun _ => 0)))]) 7) (wf := fun f1 => [(q19, .inl (cI, 4, .inl f1))]) (As := [.ref q19, .int (-1 : Int32)]) (rest := []) (perm_k _ 7 rfl) F (c_J7_fill_53178 l D cI cS cJ q19 4 (fun _ => 0) H.size (-1 : Int32) h) (cw_X2_34 hts (Nat.le_of_ble_eq_true rfl) (Nat.le_of_ble_eq_true rfl)) hK hP hD hS hA rfl hl.1 rfl (Nat.le_of_ble_eq_true rfl) dX2_init_108 ⟨(Nat.le_of_ble_eq_true rfl), (Nat.le_of_ble_eq_true rfl)⟩ (fun f21 H locs h hP hD hS => ?_)
      have hP : va_P D vwCl ([(h0, .inr (2, [.int (255 : Int32), .ref q1, .int 0, .ref q8, .ref q10, .ref q12, .int 0, .ref q14, .ref q16, .ref q19, .int 0, .null])), (q1, .inl (cI, 8, .inl f4)), (q8, .inl (cI, 18, .inl (fun _ => 0))), (q10, .inl (cI, 18, .inl (fun _ => 0))), (q12, .inl (cI, 6, .inl (fun _ => 0))), (q14, .inl (cI, 48, .inl (fun _ => 0))), (q16, .inl (cI, 4, .inl f18)), (q19, .inl (cI, 4, .inl f21))]) H := vP_set1 (k := 7) (ws := [(h0, .inr (2, [.int (255 : Int32), .ref q1, .int 0, .ref q8, .ref q10, .ref q12, .int 0, .ref q14, .ref q16, .ref q19, .int 0, .null])), (q1, .inl (cI, 8, .inl f4)), (q8, .inl (cI, 18, .inl (fun _ => 0))), (q10, .inl (cI, 18, .inl (fun _ => 0))), (q12, .inl (cI, 6, .inl (fun _ => 0))), (q14, .inl (cI, 48, .inl (fun _ => 0))), (q16, .inl (cI, 4, .inl f18)), (q19, .inl (cI, 4, .inl (fun _ => 0)))]) rfl hP
      have hD : va_D A ([(h0, .inr (2, [.int (255 : Int32), .ref q1, .int 0, .ref q8, .ref q10, .ref q12, .int 0, .ref q14, .ref q16, .ref q19, .int 0, .null])), (q1, .inl (cI, 8, .inl f4)), (q8, .inl (cI, 18, .inl (fun _ => 0))), (q10, .inl (cI, 18, .inl (fun _ => 0))), (q12, .inl (cI, 6, .inl (fun _ => 0))), (q14, .inl (cI, 48, .inl (fun _ => 0))), (q16, .inl (cI, 4, .inl f18)), (q19, .inl (cI, 4, .inl f21))]) := vD_set1 (k := 7) (ws := [(h0, .inr (2, [.int (255 : Int32), .ref q1, .int 0, .ref q8, .ref q10, .ref q12, .int 0, .ref q14, .ref q16, .ref q19, .int 0, .null])), (q1, .inl (cI, 8, .inl f4)), (q8, .inl (cI, 18, .inl (fun _ => 0))), (q10, .inl (cI, 18, .inl (fun _ => 0))), (q12, .inl (cI, 6, .inl (fun _ => 0))), (q14, .inl (cI, 48, .inl (fun _ => 0))), (q16, .inl (cI, 4, .inl f18)), (q19, .inl (cI, 4, .inl (fun _ => 0)))]) rfl hD
      refine lv_aload_n hx hb dX2_init_111 rfl (lv_at hl 0 rfl) ?_
      refine lv_iconst (v := (-1 : Int32)) hx hb dX2_init_112 (by decide) ?_
      refine va_put (D := D) (ci := 2) (v := .int (-1 : Int32)) (ty := .int) (C := RX2) (T := TX2) (N := 12) hx hb hts inT2 tyX2 tyX2_ok nmX2 hown hK.k hP hD hS 0 rfl rfl 10 (by decide) (hts _ q_124) (fun _ h9 => h9) rfl (by decide +kernel) rfl rfl (Nat.le_of_ble_eq_true rfl) dX2_init_113 (fun H locs hP hD hS => ?_)
      have hP : va_P D vwCl ([(h0, .inr (2, [.int (255 : Int32), .ref q1, .int 0, .ref q8, .ref q10, .ref q12, .int 0, .ref q14, .ref q16, .ref q19, .int (-1 : Int32), .null])), (q1, .inl (cI, 8, .inl f4)), (q8, .inl (cI, 18, .inl (fun _ => 0))), (q10, .inl (cI, 18, .inl (fun _ => 0))), (q12, .inl (cI, 6, .inl (fun _ => 0))), (q14, .inl (cI, 48, .inl (fun _ => 0))), (q16, .inl (cI, 4, .inl f18)), (q19, .inl (cI, 4, .inl f21))]) H := hP
      have hD : va_D A ([(h0, .inr (2, [.int (255 : Int32), .ref q1, .int 0, .ref q8, .ref q10, .ref q12, .int 0, .ref q14, .ref q16, .ref q19, .int (-1 : Int32), .null])), (q1, .inl (cI, 8, .inl f4)), (q8, .inl (cI, 18, .inl (fun _ => 0))), (q10, .inl (cI, 18, .inl (fun _ => 0))), (q12, .inl (cI, 6, .inl (fun _ => 0))), (q14, .inl (cI, 48, .inl (fun _ => 0))), (q16, .inl (cI, 4, .inl f18)), (q19, .inl (cI, 4, .inl f21))]) := hD
      refine lv_aload_n hx hb dX2_init_116 rfl (lv_at hl 0 rfl) ?_
      refine lv_iconst (v := (5 : Int32)) hx hb dX2_init_117 (by decide) ?_
      refine va_newa (atype := .int) (ty := .int) (a0 := (5, .inl (fun _ => 0))) (N' := 5) hx hb (hts _ q_153) rfl hK.k hP hD hS hA (fun cA => rfl) (by decide) rfl (by decide) (Nat.le_of_ble_eq_true rfl) (Nat.le_of_ble_eq_true rfl) dX2_init_118 (fun q22 ck23 H k23 hP hD hS => ?_)
      rw [arrI_eq k23] at hP hD
      have hP : va_P D vwCl ([(h0, .inr (2, [.int (255 : Int32), .ref q1, .int 0, .ref q8, .ref q10, .ref q12, .int 0, .ref q14, .ref q16, .ref q19, .int (-1 : Int32), .null])), (q1, .inl (cI, 8, .inl f4)), (q8, .inl (cI, 18, .inl (fun _ => 0))), (q10, .inl (cI, 18, .inl (fun _ => 0))), (q12, .inl (cI, 6, .inl (fun _ => 0))), (q14, .inl (cI, 48, .inl (fun _ => 0))), (q16, .inl (cI, 4, .inl f18)), (q19, .inl (cI, 4, .inl f21)), (q22, .inl (cI, 5, .inl (fun _ => 0)))]) H := hP
      have hD : va_D A ([(h0, .inr (2, [.int (255 : Int32), .ref q1, .int 0, .ref q8, .ref q10, .ref q12, .int 0, .ref q14, .ref q16, .ref q19, .int (-1 : Int32), .null])), (q1, .inl (cI, 8, .inl f4)), (q8, .inl (cI, 18, .inl (fun _ => 0))), (q10, .inl (cI, 18, .inl (fun _ => 0))), (q12, .inl (cI, 6, .inl (fun _ => 0))), (q14, .inl (cI, 48, .inl (fun _ => 0))), (q16, .inl (cI, 4, .inl f18)), (q19, .inl (cI, 4, .inl f21)), (q22, .inl (cI, 5, .inl (fun _ => 0)))]) := hD
      refine va_putF (D := D) (ci := 2) (v := .ref q22) (ty := (.array .int)) (C := RX2) (T := TX2) (N := 12) hx hb hts inT2 tyX2 tyX2_ok nmX2 hown hK.k hP hD hS 0 rfl rfl 11 (by decide) (hts _ q_126) (fun _ h9 => h9) rfl (hin rfl) rfl (by decide +kernel) rfl rfl (Nat.le_of_ble_eq_true rfl) dX2_init_120 (fun H locs hP hD hS => ?_)
      have hP : va_P D vwCl ([(h0, .inr (2, [.int (255 : Int32), .ref q1, .int 0, .ref q8, .ref q10, .ref q12, .int 0, .ref q14, .ref q16, .ref q19, .int (-1 : Int32), .ref q22])), (q1, .inl (cI, 8, .inl f4)), (q8, .inl (cI, 18, .inl (fun _ => 0))), (q10, .inl (cI, 18, .inl (fun _ => 0))), (q12, .inl (cI, 6, .inl (fun _ => 0))), (q14, .inl (cI, 48, .inl (fun _ => 0))), (q16, .inl (cI, 4, .inl f18)), (q19, .inl (cI, 4, .inl f21)), (q22, .inl (cI, 5, .inl (fun _ => 0)))]) H := hP
      have hD : va_D A ([(h0, .inr (2, [.int (255 : Int32), .ref q1, .int 0, .ref q8, .ref q10, .ref q12, .int 0, .ref q14, .ref q16, .ref q19, .int (-1 : Int32), .ref q22])), (q1, .inl (cI, 8, .inl f4)), (q8, .inl (cI, 18, .inl (fun _ => 0))), (q10, .inl (cI, 18, .inl (fun _ => 0))), (q12, .inl (cI, 6, .inl (fun _ => 0))), (q14, .inl (cI, 48, .inl (fun _ => 0))), (q16, .inl (cI, 4, .inl f18)), (q19, .inl (cI, 4, .inl f21)), (q22, .inl (cI, 5, .inl (fun _ => 0)))]) := hD
      exact hQ (u := (fun k => ([h0, q1, q8, q10, q12, q14, q16, q19, q22] : List Nat).getD k 0, ((255 : Int32), f4, 0, (fun _ => 0), (fun _ => 0), (fun _ => 0), 0, (fun _ => 0), f18, f21, (-1 : Int32), (fun _ => 0)))) ⟨rfl, h⟩ hP hD hS dX2_init_123
    · replace h := h.2 c7
      refine lv_aload_n hx hb dX2_init_30 rfl (lv_at hl 0 rfl) ?_
      refine va_get (D := D) (ci := 2) (v := .ref q1) (C := RX2) (T := TX2) (N := 12) hx hb hts inT2 hown hK.k hP 0 rfl rfl 1 (by decide) (hts _ q_109) (fun _ h9 => h9) rfl dX2_init_31 ?_
      refine lv_iload_n hx hb dX2_init_34 rfl (lv_at hl 1 rfl) ?_
      refine lv_sipush (v := (1111 : Int32)) hx hb dX2_init_35 (by decide) ?_
      refine lv_iload_n hx hb dX2_init_38 rfl (lv_at hl 1 rfl) ?_
      refine lv_iconst (v := (1 : Int32)) hx hb dX2_init_39 (by decide) ?_
      refine lv_iadd hx hb dX2_init_40 ?_
      refine lv_imul hx hb dX2_init_41 ?_
      refine va_iast hx hb hK.k hP hD hS 1 0 rfl rfl h.1 dX2_init_42 (fun H locs hP hD hS => ?_)
      replace h := h.2
      have hP : va_P D vwCl ([(h0, .inr (2, [.int (255 : Int32), .ref q1, .int 0, .null, .null, .null, .int 0, .null, .null, .null, .int 0, .null])), (q1, .inl (cI, 8, .inl (upd f4 (Int32.toNatClampNeg x3) ((1111 : Int32) * (x3 + (1 : Int32))))))]) H := hP
      have hD : va_D A ([(h0, .inr (2, [.int (255 : Int32), .ref q1, .int 0, .null, .null, .null, .int 0, .null, .null, .null, .int 0, .null])), (q1, .inl (cI, 8, .inl (upd f4 (Int32.toNatClampNeg x3) ((1111 : Int32) * (x3 + (1 : Int32))))))]) := hD
      refine lv_iinc (v := (x3 + 1)) (lv' := [(1, .int (x3 + 1)), (0, .ref h0)]) hx hb dX2_init_43 hl (k := 1) rfl rfl (by decide) rfl (fun ls hl => ?_)
      refine lv_goto (tgt := 21) hx hb dX2_init_46 (by decide) ?_
      exact w6 (x3 + 1) (upd f4 (Int32.toNatClampNeg x3) ((1111 : Int32) * (x3 + (1 : Int32)))) _ _ _ (lv_sub hl [1, 0] rfl) hP hD hS h
  · intro K5 w6 h
    exact w6 (0 : Int32) (fun _ => 0) _ _ _ (lv_sub hl [1, 0] rfl) hP hD hS h

def wp_X4_init (post : Md → Prop) : Prop :=
  (vp_in (2 : Int32) 854) ∧ (LP2 (fun (K7 : Int32 → (Nat → Int32) → Prop) (x5 : Int32) (f6 : (Nat → Int32)) => ((8 : Int32) ≤ x5 → LP2 (fun (K12 : Int32 → (Nat → Int32) → Prop) (x10 : Int32) (f11 : (Nat → Int32)) => ((4 : Int32) ≤ x10 → post (0, f11, 0, (fun _ => 0), 0, 0, 0, 0, 0, 0, 0, 0)) ∧ (¬ (4 : Int32) ≤ x10 → (vp_in ((114 : Int32) + x10) 854) ∧ ((vp_in ((118 : Int32) + x10) 854) ∧ (K12 (x10 + 1) (upd (upd f11 (Int32.toNatClampNeg ((114 : Int32) + x10)) (-1 : Int32)) (Int32.toNatClampNeg ((118 : Int32) + x10)) (-1 : Int32)))))) (0 : Int32) f6) ∧ (¬ (8 : Int32) ≤ x5 → (vp_in ((8 : Int32) + x5) 854) ∧ ((vp_in ((16 : Int32) + x5) 854) ∧ (K7 (x5 + 1) (upd (upd f6 (Int32.toNatClampNeg ((8 : Int32) + x5)) (1 : Int32)) (Int32.toNatClampNeg ((16 : Int32) + x5)) ((1111 : Int32) * (x5 + (1 : Int32)))))))) (0 : Int32) (upd (fun _ => 0) (Int32.toNatClampNeg (2 : Int32)) (-1 : Int32)))
set_option maxHeartbeats 4000000 in
set_option maxRecDepth 100000 in
theorem c_X4_init (l : Launch) (D : va_G) (cI cS cJ : ClassId) (h0 : Nat) (sz : Nat) {post : Md → Prop} (h : wp_X4_init post) : Met l yX4_init (wsA yX4_init cX4_init 2 none) rm_X4_init (va_Pc [.ref h0] (rwP D (tysA cI cS cJ) ([(h0, .inr (4, [.int 0, .null, .int 0, .null, .int 0, .int 0, .int 0, .int 0, .int 0, .int 0, .int 0, .long 0]))]) sz)) (va_Qv (fun q9 : (Nat → Nat) × Md => q9.1 0 = h0 ∧ post q9.2) (fun q9 t => va_P D vwCl (mdW cI q9.1 q9.2) t.heap ∧ va_D (va_A ([(h0, .inr (4, [.int 0, .null, .int 0, .null, .int 0, .int 0, .int 0, .int 0, .int 0, .int 0, .int 0, .long 0]))]) sz) (mdW cI q9.1 q9.2)) (va_A ([(h0, .inr (4, [.int 0, .null, .int 0, .null, .int 0, .int 0, .int 0, .int 0, .int 0, .int 0, .int 0, .long 0]))]) sz)) 2 914 (va_A ([(h0, .inr (4, [.int 0, .null, .int 0, .null, .int 0, .int 0, .int 0, .int 0, .int 0, .int 0, .int 0, .long 0]))]) sz) := by
  refine mkRWv (S := (Nat → Nat) × Md) (wf := fun q9 => mdW cI q9.1 q9.2) (by decide +kernel) (Nat.le_of_ble_eq_true rfl) (fun {p e s m args below meth c Q ls A H0 H locs} hx hb F hts hown hin hK hP hD hS hA hl hQ => ?_)
  have hown : s.vm.findClass RX4 = some m.cls := hown
  have F : CallFix p m c cX4_init 2 s args wsT RX4 := F
  have hl : lv_has ls 2 [(0, .ref h0)] := hl
  unfold wp_X4_init at h
  refine lv_aload_n hx hb dX4_init_0 rfl (lv_at hl 0 rfl) ?_
  refine W.objInit hx hb hown (hts _ q_818) (hts _ q_96) (hts _ q_97) rfl (by rw [F.2.2.1]; exact hl.1) rfl dX4_init_1 (Nat.le_of_ble_eq_true rfl) (Nat.le_of_ble_eq_true rfl) ?_
  refine W.eq (g2 := F0 m 4 ls []) rfl ?_
  refine lv_aload_n hx hb dX4_init_4 rfl (lv_at hl 0 rfl) ?_
  refine lv_sipush (v := (854 : Int32)) hx hb dX4_init_5 (by decide) ?_
  refine va_newa (atype := .int) (ty := .int) (a0 := (854, .inl (fun _ => 0))) (N' := 854) hx hb (hts _ q_153) rfl hK.k hP hD hS hA (fun cA => rfl) (by decide) rfl (by decide) (Nat.le_of_ble_eq_true rfl) (Nat.le_of_ble_eq_true rfl) dX4_init_8 (fun q1 ck2 H k2 hP hD hS => ?_)
  rw [arrI_eq k2] at hP hD
  have hP : va_P D vwCl ([(h0, .inr (4, [.int 0, .null, .int 0, .null, .int 0, .int 0, .int 0, .int 0, .int 0, .int 0, .int 0, .long 0])), (q1, .inl (cI, 854, .inl (fun _ => 0)))]) H := hP
  have hD : va_D A ([(h0, .inr (4, [.int 0, .null, .int 0, .null, .int 0, .int 0, .int 0, .int 0, .int 0, .int 0, .int 0, .long 0])), (q1, .inl (cI, 854, .inl (fun _ => 0)))]) := hD
  refine va_putF (D := D) (ci := 4) (v := .ref q1) (ty := (.array .int)) (C := RX4) (T := TX4) (N := 12) hx hb hts inT4 tyX4 tyX4_ok nmX4 hown hK.k hP hD hS 0 rfl rfl 1 (by decide) (hts _ q_820) (fun _ h9 => h9) rfl (hin rfl) rfl (by decide +kernel) rfl rfl (Nat.le_of_ble_eq_true rfl) dX4_init_10 (fun H locs hP hD hS => ?_)
  have hP : va_P D vwCl ([(h0, .inr (4, [.int 0, .ref q1, .int 0, .null, .int 0, .int 0, .int 0, .int 0, .int 0, .int 0, .int 0, .long 0])), (q1, .inl (cI, 854, .inl (fun _ => 0)))]) H := hP
  have hD : va_D A ([(h0, .inr (4, [.int 0, .ref q1, .int 0, .null, .int 0, .int 0, .int 0, .int 0, .int 0, .int 0, .int 0, .long 0])), (q1, .inl (cI, 854, .inl (fun _ => 0)))]) := hD
  refine lv_aload_n hx hb dX4_init_13 rfl (lv_at hl 0 rfl) ?_
  refine lv_bipush (v := (60 : Int32)) hx hb dX4_init_14 (by decide) ?_
  refine va_newa (atype := .int) (ty := .int) (a0 := (60, .inl (fun _ => 0))) (N' := 60) hx hb (hts _ q_153) rfl hK.k hP hD hS hA (fun cA => rfl) (by decide) rfl (by decide) (Nat.le_of_ble_eq_true rfl) (Nat.le_of_ble_eq_true rfl) dX4_init_16 (fun q3 ck4 H k4 hP hD hS => ?_)
  rw [arrI_eq k4] at hP hD
  have hP : va_P D vwCl ([(h0, .inr (4, [.int 0, .ref q1, .int 0, .null, .int 0, .int 0, .int 0, .int 0, .int 0, .int 0, .int 0, .long 0])), (q1, .inl (cI, 854, .inl (fun _ => 0))), (q3, .inl (cI, 60, .inl (fun _ => 0)))]) H := hP
  have hD : va_D A ([(h0, .inr (4, [.int 0, .ref q1, .int 0, .null, .int 0, .int 0, .int 0, .int 0, .int 0, .int 0, .int 0, .long 0])), (q1, .inl (cI, 854, .inl (fun _ => 0))), (q3, .inl (cI, 60, .inl (fun _ => 0)))]) := hD
  refine va_putF (D := D) (ci := 4) (v := .ref q3) (ty := (.array .int)) (C := RX4) (T := TX4) (N := 12) hx hb hts inT4 tyX4 tyX4_ok nmX4 hown hK.k hP hD hS 0 rfl rfl 3 (by decide) (hts _ q_822) (fun _ h9 => h9) rfl (hin rfl) rfl (by decide +kernel) rfl rfl (Nat.le_of_ble_eq_true rfl) dX4_init_18 (fun H locs hP hD hS => ?_)
  have hP : va_P D vwCl ([(h0, .inr (4, [.int 0, .ref q1, .int 0, .ref q3, .int 0, .int 0, .int 0, .int 0, .int 0, .int 0, .int 0, .long 0])), (q1, .inl (cI, 854, .inl (fun _ => 0))), (q3, .inl (cI, 60, .inl (fun _ => 0)))]) H := hP
  have hD : va_D A ([(h0, .inr (4, [.int 0, .ref q1, .int 0, .ref q3, .int 0, .int 0, .int 0, .int 0, .int 0, .int 0, .int 0, .long 0])), (q1, .inl (cI, 854, .inl (fun _ => 0))), (q3, .inl (cI, 60, .inl (fun _ => 0)))]) := hD
  refine lv_aload_n hx hb dX4_init_21 rfl (lv_at hl 0 rfl) ?_
  refine va_get (D := D) (ci := 4) (v := .ref q1) (C := RX4) (T := TX4) (N := 12) hx hb hts inT4 hown hK.k hP 0 rfl rfl 1 (by decide) (hts _ q_820) (fun _ h9 => h9) rfl dX4_init_22 ?_
  refine lv_iconst (v := (2 : Int32)) hx hb dX4_init_25 (by decide) ?_
  refine lv_iconst (v := (-1 : Int32)) hx hb dX4_init_26 (by decide) ?_
  refine va_iast hx hb hK.k hP hD hS 1 0 rfl rfl h.1 dX4_init_27 (fun H locs hP hD hS => ?_)
  replace h := h.2
  have hP : va_P D vwCl ([(h0, .inr (4, [.int 0, .ref q1, .int 0, .ref q3, .int 0, .int 0, .int 0, .int 0, .int 0, .int 0, .int 0, .long 0])), (q1, .inl (cI, 854, .inl (upd (fun _ => 0) (Int32.toNatClampNeg (2 : Int32)) (-1 : Int32)))), (q3, .inl (cI, 60, .inl (fun _ => 0)))]) H := hP
  have hD : va_D A ([(h0, .inr (4, [.int 0, .ref q1, .int 0, .ref q3, .int 0, .int 0, .int 0, .int 0, .int 0, .int 0, .int 0, .long 0])), (q1, .inl (cI, 854, .inl (upd (fun _ => 0) (Int32.toNatClampNeg (2 : Int32)) (-1 : Int32)))), (q3, .inl (cI, 60, .inl (fun _ => 0)))]) := hD
  refine lv_iconst (v := (0 : Int32)) hx hb dX4_init_28 (by decide) ?_
  refine lv_istore_n (lv' := [(1, .int (0 : Int32)), (0, .ref h0)]) hx hb dX4_init_29 rfl hl (by decide) rfl (fun ls hl => ?_)
  refine lpu2 h (fun K7 : Int32 → (Nat → Int32) → Prop => ∀ (x5 : Int32) (f6 : (Nat → Int32)) (ls : Array Slot) (H : Heap) (locs : List Loc), lv_has ls 2 [(0, .ref h0), (1, .int x5)] → va_P D vwCl ([(h0, .inr (4, [.int 0, .ref q1, .int 0, .ref q3, .int 0, .int 0, .int 0, .int 0, .int 0, .int 0, .int 0, .long 0])), (q1, .inl (cI, 854, .inl f6)), (q3, .inl (cI, 60, .inl (fun _ => 0)))]) H → va_D A ([(h0, .inr (4, [.int 0, .ref q1, .int 0, .ref q3, .int 0, .int 0, .int 0, .int 0, .int 0, .int 0, .int 0, .long 0])), (q1, .inl (cI, 854, .inl f6)), (q3, .inl (cI, 60, .inl (fun _ => 0)))]) → va_S A H0 H locs → K7 x5 f6 → W p l e rm_X4_init s m args below meth c H locs ((0 + 1) + 1) ((0 + 854) + 60) Q (F0 m 30 ls [])) ?_ ?_ ?_
  · intro x5 f6 ls H locs hl hP hD hS h
    exact h.elim
  · intro K7
    intro w8 x5 f6 ls H locs hl hP hD hS h
    refine lv_iload_n hx hb dX4_init_30 rfl (lv_at hl 1 rfl) ?_
    refine lv_bipush (v := (8 : Int32)) hx hb dX4_init_31 (by decide) ?_
    refine lv_icmp_ge (tgt := 68) hx hb dX4_init_33 (by decide) (fun c9 => ?_) (fun c9 => ?_)
    · replace h := h.1 c9
      refine lv_iconst (v := (0 : Int32)) hx hb dX4_init_68 (by decide) ?_
      refine lv_istore_n (lv' := [(1, .int (0 : Int32)), (0, .ref h0)]) hx hb dX4_init_69 rfl hl (by decide) rfl (fun ls hl => ?_)
      refine lpu2 h (fun K12 : Int32 → (Nat → Int32) → Prop => ∀ (x10 : Int32) (f11 : (Nat → Int32)) (ls : Array Slot) (H : Heap) (locs : List Loc), lv_has ls 2 [(0, .ref h0), (1, .int x10)] → va_P D vwCl ([(h0, .inr (4, [.int 0, .ref q1, .int 0, .ref q3, .int 0, .int 0, .int 0, .int 0, .int 0, .int 0, .int 0, .long 0])), (q1, .inl (cI, 854, .inl f11)), (q3, .inl (cI, 60, .inl (fun _ => 0)))]) H → va_D A ([(h0, .inr (4, [.int 0, .ref q1, .int 0, .ref q3, .int 0, .int 0, .int 0, .int 0, .int 0, .int 0, .int 0, .long 0])), (q1, .inl (cI, 854, .inl f11)), (q3, .inl (cI, 60, .inl (fun _ => 0)))]) → va_S A H0 H locs → K12 x10 f11 → W p l e rm_X4_init s m args below meth c H locs ((0 + 1) + 1) ((0 + 854) + 60) Q (F0 m 70 ls [])) ?_ ?_ ?_
      · intro x10 f11 ls H locs hl hP hD hS h
        exact h.elim
      · intro K12
        intro w13 x10 f11 ls H locs hl hP hD hS h
        refine lv_iload_n hx hb dX4_init_70 rfl (lv_at hl 1 rfl) ?_
        refine lv_iconst (v := (4 : Int32)) hx hb dX4_init_71 (by decide) ?_
        refine lv_icmp_ge (tgt := 101) hx hb dX4_init_72 (by decide) (fun c14 => ?_) (fun c14 => ?_)
        · replace h := h.1 c14
          exact hQ (u := (fun k => ([h0, q1, q3] : List Nat).getD k 0, (0, f11, 0, (fun _ => 0), 0, 0, 0, 0, 0, 0, 0, 0))) ⟨rfl, h⟩ hP hD hS dX4_init_101
        · replace h := h.2 c14
          refine lv_aload_n hx hb dX4_init_75 rfl (lv_at hl 0 rfl) ?_
          refine va_get (D := D) (ci := 4) (v := .ref q1) (C := RX4) (T := TX4) (N := 12) hx hb hts inT4 hown hK.k hP 0 rfl rfl 1 (by decide) (hts _ q_820) (fun _ h9 => h9) rfl dX4_init_76 ?_
          refine lv_bipush (v := (114 : Int32)) hx hb dX4_init_79 (by decide) ?_
          refine lv_iload_n hx hb dX4_init_81 rfl (lv_at hl 1 rfl) ?_
          refine lv_iadd hx hb dX4_init_82 ?_
          refine lv_iconst (v := (-1 : Int32)) hx hb dX4_init_83 (by decide) ?_
          refine va_iast hx hb hK.k hP hD hS 1 0 rfl rfl h.1 dX4_init_84 (fun H locs hP hD hS => ?_)
          replace h := h.2
          have hP : va_P D vwCl ([(h0, .inr (4, [.int 0, .ref q1, .int 0, .ref q3, .int 0, .int 0, .int 0, .int 0, .int 0, .int 0, .int 0, .long 0])), (q1, .inl (cI, 854, .inl (upd f11 (Int32.toNatClampNeg ((114 : Int32) + x10)) (-1 : Int32)))), (q3, .inl (cI, 60, .inl (fun _ => 0)))]) H := hP
          have hD : va_D A ([(h0, .inr (4, [.int 0, .ref q1, .int 0, .ref q3, .int 0, .int 0, .int 0, .int 0, .int 0, .int 0, .int 0, .long 0])), (q1, .inl (cI, 854, .inl (upd f11 (Int32.toNatClampNeg ((114 : Int32) + x10)) (-1 : Int32)))), (q3, .inl (cI, 60, .inl (fun _ => 0)))]) := hD
          refine lv_aload_n hx hb dX4_init_85 rfl (lv_at hl 0 rfl) ?_
          refine va_get (D := D) (ci := 4) (v := .ref q1) (C := RX4) (T := TX4) (N := 12) hx hb hts inT4 hown hK.k hP 0 rfl rfl 1 (by decide) (hts _ q_820) (fun _ h9 => h9) rfl dX4_init_86 ?_
          refine lv_bipush (v := (118 : Int32)) hx hb dX4_init_89 (by decide) ?_
          refine lv_iload_n hx hb dX4_init_91 rfl (lv_at hl 1 rfl) ?_
          refine lv_iadd hx hb dX4_init_92 ?_
          refine lv_iconst (v := (-1 : Int32)) hx hb dX4_init_93 (by decide) ?_
          refine va_iast hx hb hK.k hP hD hS 1 0 rfl rfl h.1 dX4_init_94 (fun H locs hP hD hS => ?_)
          replace h := h.2
          have hP : va_P D vwCl ([(h0, .inr (4, [.int 0, .ref q1, .int 0, .ref q3, .int 0, .int 0, .int 0, .int 0, .int 0, .int 0, .int 0, .long 0])), (q1, .inl (cI, 854, .inl (upd (upd f11 (Int32.toNatClampNeg ((114 : Int32) + x10)) (-1 : Int32)) (Int32.toNatClampNeg ((118 : Int32) + x10)) (-1 : Int32)))), (q3, .inl (cI, 60, .inl (fun _ => 0)))]) H := hP
          have hD : va_D A ([(h0, .inr (4, [.int 0, .ref q1, .int 0, .ref q3, .int 0, .int 0, .int 0, .int 0, .int 0, .int 0, .int 0, .long 0])), (q1, .inl (cI, 854, .inl (upd (upd f11 (Int32.toNatClampNeg ((114 : Int32) + x10)) (-1 : Int32)) (Int32.toNatClampNeg ((118 : Int32) + x10)) (-1 : Int32)))), (q3, .inl (cI, 60, .inl (fun _ => 0)))]) := hD
          refine lv_iinc (v := (x10 + 1)) (lv' := [(1, .int (x10 + 1)), (0, .ref h0)]) hx hb dX4_init_95 hl (k := 1) rfl rfl (by decide) rfl (fun ls hl => ?_)
          refine lv_goto (tgt := 70) hx hb dX4_init_98 (by decide) ?_
          exact w13 (x10 + 1) (upd (upd f11 (Int32.toNatClampNeg ((114 : Int32) + x10)) (-1 : Int32)) (Int32.toNatClampNeg ((118 : Int32) + x10)) (-1 : Int32)) _ _ _ (lv_sub hl [1, 0] rfl) hP hD hS h
      · intro K12 w13 h
        exact w13 (0 : Int32) f6 _ _ _ (lv_sub hl [1, 0] rfl) hP hD hS h
    · replace h := h.2 c9
      refine lv_aload_n hx hb dX4_init_36 rfl (lv_at hl 0 rfl) ?_
      refine va_get (D := D) (ci := 4) (v := .ref q1) (C := RX4) (T := TX4) (N := 12) hx hb hts inT4 hown hK.k hP 0 rfl rfl 1 (by decide) (hts _ q_820) (fun _ h9 => h9) rfl dX4_init_37 ?_
      refine lv_bipush (v := (8 : Int32)) hx hb dX4_init_40 (by decide) ?_
      refine lv_iload_n hx hb dX4_init_42 rfl (lv_at hl 1 rfl) ?_
      refine lv_iadd hx hb dX4_init_43 ?_
      refine lv_iconst (v := (1 : Int32)) hx hb dX4_init_44 (by decide) ?_
      refine va_iast hx hb hK.k hP hD hS 1 0 rfl rfl h.1 dX4_init_45 (fun H locs hP hD hS => ?_)
      replace h := h.2
      have hP : va_P D vwCl ([(h0, .inr (4, [.int 0, .ref q1, .int 0, .ref q3, .int 0, .int 0, .int 0, .int 0, .int 0, .int 0, .int 0, .long 0])), (q1, .inl (cI, 854, .inl (upd f6 (Int32.toNatClampNeg ((8 : Int32) + x5)) (1 : Int32)))), (q3, .inl (cI, 60, .inl (fun _ => 0)))]) H := hP
      have hD : va_D A ([(h0, .inr (4, [.int 0, .ref q1, .int 0, .ref q3, .int 0, .int 0, .int 0, .int 0, .int 0, .int 0, .int 0, .long 0])), (q1, .inl (cI, 854, .inl (upd f6 (Int32.toNatClampNeg ((8 : Int32) + x5)) (1 : Int32)))), (q3, .inl (cI, 60, .inl (fun _ => 0)))]) := hD
      refine lv_aload_n hx hb dX4_init_46 rfl (lv_at hl 0 rfl) ?_
      refine va_get (D := D) (ci := 4) (v := .ref q1) (C := RX4) (T := TX4) (N := 12) hx hb hts inT4 hown hK.k hP 0 rfl rfl 1 (by decide) (hts _ q_820) (fun _ h9 => h9) rfl dX4_init_47 ?_
      refine lv_bipush (v := (16 : Int32)) hx hb dX4_init_50 (by decide) ?_
      refine lv_iload_n hx hb dX4_init_52 rfl (lv_at hl 1 rfl) ?_
      refine lv_iadd hx hb dX4_init_53 ?_
      refine lv_sipush (v := (1111 : Int32)) hx hb dX4_init_54 (by decide) ?_
      refine lv_iload_n hx hb dX4_init_57 rfl (lv_at hl 1 rfl) ?_
      refine lv_iconst (v := (1 : Int32)) hx hb dX4_init_58 (by decide) ?_
      refine lv_iadd hx hb dX4_init_59 ?_
      refine lv_imul hx hb dX4_init_60 ?_
      refine va_iast hx hb hK.k hP hD hS 1 0 rfl rfl h.1 dX4_init_61 (fun H locs hP hD hS => ?_)
      replace h := h.2
      have hP : va_P D vwCl ([(h0, .inr (4, [.int 0, .ref q1, .int 0, .ref q3, .int 0, .int 0, .int 0, .int 0, .int 0, .int 0, .int 0, .long 0])), (q1, .inl (cI, 854, .inl (upd (upd f6 (Int32.toNatClampNeg ((8 : Int32) + x5)) (1 : Int32)) (Int32.toNatClampNeg ((16 : Int32) + x5)) ((1111 : Int32) * (x5 + (1 : Int32)))))), (q3, .inl (cI, 60, .inl (fun _ => 0)))]) H := hP
      have hD : va_D A ([(h0, .inr (4, [.int 0, .ref q1, .int 0, .ref q3, .int 0, .int 0, .int 0, .int 0, .int 0, .int 0, .int 0, .long 0])), (q1, .inl (cI, 854, .inl (upd (upd f6 (Int32.toNatClampNeg ((8 : Int32) + x5)) (1 : Int32)) (Int32.toNatClampNeg ((16 : Int32) + x5)) ((1111 : Int32) * (x5 + (1 : Int32)))))), (q3, .inl (cI, 60, .inl (fun _ => 0)))]) := hD
      refine lv_iinc (v := (x5 + 1)) (lv' := [(1, .int (x5 + 1)), (0, .ref h0)]) hx hb dX4_init_62 hl (k := 1) rfl rfl (by decide) rfl (fun ls hl => ?_)
      refine lv_goto (tgt := 30) hx hb dX4_init_65 (by decide) ?_
      exact w8 (x5 + 1) (upd (upd f6 (Int32.toNatClampNeg ((8 : Int32) + x5)) (1 : Int32)) (Int32.toNatClampNeg ((16 : Int32) + x5)) ((1111 : Int32) * (x5 + (1 : Int32)))) _ _ _ (lv_sub hl [1, 0] rfl) hP hD hS h
  · intro K7 w8 h
    exact w8 (0 : Int32) (upd (fun _ => 0) (Int32.toNatClampNeg (2 : Int32)) (-1 : Int32)) _ _ _ (lv_sub hl [1, 0] rfl) hP hD hS h

def wp_X4_digest (u : Md)  (post : Int64 → Md → Prop) : Prop :=
  (vp_in (0 : Int32) 854) ∧ (wp_X4_mix (sM_hash (sM_thrown u (0 : Int32)) (4726 : Int64)) (Int32.toInt64 ((M_s (sM_hash (sM_thrown u (0 : Int32)) (4726 : Int64))) (Int32.toNatClampNeg (0 : Int32)))) (fun u2 => (vp_in (1 : Int32) 854) ∧ (wp_X4_mix u2 (Int32.toInt64 ((M_s u2) (Int32.toNatClampNeg (1 : Int32)))) (fun u4 => (vp_in (2 : Int32) 854) ∧ (wp_X4_mix u4 (Int32.toInt64 ((M_s u4) (Int32.toNatClampNeg (2 : Int32)))) (fun u6 => LP2 (fun (K9 : Int32 → Md → Prop) (x7 : Int32) (u8 : Md) => ((5 : Int32) ≤ x7 → LP2 (fun (K14 : Int32 → Md → Prop) (x12 : Int32) (u13 : Md) => ((8 : Int32) ≤ x12 → LP2 (fun (K19 : Int32 → Md → Prop) (x17 : Int32) (u18 : Md) => (vp_in (0 : Int32) 854) ∧ ((((M_s u18) (Int32.toNatClampNeg (0 : Int32))) ≤ x17 → LP2 (fun (K24 : Int32 → Md → Prop) (x22 : Int32) (u23 : Md) => (vp_in (1 : Int32) 854) ∧ ((((M_s u23) (Int32.toNatClampNeg (1 : Int32))) ≤ x22 → LP2 (fun (K29 : Int32 → Md → Prop) (x27 : Int32) (u28 : Md) => ((4 : Int32) ≤ x27 → LP2 (fun (K34 : Int32 → Md → Prop) (x32 : Int32) (u33 : Md) => ((4 : Int32) ≤ x32 → post (M_hash u33) u33) ∧ (¬ (4 : Int32) ≤ x32 → wp_X4_least u33 x32 (fun r37 => wp_X4_mix u33 (Int32.toInt64 r37) (fun u39 => K34 (x32 + 1) u39)))) (1 : Int32) u28) ∧ (¬ (4 : Int32) ≤ x27 → (vp_in ((114 : Int32) + x27) 854) ∧ (wp_X4_mix u28 (Int32.toInt64 ((M_s u28) (Int32.toNatClampNeg ((114 : Int32) + x27)))) (fun u41 => K29 (x27 + 1) u41)))) (0 : Int32) u23) ∧ (¬ ((M_s u23) (Int32.toNatClampNeg (1 : Int32))) ≤ x22 → LP2 (fun (K44 : Int32 → Md → Prop) (x42 : Int32) (u43 : Md) => ((4 : Int32) ≤ x42 → wp_X4_arrivesIn u43 x22 (-1 : Int32) (fun r47 => wp_X4_mix u43 (Int32.toInt64 r47) (fun u49 => K24 (x22 + 1) u49))) ∧ (¬ (4 : Int32) ≤ x42 → wp_X4_of u43 x22 x42 (fun r50 => wp_X4_mix u43 (Int32.toInt64 r50) (fun u52 => K44 (x42 + 1) u52)))) (0 : Int32) u23))) (0 : Int32) u18) ∧ (¬ ((M_s u18) (Int32.toNatClampNeg (0 : Int32))) ≤ x17 → LP2 (fun (K55 : Int32 → Md → Prop) (x53 : Int32) (u54 : Md) => ((4 : Int32) ≤ x53 → wp_X4_hallOf u54 x17 (fun r58 => wp_X4_mix u54 (Int32.toInt64 r58) (fun u60 => wp_X4_standsNow u60 x17 (fun r61 => jn (fun (x63 : Int64) => wp_X4_mix u60 x63 (fun u68 => K19 (x17 + 1) u68)) (fun (J64 : Int64 → Prop) => (r61 = 0 → J64 (0 : Int64)) ∧ (¬ r61 = 0 → J64 (1 : Int64))))))) ∧ (¬ (4 : Int32) ≤ x53 → wp_X4_innOf u54 x17 x53 (fun r70 => wp_X4_mix u54 (Int32.toInt64 r70) (fun u72 => K55 (x53 + 1) u72)))) (1 : Int32) u18))) (0 : Int32) u13) ∧ (¬ (8 : Int32) ≤ x12 → (vp_in ((8 : Int32) + x12) 854) ∧ (wp_X4_mix u13 (Int32.toInt64 ((M_s u13) (Int32.toNatClampNeg ((8 : Int32) + x12)))) (fun u74 => (vp_in ((16 : Int32) + x12) 854) ∧ (wp_X4_mix u74 (Int32.toInt64 ((M_s u74) (Int32.toNatClampNeg ((16 : Int32) + x12)))) (fun u76 => wp_X4_knownTo u76 x12 (fun r77 => wp_X4_mix u76 (Int32.toInt64 r77) (fun u79 => wp_X4_lostBy u79 x12 (fun r80 => wp_X4_mix u79 (Int32.toInt64 r80) (fun u82 => K14 (x12 + 1) u82)))))))))) (0 : Int32) u8) ∧ (¬ (5 : Int32) ≤ x7 → (vp_in ((3 : Int32) + x7) 854) ∧ (wp_X4_mix u8 (Int32.toInt64 ((M_s u8) (Int32.toNatClampNeg ((3 : Int32) + x7)))) (fun u84 => K9 (x7 + 1) u84)))) (0 : Int32) u6))))))
set_option maxHeartbeats 4000000 in
set_option maxRecDepth 100000 in
theorem c_X4_digest (l : Launch) (D : va_G) (cI cS cJ : ClassId) (a : Nat → Nat) (u : Md) (sz : Nat)  {post : Int64 → Md → Prop} (h : wp_X4_digest u post) : Met l yX4_digest (wsA yX4_digest cX4_digest 3 (some .long)) rm_X4_digest (va_Pc [.ref (a 0)] (rwP D (tysA cI cS cJ) (mdW cI a u) sz)) (va_Ql post (fun u9 t => va_P D vwCl ((mdW cI a) u9) t.heap ∧ va_D (va_A (mdW cI a u) sz) ((mdW cI a) u9)) (va_A (mdW cI a u) sz)) 0 0 (va_A (mdW cI a u) sz) := by
  refine mkRWl (wf := (mdW cI a)) (by decide +kernel) (Nat.le_of_ble_eq_true rfl) (fun {p e s m args below meth c Q ls A H0 H locs} hx hb F hts hown hK hP hD hS hA hl hQ => ?_)
  have hown : s.vm.findClass RX4 = some m.cls := hown
  have F : CallFix p m c cX4_digest 3 s args wsT RX4 := F
  have hl : lv_has ls 3 [(0, .ref (a 0))] := hl
  unfold wp_X4_digest at h
  refine lv_aload_n hx hb dX4_digest_0 rfl (lv_at hl 0 rfl) ?_
  refine lv_iconst (v := (0 : Int32)) hx hb dX4_digest_1 (by decide) ?_
  refine va_put (D := D) (ci := 4) (v := .int (0 : Int32)) (ty := .int) (C := RX4) (T := TX4) (N := 12) hx hb hts inT4 tyX4 tyX4_ok nmX4 hown hK.k hP hD hS 0 rfl rfl 0 (by decide) (hts _ q_819) (fun _ h9 => h9) rfl (by decide +kernel) rfl rfl (Nat.le_of_ble_eq_true rfl) dX4_digest_2 (fun H locs hP hD hS => ?_)
  have hP : va_P D vwCl (mdW cI a (sM_thrown u (0 : Int32))) H := hP
  have hD : va_D A (mdW cI a (sM_thrown u (0 : Int32))) := hD
  refine lv_aload_n hx hb dX4_digest_5 rfl (lv_at hl 0 rfl) ?_
  refine lv_ldc2 (v := (4726 : Int64)) hx hb hown (hts _ q_1182) dX4_digest_6 ?_
  refine va_put (D := D) (ci := 4) (v := .long (4726 : Int64)) (ty := .long) (C := RX4) (T := TX4) (N := 12) hx hb hts inT4 tyX4 tyX4_ok nmX4 hown hK.k hP hD hS 0 rfl rfl 11 (by decide) (hts _ q_830) (fun _ h9 => h9) rfl (by decide +kernel) rfl rfl (Nat.le_of_ble_eq_true rfl) dX4_digest_9 (fun H locs hP hD hS => ?_)
  have hP : va_P D vwCl (mdW cI a (sM_hash (sM_thrown u (0 : Int32)) (4726 : Int64))) H := hP
  have hD : va_D A (mdW cI a (sM_hash (sM_thrown u (0 : Int32)) (4726 : Int64))) := hD
  refine lv_aload_n hx hb dX4_digest_12 rfl (lv_at hl 0 rfl) ?_
  refine lv_aload_n hx hb dX4_digest_13 rfl (lv_at hl 0 rfl) ?_
  refine va_get (D := D) (ci := 4) (v := .ref (a 1)) (C := RX4) (T := TX4) (N := 12) hx hb hts inT4 hown hK.k hP 0 rfl rfl 1 (by decide) (hts _ q_820) (fun _ h9 => h9) rfl dX4_digest_14 ?_
  refine lv_iconst (v := (0 : Int32)) hx hb dX4_digest_17 (by decide) ?_
  refine va_iald hx hb hK.k hP 1 0 rfl rfl h.1 dX4_digest_18 ?_
  replace h := h.2
  refine lv_i2l (v := (Int32.toInt64 ((M_s (sM_hash (sM_thrown u (0 : Int32)) (4726 : Int64))) (Int32.toNatClampNeg (0 : Int32))))) hx hb dX4_digest_19 rfl ?_
  refine rwVv0 (As := [.long (Int32.toInt64 ((M_s (sM_hash (sM_thrown u (0 : Int32)) (4726 : Int64))) (Int32.toNatClampNeg (0 : Int32))))]) (rest := []) F (c_X4_mix l D cI cS cJ a (sM_hash (sM_thrown u (0 : Int32)) (4726 : Int64)) H.size (Int32.toInt64 ((M_s (sM_hash (sM_thrown u (0 : Int32)) (4726 : Int64))) (Int32.toNatClampNeg (0 : Int32)))) h) (cw_X4_210 hts (Nat.le_of_ble_eq_true rfl) (Nat.le_of_ble_eq_true rfl)) hK hP hD hS hA (recv (ci := 4) (k0 := 0) hK hP rfl rfl) rfl hl.1 rfl (Nat.le_of_ble_eq_true rfl) dX4_digest_20 ⟨Nat.zero_le _, Nat.zero_le _⟩ (fun u2 H locs h hP hD hS => ?_)
  refine lv_aload_n hx hb dX4_digest_23 rfl (lv_at hl 0 rfl) ?_
  refine lv_aload_n hx hb dX4_digest_24 rfl (lv_at hl 0 rfl) ?_
  refine va_get (D := D) (ci := 4) (v := .ref (a 1)) (C := RX4) (T := TX4) (N := 12) hx hb hts inT4 hown hK.k hP 0 rfl rfl 1 (by decide) (hts _ q_820) (fun _ h9 => h9) rfl dX4_digest_25 ?_
  refine lv_iconst (v := (1 : Int32)) hx hb dX4_digest_28 (by decide) ?_
  refine va_iald hx hb hK.k hP 1 0 rfl rfl h.1 dX4_digest_29 ?_
  replace h := h.2
  refine lv_i2l (v := (Int32.toInt64 ((M_s u2) (Int32.toNatClampNeg (1 : Int32))))) hx hb dX4_digest_30 rfl ?_
  refine rwVv0 (As := [.long (Int32.toInt64 ((M_s u2) (Int32.toNatClampNeg (1 : Int32))))]) (rest := []) F (c_X4_mix l D cI cS cJ a u2 H.size (Int32.toInt64 ((M_s u2) (Int32.toNatClampNeg (1 : Int32)))) h) (cw_X4_210 hts (Nat.le_of_ble_eq_true rfl) (Nat.le_of_ble_eq_true rfl)) hK hP hD hS hA (recv (ci := 4) (k0 := 0) hK hP rfl rfl) rfl hl.1 rfl (Nat.le_of_ble_eq_true rfl) dX4_digest_31 ⟨Nat.zero_le _, Nat.zero_le _⟩ (fun u4 H locs h hP hD hS => ?_)
  refine lv_aload_n hx hb dX4_digest_34 rfl (lv_at hl 0 rfl) ?_
  refine lv_aload_n hx hb dX4_digest_35 rfl (lv_at hl 0 rfl) ?_
  refine va_get (D := D) (ci := 4) (v := .ref (a 1)) (C := RX4) (T := TX4) (N := 12) hx hb hts inT4 hown hK.k hP 0 rfl rfl 1 (by decide) (hts _ q_820) (fun _ h9 => h9) rfl dX4_digest_36 ?_
  refine lv_iconst (v := (2 : Int32)) hx hb dX4_digest_39 (by decide) ?_
  refine va_iald hx hb hK.k hP 1 0 rfl rfl h.1 dX4_digest_40 ?_
  replace h := h.2
  refine lv_i2l (v := (Int32.toInt64 ((M_s u4) (Int32.toNatClampNeg (2 : Int32))))) hx hb dX4_digest_41 rfl ?_
  refine rwVv0 (As := [.long (Int32.toInt64 ((M_s u4) (Int32.toNatClampNeg (2 : Int32))))]) (rest := []) F (c_X4_mix l D cI cS cJ a u4 H.size (Int32.toInt64 ((M_s u4) (Int32.toNatClampNeg (2 : Int32)))) h) (cw_X4_210 hts (Nat.le_of_ble_eq_true rfl) (Nat.le_of_ble_eq_true rfl)) hK hP hD hS hA (recv (ci := 4) (k0 := 0) hK hP rfl rfl) rfl hl.1 rfl (Nat.le_of_ble_eq_true rfl) dX4_digest_42 ⟨Nat.zero_le _, Nat.zero_le _⟩ (fun u6 H locs h hP hD hS => ?_)
  refine lv_iconst (v := (0 : Int32)) hx hb dX4_digest_45 (by decide) ?_
  refine lv_istore_n (lv' := [(1, .int (0 : Int32)), (0, .ref (a 0))]) hx hb dX4_digest_46 rfl hl (by decide) rfl (fun ls hl => ?_)
  refine lpu2 h (fun K9 : Int32 → Md → Prop => ∀ (x7 : Int32) (u8 : Md) (ls : Array Slot) (H : Heap) (locs : List Loc), lv_has ls 3 [(0, .ref (a 0)), (1, .int x7)] → va_P D vwCl (mdW cI a u8) H → va_D A (mdW cI a u8) → va_S A H0 H locs → K9 x7 u8 → W p l e rm_X4_digest s m args below meth c H locs 0 0 Q (F0 m 47 ls [])) ?_ ?_ ?_
  · intro x7 u8 ls H locs hl hP hD hS h
    exact h.elim
  · intro K9
    intro w10 x7 u8 ls H locs hl hP hD hS h
    refine lv_iload_n hx hb dX4_digest_47 rfl (lv_at hl 1 rfl) ?_
    refine lv_iconst (v := (5 : Int32)) hx hb dX4_digest_48 (by decide) ?_
    refine lv_icmp_ge (tgt := 71) hx hb dX4_digest_49 (by decide) (fun c11 => ?_) (fun c11 => ?_)
    · replace h := h.1 c11
      refine lv_iconst (v := (0 : Int32)) hx hb dX4_digest_71 (by decide) ?_
      refine lv_istore_n (lv' := [(1, .int (0 : Int32)), (0, .ref (a 0))]) hx hb dX4_digest_72 rfl hl (by decide) rfl (fun ls hl => ?_)
      refine lpu2 h (fun K14 : Int32 → Md → Prop => ∀ (x12 : Int32) (u13 : Md) (ls : Array Slot) (H : Heap) (locs : List Loc), lv_has ls 3 [(0, .ref (a 0)), (1, .int x12)] → va_P D vwCl (mdW cI a u13) H → va_D A (mdW cI a u13) → va_S A H0 H locs → K14 x12 u13 → W p l e rm_X4_digest s m args below meth c H locs 0 0 Q (F0 m 73 ls [])) ?_ ?_ ?_
      · intro x12 u13 ls H locs hl hP hD hS h
        exact h.elim
      · intro K14
        intro w15 x12 u13 ls H locs hl hP hD hS h
        refine lv_iload_n hx hb dX4_digest_73 rfl (lv_at hl 1 rfl) ?_
        refine lv_bipush (v := (8 : Int32)) hx hb dX4_digest_74 (by decide) ?_
        refine lv_icmp_ge (tgt := 133) hx hb dX4_digest_76 (by decide) (fun c16 => ?_) (fun c16 => ?_)
        · replace h := h.1 c16
          refine lv_iconst (v := (0 : Int32)) hx hb dX4_digest_133 (by decide) ?_
          refine lv_istore_n (lv' := [(1, .int (0 : Int32)), (0, .ref (a 0))]) hx hb dX4_digest_134 rfl hl (by decide) rfl (fun ls hl => ?_)
          refine lpu2 h (fun K19 : Int32 → Md → Prop => ∀ (x17 : Int32) (u18 : Md) (ls : Array Slot) (H : Heap) (locs : List Loc), lv_has ls 3 [(0, .ref (a 0)), (1, .int x17)] → va_P D vwCl (mdW cI a u18) H → va_D A (mdW cI a u18) → va_S A H0 H locs → K19 x17 u18 → W p l e rm_X4_digest s m args below meth c H locs 0 0 Q (F0 m 135 ls [])) ?_ ?_ ?_
          · intro x17 u18 ls H locs hl hP hD hS h
            exact h.elim
          · intro K19
            intro w20 x17 u18 ls H locs hl hP hD hS h
            refine lv_iload_n hx hb dX4_digest_135 rfl (lv_at hl 1 rfl) ?_
            refine lv_aload_n hx hb dX4_digest_136 rfl (lv_at hl 0 rfl) ?_
            refine va_get (D := D) (ci := 4) (v := .ref (a 1)) (C := RX4) (T := TX4) (N := 12) hx hb hts inT4 hown hK.k hP 0 rfl rfl 1 (by decide) (hts _ q_820) (fun _ h9 => h9) rfl dX4_digest_137 ?_
            refine lv_iconst (v := (0 : Int32)) hx hb dX4_digest_140 (by decide) ?_
            refine va_iald hx hb hK.k hP 1 0 rfl rfl h.1 dX4_digest_141 ?_
            replace h := h.2
            refine lv_icmp_ge (tgt := 202) hx hb dX4_digest_142 (by decide) (fun c21 => ?_) (fun c21 => ?_)
            · replace h := h.1 c21
              refine lv_iconst (v := (0 : Int32)) hx hb dX4_digest_202 (by decide) ?_
              refine lv_istore_n (lv' := [(1, .int (0 : Int32)), (0, .ref (a 0))]) hx hb dX4_digest_203 rfl hl (by decide) rfl (fun ls hl => ?_)
              refine lpu2 h (fun K24 : Int32 → Md → Prop => ∀ (x22 : Int32) (u23 : Md) (ls : Array Slot) (H : Heap) (locs : List Loc), lv_has ls 3 [(0, .ref (a 0)), (1, .int x22)] → va_P D vwCl (mdW cI a u23) H → va_D A (mdW cI a u23) → va_S A H0 H locs → K24 x22 u23 → W p l e rm_X4_digest s m args below meth c H locs 0 0 Q (F0 m 204 ls [])) ?_ ?_ ?_
              · intro x22 u23 ls H locs hl hP hD hS h
                exact h.elim
              · intro K24
                intro w25 x22 u23 ls H locs hl hP hD hS h
                refine lv_iload_n hx hb dX4_digest_204 rfl (lv_at hl 1 rfl) ?_
                refine lv_aload_n hx hb dX4_digest_205 rfl (lv_at hl 0 rfl) ?_
                refine va_get (D := D) (ci := 4) (v := .ref (a 1)) (C := RX4) (T := TX4) (N := 12) hx hb hts inT4 hown hK.k hP 0 rfl rfl 1 (by decide) (hts _ q_820) (fun _ h9 => h9) rfl dX4_digest_206 ?_
                refine lv_iconst (v := (1 : Int32)) hx hb dX4_digest_209 (by decide) ?_
                refine va_iald hx hb hK.k hP 1 0 rfl rfl h.1 dX4_digest_210 ?_
                replace h := h.2
                refine lv_icmp_ge (tgt := 255) hx hb dX4_digest_211 (by decide) (fun c26 => ?_) (fun c26 => ?_)
                · replace h := h.1 c26
                  refine lv_iconst (v := (0 : Int32)) hx hb dX4_digest_255 (by decide) ?_
                  refine lv_istore_n (lv' := [(1, .int (0 : Int32)), (0, .ref (a 0))]) hx hb dX4_digest_256 rfl hl (by decide) rfl (fun ls hl => ?_)
                  refine lpu2 h (fun K29 : Int32 → Md → Prop => ∀ (x27 : Int32) (u28 : Md) (ls : Array Slot) (H : Heap) (locs : List Loc), lv_has ls 3 [(0, .ref (a 0)), (1, .int x27)] → va_P D vwCl (mdW cI a u28) H → va_D A (mdW cI a u28) → va_S A H0 H locs → K29 x27 u28 → W p l e rm_X4_digest s m args below meth c H locs 0 0 Q (F0 m 257 ls [])) ?_ ?_ ?_
                  · intro x27 u28 ls H locs hl hP hD hS h
                    exact h.elim
                  · intro K29
                    intro w30 x27 u28 ls H locs hl hP hD hS h
                    refine lv_iload_n hx hb dX4_digest_257 rfl (lv_at hl 1 rfl) ?_
                    refine lv_iconst (v := (4 : Int32)) hx hb dX4_digest_258 (by decide) ?_
                    refine lv_icmp_ge (tgt := 282) hx hb dX4_digest_259 (by decide) (fun c31 => ?_) (fun c31 => ?_)
                    · replace h := h.1 c31
                      refine lv_iconst (v := (1 : Int32)) hx hb dX4_digest_282 (by decide) ?_
                      refine lv_istore_n (lv' := [(1, .int (1 : Int32)), (0, .ref (a 0))]) hx hb dX4_digest_283 rfl hl (by decide) rfl (fun ls hl => ?_)
                      refine lpu2 h (fun K34 : Int32 → Md → Prop => ∀ (x32 : Int32) (u33 : Md) (ls : Array Slot) (H : Heap) (locs : List Loc), lv_has ls 3 [(0, .ref (a 0)), (1, .int x32)] → va_P D vwCl (mdW cI a u33) H → va_D A (mdW cI a u33) → va_S A H0 H locs → K34 x32 u33 → W p l e rm_X4_digest s m args below meth c H locs 0 0 Q (F0 m 284 ls [])) ?_ ?_ ?_
                      · intro x32 u33 ls H locs hl hP hD hS h
                        exact h.elim
                      · intro K34
                        intro w35 x32 u33 ls H locs hl hP hD hS h
                        refine lv_iload_n hx hb dX4_digest_284 rfl (lv_at hl 1 rfl) ?_
                        refine lv_iconst (v := (4 : Int32)) hx hb dX4_digest_285 (by decide) ?_
                        refine lv_icmp_ge (tgt := 305) hx hb dX4_digest_286 (by decide) (fun c36 => ?_) (fun c36 => ?_)
                        · replace h := h.1 c36
                          refine lv_aload_n hx hb dX4_digest_305 rfl (lv_at hl 0 rfl) ?_
                          refine va_get (D := D) (ci := 4) (v := .long (M_hash u33)) (C := RX4) (T := TX4) (N := 12) hx hb hts inT4 hown hK.k hP 0 rfl rfl 11 (by decide) (hts _ q_830) (fun _ h9 => h9) rfl dX4_digest_306 ?_
                          exact hQ h hP hD hS dX4_digest_309
                        · replace h := h.2 c36
                          refine lv_aload_n hx hb dX4_digest_289 rfl (lv_at hl 0 rfl) ?_
                          refine lv_aload_n hx hb dX4_digest_290 rfl (lv_at hl 0 rfl) ?_
                          refine lv_iload_n hx hb dX4_digest_291 rfl (lv_at hl 1 rfl) ?_
                          refine roVi (As := [.int x32]) (rest := [.ref (a 0)]) F (c_X4_least l D cI cS cJ a u33 H x32 h) (cw_X4_150 hts (Nat.le_of_ble_eq_true rfl) (Nat.le_of_ble_eq_true rfl)) hK hP (recv (ci := 4) (k0 := 0) hK hP rfl rfl) rfl hl.1 rfl (Nat.le_of_ble_eq_true rfl) dX4_digest_292 ⟨Nat.zero_le _, Nat.zero_le _⟩ (fun r37 h => ?_)
                          refine lv_i2l (v := (Int32.toInt64 r37)) hx hb dX4_digest_295 rfl ?_
                          refine rwVv0 (As := [.long (Int32.toInt64 r37)]) (rest := []) F (c_X4_mix l D cI cS cJ a u33 H.size (Int32.toInt64 r37) h) (cw_X4_210 hts (Nat.le_of_ble_eq_true rfl) (Nat.le_of_ble_eq_true rfl)) hK hP hD hS hA (recv (ci := 4) (k0 := 0) hK hP rfl rfl) rfl hl.1 rfl (Nat.le_of_ble_eq_true rfl) dX4_digest_296 ⟨Nat.zero_le _, Nat.zero_le _⟩ (fun u39 H locs h hP hD hS => ?_)
                          refine lv_iinc (v := (x32 + 1)) (lv' := [(1, .int (x32 + 1)), (0, .ref (a 0))]) hx hb dX4_digest_299 hl (k := 1) rfl rfl (by decide) rfl (fun ls hl => ?_)
                          refine lv_goto (tgt := 284) hx hb dX4_digest_302 (by decide) ?_
                          exact w35 (x32 + 1) u39 _ _ _ (lv_sub hl [1, 0] rfl) hP hD hS h
                      · intro K34 w35 h
                        exact w35 (1 : Int32) u28 _ _ _ (lv_sub hl [1, 0] rfl) hP hD hS h
                    · replace h := h.2 c31
                      refine lv_aload_n hx hb dX4_digest_262 rfl (lv_at hl 0 rfl) ?_
                      refine lv_aload_n hx hb dX4_digest_263 rfl (lv_at hl 0 rfl) ?_
                      refine va_get (D := D) (ci := 4) (v := .ref (a 1)) (C := RX4) (T := TX4) (N := 12) hx hb hts inT4 hown hK.k hP 0 rfl rfl 1 (by decide) (hts _ q_820) (fun _ h9 => h9) rfl dX4_digest_264 ?_
                      refine lv_bipush (v := (114 : Int32)) hx hb dX4_digest_267 (by decide) ?_
                      refine lv_iload_n hx hb dX4_digest_269 rfl (lv_at hl 1 rfl) ?_
                      refine lv_iadd hx hb dX4_digest_270 ?_
                      refine va_iald hx hb hK.k hP 1 0 rfl rfl h.1 dX4_digest_271 ?_
                      replace h := h.2
                      refine lv_i2l (v := (Int32.toInt64 ((M_s u28) (Int32.toNatClampNeg ((114 : Int32) + x27))))) hx hb dX4_digest_272 rfl ?_
                      refine rwVv0 (As := [.long (Int32.toInt64 ((M_s u28) (Int32.toNatClampNeg ((114 : Int32) + x27))))]) (rest := []) F (c_X4_mix l D cI cS cJ a u28 H.size (Int32.toInt64 ((M_s u28) (Int32.toNatClampNeg ((114 : Int32) + x27)))) h) (cw_X4_210 hts (Nat.le_of_ble_eq_true rfl) (Nat.le_of_ble_eq_true rfl)) hK hP hD hS hA (recv (ci := 4) (k0 := 0) hK hP rfl rfl) rfl hl.1 rfl (Nat.le_of_ble_eq_true rfl) dX4_digest_273 ⟨Nat.zero_le _, Nat.zero_le _⟩ (fun u41 H locs h hP hD hS => ?_)
                      refine lv_iinc (v := (x27 + 1)) (lv' := [(1, .int (x27 + 1)), (0, .ref (a 0))]) hx hb dX4_digest_276 hl (k := 1) rfl rfl (by decide) rfl (fun ls hl => ?_)
                      refine lv_goto (tgt := 257) hx hb dX4_digest_279 (by decide) ?_
                      exact w30 (x27 + 1) u41 _ _ _ (lv_sub hl [1, 0] rfl) hP hD hS h
                  · intro K29 w30 h
                    exact w30 (0 : Int32) u23 _ _ _ (lv_sub hl [1, 0] rfl) hP hD hS h
                · replace h := h.2 c26
                  refine lv_iconst (v := (0 : Int32)) hx hb dX4_digest_214 (by decide) ?_
                  refine lv_istore_n (lv' := [(2, .int (0 : Int32)), (0, .ref (a 0)), (1, .int x22)]) hx hb dX4_digest_215 rfl hl (by decide) rfl (fun ls hl => ?_)
                  refine lpu2 h (fun K44 : Int32 → Md → Prop => ∀ (x42 : Int32) (u43 : Md) (ls : Array Slot) (H : Heap) (locs : List Loc), lv_has ls 3 [(0, .ref (a 0)), (1, .int x22), (2, .int x42)] → va_P D vwCl (mdW cI a u43) H → va_D A (mdW cI a u43) → va_S A H0 H locs → K44 x42 u43 → W p l e rm_X4_digest s m args below meth c H locs 0 0 Q (F0 m 216 ls [])) ?_ ?_ ?_
                  · intro x42 u43 ls H locs hl hP hD hS h
                    exact h.elim
                  · intro K44
                    intro w45 x42 u43 ls H locs hl hP hD hS h
                    refine lv_iload_n hx hb dX4_digest_216 rfl (lv_at hl 2 rfl) ?_
                    refine lv_iconst (v := (4 : Int32)) hx hb dX4_digest_217 (by decide) ?_
                    refine lv_icmp_ge (tgt := 238) hx hb dX4_digest_218 (by decide) (fun c46 => ?_) (fun c46 => ?_)
                    · replace h := h.1 c46
                      refine lv_aload_n hx hb dX4_digest_238 rfl (lv_at hl 0 rfl) ?_
                      refine lv_aload_n hx hb dX4_digest_239 rfl (lv_at hl 0 rfl) ?_
                      refine lv_iload_n hx hb dX4_digest_240 rfl (lv_at hl 1 rfl) ?_
                      refine lv_iconst (v := (-1 : Int32)) hx hb dX4_digest_241 (by decide) ?_
                      refine roVi (As := [.int x22, .int (-1 : Int32)]) (rest := [.ref (a 0)]) F (c_X4_arrivesIn l D cI cS cJ a u43 H x22 (-1 : Int32) h) (cw_X4_141 hts (Nat.le_of_ble_eq_true rfl) (Nat.le_of_ble_eq_true rfl)) hK hP (recv (ci := 4) (k0 := 0) hK hP rfl rfl) rfl hl.1 rfl (Nat.le_of_ble_eq_true rfl) dX4_digest_242 ⟨Nat.zero_le _, Nat.zero_le _⟩ (fun r47 h => ?_)
                      refine lv_i2l (v := (Int32.toInt64 r47)) hx hb dX4_digest_245 rfl ?_
                      refine rwVv0 (As := [.long (Int32.toInt64 r47)]) (rest := []) F (c_X4_mix l D cI cS cJ a u43 H.size (Int32.toInt64 r47) h) (cw_X4_210 hts (Nat.le_of_ble_eq_true rfl) (Nat.le_of_ble_eq_true rfl)) hK hP hD hS hA (recv (ci := 4) (k0 := 0) hK hP rfl rfl) rfl hl.1 rfl (Nat.le_of_ble_eq_true rfl) dX4_digest_246 ⟨Nat.zero_le _, Nat.zero_le _⟩ (fun u49 H locs h hP hD hS => ?_)
                      refine lv_iinc (v := (x22 + 1)) (lv' := [(1, .int (x22 + 1)), (0, .ref (a 0)), (2, .int x42)]) hx hb dX4_digest_249 hl (k := 1) rfl rfl (by decide) rfl (fun ls hl => ?_)
                      refine lv_goto (tgt := 204) hx hb dX4_digest_252 (by decide) ?_
                      exact w25 (x22 + 1) u49 _ _ _ (lv_sub hl [1, 0] rfl) hP hD hS h
                    · replace h := h.2 c46
                      refine lv_aload_n hx hb dX4_digest_221 rfl (lv_at hl 0 rfl) ?_
                      refine lv_aload_n hx hb dX4_digest_222 rfl (lv_at hl 0 rfl) ?_
                      refine lv_iload_n hx hb dX4_digest_223 rfl (lv_at hl 1 rfl) ?_
                      refine lv_iload_n hx hb dX4_digest_224 rfl (lv_at hl 2 rfl) ?_
                      refine roVi (As := [.int x22, .int x42]) (rest := [.ref (a 0)]) F (c_X4_of l D cI cS cJ a u43 H x22 x42 h) (cw_X4_46 hts (Nat.le_of_ble_eq_true rfl) (Nat.le_of_ble_eq_true rfl)) hK hP (recv (ci := 4) (k0 := 0) hK hP rfl rfl) rfl hl.1 rfl (Nat.le_of_ble_eq_true rfl) dX4_digest_225 ⟨Nat.zero_le _, Nat.zero_le _⟩ (fun r50 h => ?_)
                      refine lv_i2l (v := (Int32.toInt64 r50)) hx hb dX4_digest_228 rfl ?_
                      refine rwVv0 (As := [.long (Int32.toInt64 r50)]) (rest := []) F (c_X4_mix l D cI cS cJ a u43 H.size (Int32.toInt64 r50) h) (cw_X4_210 hts (Nat.le_of_ble_eq_true rfl) (Nat.le_of_ble_eq_true rfl)) hK hP hD hS hA (recv (ci := 4) (k0 := 0) hK hP rfl rfl) rfl hl.1 rfl (Nat.le_of_ble_eq_true rfl) dX4_digest_229 ⟨Nat.zero_le _, Nat.zero_le _⟩ (fun u52 H locs h hP hD hS => ?_)
                      refine lv_iinc (v := (x42 + 1)) (lv' := [(2, .int (x42 + 1)), (0, .ref (a 0)), (1, .int x22)]) hx hb dX4_digest_232 hl (k := 2) rfl rfl (by decide) rfl (fun ls hl => ?_)
                      refine lv_goto (tgt := 216) hx hb dX4_digest_235 (by decide) ?_
                      exact w45 (x42 + 1) u52 _ _ _ (lv_sub hl [1, 2, 0] rfl) hP hD hS h
                  · intro K44 w45 h
                    exact w45 (0 : Int32) u23 _ _ _ (lv_sub hl [1, 2, 0] rfl) hP hD hS h
              · intro K24 w25 h
                exact w25 (0 : Int32) u18 _ _ _ (lv_sub hl [1, 0] rfl) hP hD hS h
            · replace h := h.2 c21
              refine lv_iconst (v := (1 : Int32)) hx hb dX4_digest_145 (by decide) ?_
              refine lv_istore_n (lv' := [(2, .int (1 : Int32)), (0, .ref (a 0)), (1, .int x17)]) hx hb dX4_digest_146 rfl hl (by decide) rfl (fun ls hl => ?_)
              refine lpu2 h (fun K55 : Int32 → Md → Prop => ∀ (x53 : Int32) (u54 : Md) (ls : Array Slot) (H : Heap) (locs : List Loc), lv_has ls 3 [(0, .ref (a 0)), (1, .int x17), (2, .int x53)] → va_P D vwCl (mdW cI a u54) H → va_D A (mdW cI a u54) → va_S A H0 H locs → K55 x53 u54 → W p l e rm_X4_digest s m args below meth c H locs 0 0 Q (F0 m 147 ls [])) ?_ ?_ ?_
              · intro x53 u54 ls H locs hl hP hD hS h
                exact h.elim
              · intro K55
                intro w56 x53 u54 ls H locs hl hP hD hS h
                refine lv_iload_n hx hb dX4_digest_147 rfl (lv_at hl 2 rfl) ?_
                refine lv_iconst (v := (4 : Int32)) hx hb dX4_digest_148 (by decide) ?_
                refine lv_icmp_ge (tgt := 169) hx hb dX4_digest_149 (by decide) (fun c57 => ?_) (fun c57 => ?_)
                · replace h := h.1 c57
                  refine lv_aload_n hx hb dX4_digest_169 rfl (lv_at hl 0 rfl) ?_
                  refine lv_aload_n hx hb dX4_digest_170 rfl (lv_at hl 0 rfl) ?_
                  refine lv_iload_n hx hb dX4_digest_171 rfl (lv_at hl 1 rfl) ?_
                  refine roVi (As := [.int x17]) (rest := [.ref (a 0)]) F (c_X4_hallOf l D cI cS cJ a u54 H x17 h) (cw_X4_49 hts (Nat.le_of_ble_eq_true rfl) (Nat.le_of_ble_eq_true rfl)) hK hP (recv (ci := 4) (k0 := 0) hK hP rfl rfl) rfl hl.1 rfl (Nat.le_of_ble_eq_true rfl) dX4_digest_172 ⟨Nat.zero_le _, Nat.zero_le _⟩ (fun r58 h => ?_)
                  refine lv_i2l (v := (Int32.toInt64 r58)) hx hb dX4_digest_175 rfl ?_
                  refine rwVv0 (As := [.long (Int32.toInt64 r58)]) (rest := []) F (c_X4_mix l D cI cS cJ a u54 H.size (Int32.toInt64 r58) h) (cw_X4_210 hts (Nat.le_of_ble_eq_true rfl) (Nat.le_of_ble_eq_true rfl)) hK hP hD hS hA (recv (ci := 4) (k0 := 0) hK hP rfl rfl) rfl hl.1 rfl (Nat.le_of_ble_eq_true rfl) dX4_digest_176 ⟨Nat.zero_le _, Nat.zero_le _⟩ (fun u60 H locs h hP hD hS => ?_)
                  refine lv_aload_n hx hb dX4_digest_179 rfl (lv_at hl 0 rfl) ?_
                  refine lv_aload_n hx hb dX4_digest_180 rfl (lv_at hl 0 rfl) ?_
                  refine lv_iload_n hx hb dX4_digest_181 rfl (lv_at hl 1 rfl) ?_
                  refine roVi (As := [.int x17]) (rest := [.ref (a 0)]) F (c_X4_standsNow l D cI cS cJ a u60 H x17 h) (cw_X4_113 hts (Nat.le_of_ble_eq_true rfl) (Nat.le_of_ble_eq_true rfl)) hK hP (recv (ci := 4) (k0 := 0) hK hP rfl rfl) rfl hl.1 rfl (Nat.le_of_ble_eq_true rfl) dX4_digest_182 ⟨Nat.zero_le _, Nat.zero_le _⟩ (fun r61 h => ?_)
                  obtain ⟨b62, h⟩ := h
                  refine jn_e h (fun J64 e66 h => ?_)
                  have w65 : ∀ (x63 : Int64) (ls : Array Slot) (H : Heap) (locs : List Loc), lv_has ls 3 [(0, .ref (a 0)), (1, .int x17)] → va_P D vwCl (mdW cI a u60) H → va_D A (mdW cI a u60) → va_S A H0 H locs → J64 x63 → W p l e rm_X4_digest s m args below meth c H locs 0 0 Q (F0 m 193 ls [.long x63, .ref (a 0)]) := by
                    intro x63 ls H locs hl hP hD hS h
                    subst e66
                    refine rwVv0 (As := [.long x63]) (rest := []) F (c_X4_mix l D cI cS cJ a u60 H.size x63 h) (cw_X4_210 hts (Nat.le_of_ble_eq_true rfl) (Nat.le_of_ble_eq_true rfl)) hK hP hD hS hA (recv (ci := 4) (k0 := 0) hK hP rfl rfl) rfl hl.1 rfl (Nat.le_of_ble_eq_true rfl) dX4_digest_193 ⟨Nat.zero_le _, Nat.zero_le _⟩ (fun u68 H locs h hP hD hS => ?_)
                    refine lv_iinc (v := (x17 + 1)) (lv' := [(1, .int (x17 + 1)), (0, .ref (a 0))]) hx hb dX4_digest_196 hl (k := 1) rfl rfl (by decide) rfl (fun ls hl => ?_)
                    refine lv_goto (tgt := 135) hx hb dX4_digest_199 (by decide) ?_
                    exact w20 (x17 + 1) u68 _ _ _ (lv_sub hl [1, 0] rfl) hP hD hS h
                  clear e66
                  refine lv_if_eq (tgt := 192) hx hb dX4_digest_185 (by decide) (fun c69 => ?_) (fun c69 => ?_)
                  · replace h := h.1 c69
                    refine lv_lconst (v := (0 : Int64)) hx hb dX4_digest_192 rfl ?_
                    exact w65 (0 : Int64) _ _ _ (lv_sub hl [0, 1] rfl) hP hD hS h
                  · replace h := h.2 c69
                    refine lv_lconst (v := (1 : Int64)) hx hb dX4_digest_188 rfl ?_
                    refine lv_goto (tgt := 193) hx hb dX4_digest_189 (by decide) ?_
                    exact w65 (1 : Int64) _ _ _ (lv_sub hl [0, 1] rfl) hP hD hS h
                · replace h := h.2 c57
                  refine lv_aload_n hx hb dX4_digest_152 rfl (lv_at hl 0 rfl) ?_
                  refine lv_aload_n hx hb dX4_digest_153 rfl (lv_at hl 0 rfl) ?_
                  refine lv_iload_n hx hb dX4_digest_154 rfl (lv_at hl 1 rfl) ?_
                  refine lv_iload_n hx hb dX4_digest_155 rfl (lv_at hl 2 rfl) ?_
                  refine roVi (As := [.int x17, .int x53]) (rest := [.ref (a 0)]) F (c_X4_innOf l D cI cS cJ a u54 H x17 x53 h) (cw_X4_24 hts (Nat.le_of_ble_eq_true rfl) (Nat.le_of_ble_eq_true rfl)) hK hP (recv (ci := 4) (k0 := 0) hK hP rfl rfl) rfl hl.1 rfl (Nat.le_of_ble_eq_true rfl) dX4_digest_156 ⟨Nat.zero_le _, Nat.zero_le _⟩ (fun r70 h => ?_)
                  refine lv_i2l (v := (Int32.toInt64 r70)) hx hb dX4_digest_159 rfl ?_
                  refine rwVv0 (As := [.long (Int32.toInt64 r70)]) (rest := []) F (c_X4_mix l D cI cS cJ a u54 H.size (Int32.toInt64 r70) h) (cw_X4_210 hts (Nat.le_of_ble_eq_true rfl) (Nat.le_of_ble_eq_true rfl)) hK hP hD hS hA (recv (ci := 4) (k0 := 0) hK hP rfl rfl) rfl hl.1 rfl (Nat.le_of_ble_eq_true rfl) dX4_digest_160 ⟨Nat.zero_le _, Nat.zero_le _⟩ (fun u72 H locs h hP hD hS => ?_)
                  refine lv_iinc (v := (x53 + 1)) (lv' := [(2, .int (x53 + 1)), (0, .ref (a 0)), (1, .int x17)]) hx hb dX4_digest_163 hl (k := 2) rfl rfl (by decide) rfl (fun ls hl => ?_)
                  refine lv_goto (tgt := 147) hx hb dX4_digest_166 (by decide) ?_
                  exact w56 (x53 + 1) u72 _ _ _ (lv_sub hl [1, 2, 0] rfl) hP hD hS h
              · intro K55 w56 h
                exact w56 (1 : Int32) u18 _ _ _ (lv_sub hl [1, 2, 0] rfl) hP hD hS h
          · intro K19 w20 h
            exact w20 (0 : Int32) u13 _ _ _ (lv_sub hl [1, 0] rfl) hP hD hS h
        · replace h := h.2 c16
          refine lv_aload_n hx hb dX4_digest_79 rfl (lv_at hl 0 rfl) ?_
          refine lv_aload_n hx hb dX4_digest_80 rfl (lv_at hl 0 rfl) ?_
          refine va_get (D := D) (ci := 4) (v := .ref (a 1)) (C := RX4) (T := TX4) (N := 12) hx hb hts inT4 hown hK.k hP 0 rfl rfl 1 (by decide) (hts _ q_820) (fun _ h9 => h9) rfl dX4_digest_81 ?_
          refine lv_bipush (v := (8 : Int32)) hx hb dX4_digest_84 (by decide) ?_
          refine lv_iload_n hx hb dX4_digest_86 rfl (lv_at hl 1 rfl) ?_
          refine lv_iadd hx hb dX4_digest_87 ?_
          refine va_iald hx hb hK.k hP 1 0 rfl rfl h.1 dX4_digest_88 ?_
          replace h := h.2
          refine lv_i2l (v := (Int32.toInt64 ((M_s u13) (Int32.toNatClampNeg ((8 : Int32) + x12))))) hx hb dX4_digest_89 rfl ?_
          refine rwVv0 (As := [.long (Int32.toInt64 ((M_s u13) (Int32.toNatClampNeg ((8 : Int32) + x12))))]) (rest := []) F (c_X4_mix l D cI cS cJ a u13 H.size (Int32.toInt64 ((M_s u13) (Int32.toNatClampNeg ((8 : Int32) + x12)))) h) (cw_X4_210 hts (Nat.le_of_ble_eq_true rfl) (Nat.le_of_ble_eq_true rfl)) hK hP hD hS hA (recv (ci := 4) (k0 := 0) hK hP rfl rfl) rfl hl.1 rfl (Nat.le_of_ble_eq_true rfl) dX4_digest_90 ⟨Nat.zero_le _, Nat.zero_le _⟩ (fun u74 H locs h hP hD hS => ?_)
          refine lv_aload_n hx hb dX4_digest_93 rfl (lv_at hl 0 rfl) ?_
          refine lv_aload_n hx hb dX4_digest_94 rfl (lv_at hl 0 rfl) ?_
          refine va_get (D := D) (ci := 4) (v := .ref (a 1)) (C := RX4) (T := TX4) (N := 12) hx hb hts inT4 hown hK.k hP 0 rfl rfl 1 (by decide) (hts _ q_820) (fun _ h9 => h9) rfl dX4_digest_95 ?_
          refine lv_bipush (v := (16 : Int32)) hx hb dX4_digest_98 (by decide) ?_
          refine lv_iload_n hx hb dX4_digest_100 rfl (lv_at hl 1 rfl) ?_
          refine lv_iadd hx hb dX4_digest_101 ?_
          refine va_iald hx hb hK.k hP 1 0 rfl rfl h.1 dX4_digest_102 ?_
          replace h := h.2
          refine lv_i2l (v := (Int32.toInt64 ((M_s u74) (Int32.toNatClampNeg ((16 : Int32) + x12))))) hx hb dX4_digest_103 rfl ?_
          refine rwVv0 (As := [.long (Int32.toInt64 ((M_s u74) (Int32.toNatClampNeg ((16 : Int32) + x12))))]) (rest := []) F (c_X4_mix l D cI cS cJ a u74 H.size (Int32.toInt64 ((M_s u74) (Int32.toNatClampNeg ((16 : Int32) + x12)))) h) (cw_X4_210 hts (Nat.le_of_ble_eq_true rfl) (Nat.le_of_ble_eq_true rfl)) hK hP hD hS hA (recv (ci := 4) (k0 := 0) hK hP rfl rfl) rfl hl.1 rfl (Nat.le_of_ble_eq_true rfl) dX4_digest_104 ⟨Nat.zero_le _, Nat.zero_le _⟩ (fun u76 H locs h hP hD hS => ?_)
          refine lv_aload_n hx hb dX4_digest_107 rfl (lv_at hl 0 rfl) ?_
          refine lv_aload_n hx hb dX4_digest_108 rfl (lv_at hl 0 rfl) ?_
          refine lv_iload_n hx hb dX4_digest_109 rfl (lv_at hl 1 rfl) ?_
          refine roVi (As := [.int x12]) (rest := [.ref (a 0)]) F (c_X4_knownTo l D cI cS cJ a u76 H x12 h) (cw_X4_123 hts (Nat.le_of_ble_eq_true rfl) (Nat.le_of_ble_eq_true rfl)) hK hP (recv (ci := 4) (k0 := 0) hK hP rfl rfl) rfl hl.1 rfl (Nat.le_of_ble_eq_true rfl) dX4_digest_110 ⟨Nat.zero_le _, Nat.zero_le _⟩ (fun r77 h => ?_)
          refine lv_i2l (v := (Int32.toInt64 r77)) hx hb dX4_digest_113 rfl ?_
          refine rwVv0 (As := [.long (Int32.toInt64 r77)]) (rest := []) F (c_X4_mix l D cI cS cJ a u76 H.size (Int32.toInt64 r77) h) (cw_X4_210 hts (Nat.le_of_ble_eq_true rfl) (Nat.le_of_ble_eq_true rfl)) hK hP hD hS hA (recv (ci := 4) (k0 := 0) hK hP rfl rfl) rfl hl.1 rfl (Nat.le_of_ble_eq_true rfl) dX4_digest_114 ⟨Nat.zero_le _, Nat.zero_le _⟩ (fun u79 H locs h hP hD hS => ?_)
          refine lv_aload_n hx hb dX4_digest_117 rfl (lv_at hl 0 rfl) ?_
          refine lv_aload_n hx hb dX4_digest_118 rfl (lv_at hl 0 rfl) ?_
          refine lv_iload_n hx hb dX4_digest_119 rfl (lv_at hl 1 rfl) ?_
          refine roVi (As := [.int x12]) (rest := [.ref (a 0)]) F (c_X4_lostBy l D cI cS cJ a u79 H x12 h) (cw_X4_144 hts (Nat.le_of_ble_eq_true rfl) (Nat.le_of_ble_eq_true rfl)) hK hP (recv (ci := 4) (k0 := 0) hK hP rfl rfl) rfl hl.1 rfl (Nat.le_of_ble_eq_true rfl) dX4_digest_120 ⟨Nat.zero_le _, Nat.zero_le _⟩ (fun r80 h => ?_)
          refine lv_i2l (v := (Int32.toInt64 r80)) hx hb dX4_digest_123 rfl ?_
          refine rwVv0 (As := [.long (Int32.toInt64 r80)]) (rest := []) F (c_X4_mix l D cI cS cJ a u79 H.size (Int32.toInt64 r80) h) (cw_X4_210 hts (Nat.le_of_ble_eq_true rfl) (Nat.le_of_ble_eq_true rfl)) hK hP hD hS hA (recv (ci := 4) (k0 := 0) hK hP rfl rfl) rfl hl.1 rfl (Nat.le_of_ble_eq_true rfl) dX4_digest_124 ⟨Nat.zero_le _, Nat.zero_le _⟩ (fun u82 H locs h hP hD hS => ?_)
          refine lv_iinc (v := (x12 + 1)) (lv' := [(1, .int (x12 + 1)), (0, .ref (a 0))]) hx hb dX4_digest_127 hl (k := 1) rfl rfl (by decide) rfl (fun ls hl => ?_)
          refine lv_goto (tgt := 73) hx hb dX4_digest_130 (by decide) ?_
          exact w15 (x12 + 1) u82 _ _ _ (lv_sub hl [1, 0] rfl) hP hD hS h
      · intro K14 w15 h
        exact w15 (0 : Int32) u8 _ _ _ (lv_sub hl [1, 0] rfl) hP hD hS h
    · replace h := h.2 c11
      refine lv_aload_n hx hb dX4_digest_52 rfl (lv_at hl 0 rfl) ?_
      refine lv_aload_n hx hb dX4_digest_53 rfl (lv_at hl 0 rfl) ?_
      refine va_get (D := D) (ci := 4) (v := .ref (a 1)) (C := RX4) (T := TX4) (N := 12) hx hb hts inT4 hown hK.k hP 0 rfl rfl 1 (by decide) (hts _ q_820) (fun _ h9 => h9) rfl dX4_digest_54 ?_
      refine lv_iconst (v := (3 : Int32)) hx hb dX4_digest_57 (by decide) ?_
      refine lv_iload_n hx hb dX4_digest_58 rfl (lv_at hl 1 rfl) ?_
      refine lv_iadd hx hb dX4_digest_59 ?_
      refine va_iald hx hb hK.k hP 1 0 rfl rfl h.1 dX4_digest_60 ?_
      replace h := h.2
      refine lv_i2l (v := (Int32.toInt64 ((M_s u8) (Int32.toNatClampNeg ((3 : Int32) + x7))))) hx hb dX4_digest_61 rfl ?_
      refine rwVv0 (As := [.long (Int32.toInt64 ((M_s u8) (Int32.toNatClampNeg ((3 : Int32) + x7))))]) (rest := []) F (c_X4_mix l D cI cS cJ a u8 H.size (Int32.toInt64 ((M_s u8) (Int32.toNatClampNeg ((3 : Int32) + x7)))) h) (cw_X4_210 hts (Nat.le_of_ble_eq_true rfl) (Nat.le_of_ble_eq_true rfl)) hK hP hD hS hA (recv (ci := 4) (k0 := 0) hK hP rfl rfl) rfl hl.1 rfl (Nat.le_of_ble_eq_true rfl) dX4_digest_62 ⟨Nat.zero_le _, Nat.zero_le _⟩ (fun u84 H locs h hP hD hS => ?_)
      refine lv_iinc (v := (x7 + 1)) (lv' := [(1, .int (x7 + 1)), (0, .ref (a 0))]) hx hb dX4_digest_65 hl (k := 1) rfl rfl (by decide) rfl (fun ls hl => ?_)
      refine lv_goto (tgt := 47) hx hb dX4_digest_68 (by decide) ?_
      exact w10 (x7 + 1) u84 _ _ _ (lv_sub hl [1, 0] rfl) hP hD hS h
  · intro K9 w10 h
    exact w10 (0 : Int32) u6 _ _ _ (lv_sub hl [1, 0] rfl) hP hD hS h
