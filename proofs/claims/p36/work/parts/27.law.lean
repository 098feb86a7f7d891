/-! the law's body: worlds, the script's cells -/
def lwW (cI cS : ClassId) (G : Nat → Nat → Nat) (o1 o2 : Nat) (q : Ne × (Nat → Int32) × (Nat → Int32)) : va_W := [(o1, .inl (cI, 4, .inl q.2.1)), (o2, .inl (cI, 4, .inl q.2.2))] ++ neW cI cS G q.1
theorem lwH_f {cI cS : ClassId} {G : Nat → Nat → Nat} {o1 o2 : Nat} {N : Ne} {f k : Nat → Int32} : (lwW cI cS G o1 o2 (N, f, k)).Perm (hW cI cS G o1 (N, f) ++ ([(o2, .inl (cI, 4, .inl k))] : va_W)) := List.Perm.cons _ (List.perm_append_comm (l₁ := [(o2, .inl (cI, 4, .inl k))]) (l₂ := neW cI cS G N))
theorem lwH_b {cI cS : ClassId} {G : Nat → Nat → Nat} {o1 o2 : Nat} {u : Ne × (Nat → Int32)} {k : Nat → Int32} : List.Perm (hW cI cS G o1 u ++ ([(o2, .inl (cI, 4, .inl k))] : va_W)) (lwW cI cS G o1 o2 (u.1, u.2, k)) := (lwH_f (N := u.1) (f := u.2)).symm
/-- what the law reads at the place j of its script -/
def cellV (xs : Nat → Int32) (L j : Nat) : Int32 := if j < L then xs j else (1812433253 : Int32) * (nI j + (349 : Int32))
abbrev rm_L_cell : Room := { frames := 0, cells := 0, slots := 0, locals := 0 }
def xsP (D : va_G) (T : List (ClassId × FieldType)) (b L : Nat) (xs : Nat → Int32) (H0 : Heap) : State → Prop := fun U => U.heap = H0 ∧ va_X b L xs U H0 ∧ KK D T U
theorem preX {D : va_G} {T : List (ClassId × FieldType)} {s : State} {H : Heap} {b L : Nat} {xs : Nat → Int32} {av : List Value} (hK : KK D T s) (hX : va_X b L xs s H) : PreS s H (va_Pc av (xsP D T b L xs H)) av :=
  ⟨fun a U g mk q => ⟨q.1, q.2.1, va_X.moved (u := U) (U := U.calling g mk a) (Vm.Alike.refl U.vm) q.2.2.1, KK.calling g mk a q.2.2.2⟩, fun U hU hW => ⟨rfl, hU, va_X.moved hW.alike hX, KK.warm hW hK⟩⟩
theorem q_239 : Cond.methodLink RL 119 yX3_savedStates ∈ wsT := tw 239 (by decide +kernel) rfl
theorem q_240 : Cond.instanceMethod yX3_savedStates ∈ wsT := tw 240 (by decide +kernel) rfl
theorem q_241 : Cond.selects RX3 yX3_savedStates yX3_savedStates ∈ wsT := tw 241 (by decide +kernel) rfl
theorem q_242 : Cond.code yX3_savedStates cX3_savedStates 1 (some .int) ∈ wsT := tw 242 (by decide +kernel) rfl
theorem q_328 : Cond.methodLink RL 115 yL_cell ∈ wsT := tw 328 (by decide +kernel) rfl
theorem q_329 : Cond.static yL_cell ∈ wsT := tw 329 (by decide +kernel) rfl
theorem q_330 : Cond.code yL_cell cL_cell 2 (some .int) ∈ wsT := tw 330 (by decide +kernel) rfl
theorem q_331 : Cond.constant RL 7 (1812433253 : Int32) ∈ wsT := tw 331 (by decide +kernel) rfl
theorem q_336 : Cond.methodLink RL 122 yL_act ∈ wsT := tw 336 (by decide +kernel) rfl
theorem q_337 : Cond.static yL_act ∈ wsT := tw 337 (by decide +kernel) rfl
theorem q_338 : Cond.code yL_act cL_act 13 (some .int) ∈ wsT := tw 338 (by decide +kernel) rfl
theorem q_547 : Cond.methodLink RL 111 yL_holds ∈ wsT := tw 547 (by decide +kernel) rfl
theorem q_548 : Cond.static yL_holds ∈ wsT := tw 548 (by decide +kernel) rfl
set_option maxRecDepth 100000 in
theorem q_549 : Cond.code yL_holds cL_holds 9 (some .boolean) ∈ wsT := tw 549 rfl rfl
theorem q_583 : Cond.methodLink RL 130 yL_isBrought ∈ wsT := tw 583 (by decide +kernel) rfl
theorem q_584 : Cond.static yL_isBrought ∈ wsT := tw 584 (by decide +kernel) rfl
theorem q_585 : Cond.code yL_isBrought cL_isBrought 12 (some .boolean) ∈ wsT := tw 585 (by decide +kernel) rfl
theorem q_594 : Cond.methodLink RL 126 yL_isCovered ∈ wsT := tw 594 (by decide +kernel) rfl
theorem q_595 : Cond.static yL_isCovered ∈ wsT := tw 595 (by decide +kernel) rfl
theorem q_596 : Cond.code yL_isCovered cL_isCovered 5 (some .boolean) ∈ wsT := tw 596 (by decide +kernel) rfl
theorem cw_L_111 {R : Room} {s : State} {args : Array Value} (hts : ∀ w ∈ wsT, w.before args s = true) (hf : 6 + 1 ≤ R.frames) (hl : 8 + (9 + 11) + 135 ≤ R.locals) : CallB R s args RL 111 yL_holds cL_holds 9 (some .boolean) (wsA yL_holds cL_holds 9 (some .boolean)) rm_L_holds 0 0 1 ∧ (Cond.static yL_holds).before args s = true := cwAS 1 hts q_547 q_548 q_22 q_549 rfl rfl (by decide +kernel) ⟨hf, hl⟩
theorem cw_L_115 {R : Room} {s : State} {args : Array Value} (hts : ∀ w ∈ wsT, w.before args s = true) (hf : 0 + 1 ≤ R.frames) (hl : 8 + (2 + 11) + 0 ≤ R.locals) : CallB R s args RL 115 yL_cell cL_cell 2 (some .int) (wsA yL_cell cL_cell 2 (some .int)) rm_L_cell 0 0 2 ∧ (Cond.static yL_cell).before args s = true := cwAS 2 hts q_328 q_329 q_22 q_330 rfl rfl (by decide +kernel) ⟨hf, hl⟩
theorem cw_L_119 {R : Room} {s : State} {args : Array Value} (hts : ∀ w ∈ wsT, w.before args s = true) (hf : 0 + 1 ≤ R.frames) (hl : 8 + (1 + 11) + 0 ≤ R.locals) : CallW R s args RL RX3 119 yX3_savedStates cX3_savedStates 1 (some .int) (wsA yX3_savedStates cX3_savedStates 1 (some .int)) rm_X3_savedStates 0 0 0 := cwAV 0 hts q_239 q_240 q_241 q_23 q_242 rfl rfl (by decide +kernel) ⟨hf, hl⟩
theorem cw_L_122 {R : Room} {s : State} {args : Array Value} (hts : ∀ w ∈ wsT, w.before args s = true) (hf : 7 + 1 ≤ R.frames) (hl : 8 + (13 + 11) + 169 ≤ R.locals) : CallB R s args RL 122 yL_act cL_act 13 (some .int) (wsA yL_act cL_act 13 (some .int)) rm_L_act 0 0 4 ∧ (Cond.static yL_act).before args s = true := cwAS 4 hts q_336 q_337 q_22 q_338 rfl rfl (by decide +kernel) ⟨hf, hl⟩
theorem cw_L_126 {R : Room} {s : State} {args : Array Value} (hts : ∀ w ∈ wsT, w.before args s = true) (hf : 4 + 1 ≤ R.frames) (hl : 8 + (5 + 11) + 85 ≤ R.locals) : CallB R s args RL 126 yL_isCovered cL_isCovered 5 (some .boolean) (wsA yL_isCovered cL_isCovered 5 (some .boolean)) rm_L_isCovered 0 0 3 ∧ (Cond.static yL_isCovered).before args s = true := cwAS 3 hts q_594 q_595 q_22 q_596 rfl rfl (by decide +kernel) ⟨hf, hl⟩
theorem cw_L_130 {R : Room} {s : State} {args : Array Value} (hts : ∀ w ∈ wsT, w.before args s = true) (hf : 7 + 1 ≤ R.frames) (hl : 8 + (12 + 11) + 162 ≤ R.locals) : CallB R s args RL 130 yL_isBrought cL_isBrought 12 (some .boolean) (wsA yL_isBrought cL_isBrought 12 (some .boolean)) rm_L_isBrought 0 0 4 ∧ (Cond.static yL_isBrought).before args s = true := cwAS 4 hts q_583 q_584 q_22 q_585 rfl rfl (by decide +kernel) ⟨hf, hl⟩
set_option maxHeartbeats 4000000 in
set_option maxRecDepth 100000 in
theorem c_L_cell (l : Launch) (D : va_G) (cI cS cJ : ClassId) (b L : Nat) (xs : Nat → Int32) (j : Nat) (H0 : Heap) (hL : L < 2147483648) (hj : j < 1000) : Met l yL_cell (wsA yL_cell cL_cell 2 (some .int)) rm_L_cell (va_Pc [.ref b, .int (nI j)] (xsP D (tysA cI cS cJ) b L xs H0)) (va_Qi (fun r (_ : Unit) => r = cellV xs L j) (fun _ t => t.heap = H0) nF) 0 0 nF := by
  refine va_MetF (cc := cL_cell) (maxL := 2) (ret := some .int) (by decide +kernel) rfl ?_
  intro p e s m args below meth c s₁ B hml hv
  obtain ⟨rfl, hH, hX, hK⟩ := hv
  have hts : ∀ w ∈ wsT, w.before ([.ref b, .int (nI j)] : List Value).toArray s = true := fun w h => atoms_spec (ws := wsA yL_cell cL_cell 2 (some .int)) B.pre w (List.mem_cons_of_mem _ h)
  have hl := lv_entry [.ref b, .int (nI j)] (n := 2) (Nat.le_of_ble_eq_true rfl)
  rw [lg_entry_eq]
  subst hH
  have hx := B.exec
  have hb := B.bytes
  have hown : s.vm.findClass RL = some m.cls := findClass_of_methodNamed B.named
  have hbl : b < s.heap.size := by
    obtain ⟨scr, h1, -⟩ := hX
    exact (Array.getElem?_eq_some_iff.mp h1).1
  have hS : va_S nF s.heap s.heap [] := va_S.rf
  have hl : lv_has _ 2 [(0, .ref b), (1, .int (nI j))] := hl
  refine lv_iload_n hx hb dL_cell_0 rfl (lv_at hl 1 rfl) ?_
  refine lv_aload_n hx hb dL_cell_1 rfl (lv_at hl 0 rfl) ?_
  refine va_slen hx hb hX hbl (fun h => h) hS dL_cell_2 ?_
  refine lv_icmp_ge (tgt := 12) hx hb dL_cell_3 (by decide) (fun c1 => ?_) (fun c1 => ?_)
  · refine lv_ldc (v := (1812433253 : Int32)) hx hb hown (hts _ q_331) dL_cell_12 ?_
    refine lv_iload_n hx hb dL_cell_14 rfl (lv_at hl 1 rfl) ?_
    refine lv_sipush (v := (349 : Int32)) hx hb dL_cell_15 (by decide) ?_
    refine lv_iadd hx hb dL_cell_18 ?_
    refine lv_imul hx hb dL_cell_19 ?_
    have hc : ¬ j < L := fun h => absurd c1 (nI_ge h hL)
    exact W.iret hx hb B.returns (fun t ht hW => ⟨⟨_, (), rfl, by unfold cellV; rw [if_neg hc], ht⟩, (va_S.rf (A := nF) (H0 := s.heap)).F ht⟩) (fun q h => nomatch h) dL_cell_20 B.notSynchronized
  · have hc : j < L := Nat.not_le.mp (fun h => c1 (nI_le h (by omega)))
    refine lv_aload_n hx hb dL_cell_6 rfl (lv_at hl 0 rfl) ?_
    refine lv_iload_n hx hb dL_cell_7 rfl (lv_at hl 1 rfl) ?_
    refine va_sld hx hb hX hbl (fun h => h) hS (vp_in_nI hc hL) dL_cell_8 ?_
    refine lv_goto (tgt := 20) hx hb dL_cell_9 (by decide) ?_
    rw [nI_clamp (by omega)]
    exact W.iret hx hb B.returns (fun t ht hW => ⟨⟨_, (), rfl, by unfold cellV; rw [if_pos hc], ht⟩, (va_S.rf (A := nF) (H0 := s.heap)).F ht⟩) (fun q h => nomatch h) dL_cell_20 B.notSynchronized
def wp_L_law (xs : Nat → Int32) (L : Nat) (N : Ne) (f k : Nat → Int32) (post : Int32 → Prop) : Prop :=
  wp_L_holds N (fun r1 => LP2 (fun (K5 : Int32 → (Ne × (Nat → Int32) × (Nat → Int32)) → Prop) (x3 : Int32) (u4 : (Ne × (Nat → Int32) × (Nat → Int32))) => ((4 : Int32) ≤ x3 → LP3 (fun (K12 : Int32 → Int32 → (Ne × (Nat → Int32) × (Nat → Int32)) → Prop) (x8 : Int32) (x10 : Int32) (u11 : (Ne × (Nat → Int32) × (Nat → Int32))) => ((72 : Int32) ≤ x10 → post x8) ∧ (¬ (72 : Int32) ≤ x10 → (x8 = 0 → post x8) ∧ (¬ x8 = 0 → ∃ j16 : Nat, (((2 : Int32) * x10) = nI j16 ∧ j16 < 1000) ∧ (∃ j19 : Nat, ((((2 : Int32) * x10) + (1 : Int32)) = nI j19 ∧ j19 < 1000) ∧ (wp_X3_digest u11.1 (fun r22 => wp_X3_savedStates u11.1 (fun r23 => LP2 (fun (K26 : Int32 → (Ne × (Nat → Int32) × (Nat → Int32)) → Prop) (x24 : Int32) (u25 : (Ne × (Nat → Int32) × (Nat → Int32))) => ((4 : Int32) ≤ x24 → wp_L_act (u25.1, u25.2.1) (cellV xs L j16) (cellV xs L j19) (fun r29 u30 => jn (fun (x31 : Int32) => jn (fun (x36 : Int32) (u38 : (Ne × (Nat → Int32) × (Nat → Int32))) => jn (fun (x42 : Int32) (u44 : (Ne × (Nat → Int32) × (Nat → Int32))) => K12 x42 (x10 + 1) (u44.1, u44.2.1, u44.2.2)) (fun (J45 : Int32 → (Ne × (Nat → Int32) × (Nat → Int32)) → Prop) => jn (fun (u48 : (Ne × (Nat → Int32) × (Nat → Int32))) => J45 (0 : Int32) (u48.1, u48.2.1, u48.2.2)) (fun (J49 : (Ne × (Nat → Int32) × (Nat → Int32)) → Prop) => (x36 = 0 → J49 (u38.1, u38.2.1, u38.2.2)) ∧ (¬ x36 = 0 → wp_L_holds u38.1 (fun r53 => (r53 = 0 → J49 (u38.1, u38.2.1, u38.2.2)) ∧ (¬ r53 = 0 → wp_L_up ((cellV xs L j16) >>> ((5 : Int32) &&& 31)) (8 : Int32) (fun r56 => wp_L_up ((cellV xs L j19) >>> ((4 : Int32) &&& 31)) (10000 : Int32) (fun r57 => wp_L_isCovered u38.1 r56 r57 (fun r58 => (r58 = 0 → J49 (u38.1, u38.2.1, u38.2.2)) ∧ (¬ r58 = 0 → jn (fun (u61 : (Ne × (Nat → Int32) × (Nat → Int32))) => J45 (1 : Int32) (u61.1, u61.2.1, u61.2.2)) (fun (J62 : (Ne × (Nat → Int32) × (Nat → Int32)) → Prop) => (¬ (x10 - x10 / (5 : Int32) * (5 : Int32)) = (3 : Int32) → J62 (u38.1, u38.2.1, u38.2.2)) ∧ ((x10 - x10 / (5 : Int32) * (5 : Int32)) = (3 : Int32) → wp_X3_roads u38.1 (fun r66 => (r66 = 0 → J62 (u38.1, u38.2.1, u38.2.2)) ∧ (¬ r66 = 0 → wp_X3_roads u38.1 (fun r68 => wp_L_up ((cellV xs L j19) >>> ((5 : Int32) &&& 31)) r68 (fun r69 => wp_L_up ((cellV xs L j16) >>> ((6 : Int32) &&& 31)) (10000 : Int32) (fun r70 => wp_L_up ((cellV xs L j19) >>> ((7 : Int32) &&& 31)) (10000 : Int32) (fun r71 => wp_L_isBrought u38.1 r69 r70 r71 (fun r72 u74 => (r72 = 0 → J49 (u74, u38.2.1, u38.2.2)) ∧ (¬ r72 = 0 → J62 (u74, u38.2.1, u38.2.2))))))))))))))))))))) (fun (J39 : Int32 → (Ne × (Nat → Int32) × (Nat → Int32)) → Prop) => (x31 = 0 → J39 x31 (u30.1, u30.2, u25.2.2)) ∧ (¬ x31 = 0 → (¬ (((cellV xs L j16) >>> ((8 : Int32) &&& 31)) &&& (3 : Int32)) = 0 → J39 x31 (u30.1, u30.2, u25.2.2)) ∧ ((((cellV xs L j16) >>> ((8 : Int32) &&& 31)) &&& (3 : Int32)) = 0 → wp_X3_digest u30.1 (fun r78 => wp_X3_savedStates u30.1 (fun r79 => LP2 (fun (K82 : Int32 → (Ne × (Nat → Int32) × (Nat → Int32)) → Prop) (x80 : Int32) (u81 : (Ne × (Nat → Int32) × (Nat → Int32))) => ((4 : Int32) ≤ x80 → wp_X3_undo u81.1 (fun r85 u86 => jn (fun (x87 : Int32) (u89 : (Ne × (Nat → Int32) × (Nat → Int32))) => J39 x87 (u89.1, u89.2.1, u89.2.2)) (fun (J90 : Int32 → (Ne × (Nat → Int32) × (Nat → Int32)) → Prop) => jn (fun (u93 : (Ne × (Nat → Int32) × (Nat → Int32))) => J90 (0 : Int32) (u93.1, u93.2.1, u93.2.2)) (fun (J94 : (Ne × (Nat → Int32) × (Nat → Int32)) → Prop) => (¬ r85 = (r79 - (1 : Int32)) → J94 (u86, u81.2.1, u81.2.2)) ∧ (r85 = (r79 - (1 : Int32)) → wp_X3_digest u86 (fun r98 => (¬ (lg_cmp r98 r22) = 0 → J94 (u86, u81.2.1, u81.2.2)) ∧ ((lg_cmp r98 r22) = 0 → wp_L_act (u86, u81.2.1) (cellV xs L j16) (cellV xs L j19) (fun r100 u101 => (¬ r100 = r29 → J94 (u101.1, u101.2, u81.2.2)) ∧ (r100 = r29 → wp_X3_digest u101.1 (fun r103 => (¬ (lg_cmp r103 r78) = 0 → J94 (u101.1, u101.2, u81.2.2)) ∧ ((lg_cmp r103 r78) = 0 → J90 (1 : Int32) (u101.1, u101.2, u81.2.2)))))))))))) ∧ (¬ (4 : Int32) ≤ x80 → (vp_in x80 4) ∧ ((vp_in x80 4) ∧ (K82 (x80 + 1) (u81.1, (upd u81.2.1 (Int32.toNatClampNeg x80) (u81.2.2 (Int32.toNatClampNeg x80))), u81.2.2))))) (0 : Int32) (u30.1, u30.2, u25.2.2))))))) (fun (J33 : Int32 → Prop) => jn (J33 (0 : Int32)) (fun (J105 : Prop) => (r29 < 0 → J105) ∧ (¬ r29 < 0 → wp_X3_savedStates u30.1 (fun r109 => jn (fun (x110 : Int32) => (¬ r109 = x110 → J105) ∧ (r109 = x110 → J33 (1 : Int32))) (fun (J111 : Int32 → Prop) => ((6 : Int32) ≤ r23 → J111 (6 : Int32)) ∧ (¬ (6 : Int32) ≤ r23 → J111 (r23 + (1 : Int32)))))))))) ∧ (¬ (4 : Int32) ≤ x24 → (vp_in x24 4) ∧ ((vp_in x24 4) ∧ (K26 (x24 + 1) (u25.1, u25.2.1, (upd u25.2.2 (Int32.toNatClampNeg x24) (u25.2.1 (Int32.toNatClampNeg x24)))))))) (0 : Int32) (u11.1, u11.2.1, u11.2.2)))))))) r1 (0 : Int32) (u4.1, u4.2.1, u4.2.2)) ∧ (¬ (4 : Int32) ≤ x3 → (vp_in x3 4) ∧ (K5 (x3 + 1) (u4.1, (upd u4.2.1 (Int32.toNatClampNeg x3) (-1 : Int32)), u4.2.2)))) (0 : Int32) (N, f, k))
set_option maxHeartbeats 4000000 in
set_option maxRecDepth 100000 in
theorem c_L_law {p : Program} {l : Launch} {e : Env} {s : State} {m : MethodId} {below : List Frame} {meth : Method} {c : Code} {Q : State → Prop} {A : Nat → Prop} {D : va_G} {cI cS cJ : ClassId} {G : Nat → Nat → Nat} {o1 o2 b L : Nat} {xs : Nat → Int32} {N : Ne} {f k : Nat → Int32} {H : Heap} {locs : List Loc} {ls : Array Slot} (F : CallFix p m c code 16 s #[Value.ref b] wsT RL) (hK : KK D (tysA cI cS cJ) s) (hX : va_X b L xs s s.heap) (hL : L < 2147483648) (hbl : b < s.heap.size) (hbA : ¬ A b) (hA : ∀ q, s.heap.size ≤ q → A q) (hl : lv_has ls 16 [(0, .ref b), (1, .ref (G 2 0)), (2, .ref o1), (3, .ref o2)]) (hP : va_P D vwCl (lwW cI cS G o1 o2 (N, f, k)) H) (hD : va_D A (lwW cI cS G o1 o2 (N, f, k))) (hS : va_S A s.heap H locs) {post : Int32 → Prop} (h : wp_L_law xs L N f k post)
    (hend : ∀ (v : Int32) (H : Heap) (locs : List Loc) (ls : Array Slot), post v → va_S A s.heap H locs → W p l e room_1 s m #[Value.ref b] below meth c H locs 70 943 Q (F0 m 370 ls [.int v])) :
    W p l e room_1 s m #[Value.ref b] below meth c H locs 70 943 Q (F0 m 16 ls []) := by
  have hx := F.1
  have hb := F.2.1
  have hown := F.2.2.2.1
  have hts := F.2.2.2.2
  unfold wp_L_law at h
  refine lv_aload_n hx hb dL_law_16 rfl (lv_at hl 1 rfl) ?_
  refine roSi (As := [.ref (G 2 0)]) (rest := []) F (c_L_holds l D cI cS cJ G N H  h) (cw_L_111 hts (Nat.le_of_ble_eq_true rfl) (Nat.le_of_ble_eq_true rfl)) hK (vP_R hP) rfl hl.1 rfl (Nat.le_of_ble_eq_true rfl) dL_law_17 ⟨(Nat.le_of_ble_eq_true rfl), (Nat.le_of_ble_eq_true rfl)⟩ (fun r1 h => ?_)
  obtain ⟨b2, h⟩ := h
  refine lv_istore (lv' := [(4, .int r1), (0, .ref b), (1, .ref (G 2 0)), (2, .ref o1), (3, .ref o2)]) hx hb dL_law_20 hl (by decide) rfl (fun ls hl => ?_)
  refine lv_iconst (v := (0 : Int32)) hx hb dL_law_22 (by decide) ?_
  refine lv_istore (lv' := [(5, .int (0 : Int32)), (4, .int r1), (0, .ref b), (1, .ref (G 2 0)), (2, .ref o1), (3, .ref o2)]) hx hb dL_law_23 hl (by decide) rfl (fun ls hl => ?_)
  refine lpu2 h (fun K5 : Int32 → (Ne × (Nat → Int32) × (Nat → Int32)) → Prop => ∀ (x3 : Int32) (u4 : (Ne × (Nat → Int32) × (Nat → Int32))) (ls : Array Slot) (H : Heap) (locs : List Loc), lv_has ls 16 [(0, .ref b), (1, .ref (G 2 0)), (2, .ref o1), (3, .ref o2), (4, .int r1), (5, .int x3)] → va_P D vwCl (lwW cI cS G o1 o2 (u4.1, u4.2.1, u4.2.2)) H → va_D A (lwW cI cS G o1 o2 (u4.1, u4.2.1, u4.2.2)) → va_S A s.heap H locs → K5 x3 u4 → W p l e room_1 s m #[Value.ref b] below meth c H locs 70 943 Q (F0 m 25 ls [])) ?_ ?_ ?_
  · intro x3 u4 ls H locs hl hP hD hS h
    exact h.elim
  · intro K5
    intro w6 x3 u4 ls H locs hl hP hD hS h
    refine lv_iload hx hb dL_law_25 (lv_at hl 5 rfl) ?_
    refine lv_iconst (v := (4 : Int32)) hx hb dL_law_27 (by decide) ?_
    refine lv_icmp_ge (tgt := 42) hx hb dL_law_28 (by decide) (fun c7 => ?_) (fun c7 => ?_)
    · replace h := h.1 c7
      refine lv_iconst (v := (0 : Int32)) hx hb dL_law_42 (by decide) ?_
      refine lv_istore (lv' := [(5, .int (0 : Int32)), (0, .ref b), (1, .ref (G 2 0)), (2, .ref o1), (3, .ref o2), (4, .int r1)]) hx hb dL_law_43 hl (by decide) rfl (fun ls hl => ?_)
      refine lpu3 h (fun K12 : Int32 → Int32 → (Ne × (Nat → Int32) × (Nat → Int32)) → Prop => ∀ (x8 : Int32) (x10 : Int32) (u11 : (Ne × (Nat → Int32) × (Nat → Int32))) (ls : Array Slot) (H : Heap) (locs : List Loc), bz x8 → lv_has ls 16 [(0, .ref b), (1, .ref (G 2 0)), (2, .ref o1), (3, .ref o2), (4, .int x8), (5, .int x10)] → va_P D vwCl (lwW cI cS G o1 o2 (u11.1, u11.2.1, u11.2.2)) H → va_D A (lwW cI cS G o1 o2 (u11.1, u11.2.1, u11.2.2)) → va_S A s.heap H locs → K12 x8 x10 u11 → W p l e room_1 s m #[Value.ref b] below meth c H locs 70 943 Q (F0 m 45 ls [])) ?_ ?_ ?_
      · intro x8 x10 u11 ls H locs b9 hl hP hD hS h
        exact h.elim
      · intro K12
        intro w13 x8 x10 u11 ls H locs b9 hl hP hD hS h
        refine lv_iload hx hb dL_law_45 (lv_at hl 5 rfl) ?_
        refine lv_bipush (v := (72 : Int32)) hx hb dL_law_47 (by decide) ?_
        refine lv_icmp_ge (tgt := 368) hx hb dL_law_49 (by decide) (fun c14 => ?_) (fun c14 => ?_)
        · replace h := h.1 c14
          refine lv_iload hx hb dL_law_368 (lv_at hl 4 rfl) ?_
          exact hend _ _ _ _ h hS
        · replace h := h.2 c14
          refine lv_iload hx hb dL_law_52 (lv_at hl 4 rfl) ?_
          refine lv_if_eq (tgt := 368) hx hb dL_law_54 (by decide) (fun c15 => ?_) (fun c15 => ?_)
          · replace h := h.1 c15
            refine lv_iload hx hb dL_law_368 (lv_at hl 4 rfl) ?_
            exact hend _ _ _ _ h hS
          · replace h := h.2 c15
            refine lv_aload_n hx hb dL_law_57 rfl (lv_at hl 0 rfl) ?_
            refine lv_iconst (v := (2 : Int32)) hx hb dL_law_58 (by decide) ?_
            refine lv_iload hx hb dL_law_59 (lv_at hl 5 rfl) ?_
            refine lv_imul hx hb dL_law_61 ?_
            obtain ⟨j16, hj17, h⟩ := h
            rw [hj17.1]
            refine ro_ki (va_runS (As := [.ref b, .int (nI j16)]) (rest := []) F (c_L_cell l D cI cS cJ b L xs j16 H hL hj17.2) (cw_L_115 hts (Nat.le_of_ble_eq_true rfl) (Nat.le_of_ble_eq_true rfl)) (preX hK (hX.kept (hS.2.1 b hbl hbA))) rfl rfl hl.1 rfl (lv_room (Nat.le_of_ble_eq_true rfl)) dL_law_62 ⟨(Nat.le_of_ble_eq_true rfl), (Nat.le_of_ble_eq_true rfl)⟩) (fun r18 r189 => ?_)
            subst r189
            refine lv_istore (lv' := [(6, .int (cellV xs L j16)), (0, .ref b), (1, .ref (G 2 0)), (2, .ref o1), (3, .ref o2), (4, .int x8), (5, .int x10)]) hx hb dL_law_65 hl (by decide) rfl (fun ls hl => ?_)
            refine lv_aload_n hx hb dL_law_67 rfl (lv_at hl 1 rfl) ?_
            refine lv_iconst (v := (2 : Int32)) hx hb dL_law_68 (by decide) ?_
            refine lv_iload hx hb dL_law_69 (lv_at hl 6 rfl) ?_
            refine lv_imul hx hb dL_law_71 ?_
            refine lv_iconst (v := (1 : Int32)) hx hb dL_law_72 (by decide) ?_
            refine lv_iadd hx hb dL_law_73 ?_
            obtain ⟨j19, hj20, h⟩ := h
            rw [hj20.1]
            refine ro_ki (va_runS (As := [.ref b, .int (nI j19)]) (rest := []) F (c_L_cell l D cI cS cJ b L xs j19 H hL hj20.2) (cw_L_115 hts (Nat.le_of_ble_eq_true rfl) (Nat.le_of_ble_eq_true rfl)) (preX hK (hX.kept (hS.2.1 b hbl hbA))) rfl rfl hl.1 rfl (lv_room (Nat.le_of_ble_eq_true rfl)) dL_law_74 ⟨(Nat.le_of_ble_eq_true rfl), (Nat.le_of_ble_eq_true rfl)⟩) (fun r21 r219 => ?_)
            subst r219
            refine lv_istore (lv' := [(7, .int (cellV xs L j19)), (6, .int (cellV xs L j16)), (0, .ref b), (1, .ref (G 2 0)), (2, .ref o1), (3, .ref o2), (4, .int x8), (5, .int x10)]) hx hb dL_law_77 hl (by decide) rfl (fun ls hl => ?_)
            refine lv_aload_n hx hb dL_law_79 rfl (lv_at hl 3 rfl) ?_
            refine roVl (As := []) (rest := []) F (c_X3_digest l D cI cS cJ G u11.1 H  h) (cw_L_91 hts (Nat.le_of_ble_eq_true rfl) (Nat.le_of_ble_eq_true rfl)) hK (vP_R hP) (recv (ci := 3) (k0 := 2) hK hP rfl rfl) rfl hl.1 rfl (Nat.le_of_ble_eq_true rfl) dL_law_80 ⟨(Nat.le_of_ble_eq_true rfl), (Nat.le_of_ble_eq_true rfl)⟩ (fun r22 h => ?_)
            refine lv_lstore (lv' := [(8, .long r22), (7, .int (cellV xs L j19)), (6, .int (cellV xs L j16)), (0, .ref b), (1, .ref (G 2 0)), (2, .ref o1), (3, .ref o2), (4, .int x8), (5, .int x10)]) hx hb dL_law_83 hl (by decide) rfl (fun ls hl => ?_)
            refine lv_aload_n hx hb dL_law_85 rfl (lv_at hl 4 rfl) ?_
            refine roVi (As := []) (rest := []) F (c_X3_savedStates l D cI cS cJ G u11.1 H  h) (cw_L_119 hts (Nat.le_of_ble_eq_true rfl) (Nat.le_of_ble_eq_true rfl)) hK (vP_R hP) (recv (ci := 3) (k0 := 2) hK hP rfl rfl) rfl hl.1 rfl (Nat.le_of_ble_eq_true rfl) dL_law_86 ⟨(Nat.le_of_ble_eq_true rfl), (Nat.le_of_ble_eq_true rfl)⟩ (fun r23 h => ?_)
            refine lv_istore (lv' := [(10, .int r23), (8, .long r22), (7, .int (cellV xs L j19)), (6, .int (cellV xs L j16)), (0, .ref b), (1, .ref (G 2 0)), (2, .ref o1), (3, .ref o2), (4, .int x8), (5, .int x10)]) hx hb dL_law_89 hl (by decide) rfl (fun ls hl => ?_)
            refine lv_iconst (v := (0 : Int32)) hx hb dL_law_91 (by decide) ?_
            refine lv_istore (lv' := [(11, .int (0 : Int32)), (10, .int r23), (8, .long r22), (7, .int (cellV xs L j19)), (6, .int (cellV xs L j16)), (0, .ref b), (1, .ref (G 2 0)), (2, .ref o1), (3, .ref o2), (4, .int x8), (5, .int x10)]) hx hb dL_law_92 hl (by decide) rfl (fun ls hl => ?_)
            refine lpu2 h (fun K26 : Int32 → (Ne × (Nat → Int32) × (Nat → Int32)) → Prop => ∀ (x24 : Int32) (u25 : (Ne × (Nat → Int32) × (Nat → Int32))) (ls : Array Slot) (H : Heap) (locs : List Loc), lv_has ls 16 [(0, .ref b), (1, .ref (G 2 0)), (2, .ref o1), (3, .ref o2), (5, .int x10), (6, .int (cellV xs L j16)), (7, .int (cellV xs L j19)), (8, .long r22), (10, .int r23), (11, .int x24)] → va_P D vwCl (lwW cI cS G o1 o2 (u25.1, u25.2.1, u25.2.2)) H → va_D A (lwW cI cS G o1 o2 (u25.1, u25.2.1, u25.2.2)) → va_S A s.heap H locs → K26 x24 u25 → W p l e room_1 s m #[Value.ref b] below meth c H locs 70 943 Q (F0 m 94 ls [])) ?_ ?_ ?_
            · intro x24 u25 ls H locs hl hP hD hS h
              exact h.elim
            · intro K26
              intro w27 x24 u25 ls H locs hl hP hD hS h
              refine lv_iload hx hb dL_law_94 (lv_at hl 9 rfl) ?_
              refine lv_iconst (v := (4 : Int32)) hx hb dL_law_96 (by decide) ?_
              refine lv_icmp_ge (tgt := 114) hx hb dL_law_97 (by decide) (fun c28 => ?_) (fun c28 => ?_)
              · replace h := h.1 c28
                refine lv_aload_n hx hb dL_law_114 rfl (lv_at hl 1 rfl) ?_
                refine lv_aload_n hx hb dL_law_115 rfl (lv_at hl 2 rfl) ?_
                refine lv_iload hx hb dL_law_116 (lv_at hl 5 rfl) ?_
                refine lv_iload hx hb dL_law_118 (lv_at hl 6 rfl) ?_
                refine rwSi (wr := [(o2, .inl (cI, 4, .inl u25.2.2))]) (As := [.ref (G 2 0), .ref o1, .int (cellV xs L j16), .int (cellV xs L j19)]) (rest := []) lwH_f F (c_L_act l D cI cS cJ G o1 (u25.1, u25.2.1) H.size (cellV xs L j16) (cellV xs L j19) h) (cw_L_122 hts (Nat.le_of_ble_eq_true rfl) (Nat.le_of_ble_eq_true rfl)) hK hP hD hS hA rfl hl.1 rfl (Nat.le_of_ble_eq_true rfl) dL_law_120 ⟨(Nat.le_of_ble_eq_true rfl), (Nat.le_of_ble_eq_true rfl)⟩ (fun r29 u30 H locs h hP hD hS => ?_)
                have hP : va_P D vwCl (lwW cI cS G o1 o2 (u30.1, u30.2, u25.2.2)) H := vP_perm lwH_b hP
                have hD : va_D A (lwW cI cS G o1 o2 (u30.1, u30.2, u25.2.2)) := vD_perm lwH_b hD
                refine lv_istore (lv' := [(11, .int r29), (0, .ref b), (1, .ref (G 2 0)), (2, .ref o1), (3, .ref o2), (5, .int x10), (6, .int (cellV xs L j16)), (7, .int (cellV xs L j19)), (8, .long r22), (10, .int r23)]) hx hb dL_law_123 hl (by decide) rfl (fun ls hl => ?_)
                refine lv_iload hx hb dL_law_125 (lv_at hl 0 rfl) ?_
                refine jn_e h (fun J33 e35 h => ?_)
                have w34 : ∀ (x31 : Int32) (ls : Array Slot) (H : Heap) (locs : List Loc), bz x31 → lv_has ls 16 [(0, .ref b), (1, .ref (G 2 0)), (2, .ref o1), (3, .ref o2), (5, .int x10), (6, .int (cellV xs L j16)), (7, .int (cellV xs L j19)), (8, .long r22), (11, .int r29)] → va_P D vwCl (lwW cI cS G o1 o2 (u30.1, u30.2, u25.2.2)) H → va_D A (lwW cI cS G o1 o2 (u30.1, u30.2, u25.2.2)) → va_S A s.heap H locs → J33 x31 → W p l e room_1 s m #[Value.ref b] below meth c H locs 70 943 Q (F0 m 158 ls [.int x31]) := by
                  intro x31 ls H locs b32 hl hP hD hS h
                  subst e35
                  refine lv_istore (lv' := [(4, .int x31), (0, .ref b), (1, .ref (G 2 0)), (2, .ref o1), (3, .ref o2), (5, .int x10), (6, .int (cellV xs L j16)), (7, .int (cellV xs L j19)), (8, .long r22), (11, .int r29)]) hx hb dL_law_158 hl (by decide) rfl (fun ls hl => ?_)
                  refine lv_iload hx hb dL_law_160 (lv_at hl 0 rfl) ?_
                  refine jn_e h (fun J39 e41 h => ?_)
                  have w40 : ∀ (x36 : Int32) (u38 : (Ne × (Nat → Int32) × (Nat → Int32))) (ls : Array Slot) (H : Heap) (locs : List Loc), bz x36 → lv_has ls 16 [(0, .ref b), (1, .ref (G 2 0)), (2, .ref o1), (3, .ref o2), (4, .int x36), (5, .int x10), (6, .int (cellV xs L j16)), (7, .int (cellV xs L j19))] → va_P D vwCl (lwW cI cS G o1 o2 (u38.1, u38.2.1, u38.2.2)) H → va_D A (lwW cI cS G o1 o2 (u38.1, u38.2.1, u38.2.2)) → va_S A s.heap H locs → J39 x36 u38 → W p l e room_1 s m #[Value.ref b] below meth c H locs 70 943 Q (F0 m 262 ls []) := by
                    intro x36 u38 ls H locs b37 hl hP hD hS h
                    subst e41
                    refine lv_iload hx hb dL_law_262 (lv_at hl 4 rfl) ?_
                    refine jn_e h (fun J45 e47 h => ?_)
                    have w46 : ∀ (x42 : Int32) (u44 : (Ne × (Nat → Int32) × (Nat → Int32))) (ls : Array Slot) (H : Heap) (locs : List Loc), bz x42 → lv_has ls 16 [(0, .ref b), (1, .ref (G 2 0)), (2, .ref o1), (3, .ref o2), (5, .int x10)] → va_P D vwCl (lwW cI cS G o1 o2 (u44.1, u44.2.1, u44.2.2)) H → va_D A (lwW cI cS G o1 o2 (u44.1, u44.2.1, u44.2.2)) → va_S A s.heap H locs → J45 x42 u44 → W p l e room_1 s m #[Value.ref b] below meth c H locs 70 943 Q (F0 m 360 ls [.int x42]) := by
                      intro x42 u44 ls H locs b43 hl hP hD hS h
                      subst e47
                      refine lv_istore (lv' := [(4, .int x42), (0, .ref b), (1, .ref (G 2 0)), (2, .ref o1), (3, .ref o2), (5, .int x10)]) hx hb dL_law_360 hl (by decide) rfl (fun ls hl => ?_)
                      refine lv_iinc (v := (x10 + 1)) (lv' := [(5, .int (x10 + 1)), (4, .int x42), (0, .ref b), (1, .ref (G 2 0)), (2, .ref o1), (3, .ref o2)]) hx hb dL_law_362 hl (k := 5) rfl rfl (by decide) rfl (fun ls hl => ?_)
                      refine lv_goto (tgt := 45) hx hb dL_law_365 (by decide) ?_
                      exact w13 x42 (x10 + 1) (u44.1, u44.2.1, u44.2.2) _ _ _ b43 (lv_sub hl [2, 3, 4, 5, 1, 0] rfl) hP hD hS h
                    clear e47
                    refine jn_e h (fun J49 e51 h => ?_)
                    have w50 : ∀ (u48 : (Ne × (Nat → Int32) × (Nat → Int32))) (ls : Array Slot) (H : Heap) (locs : List Loc), lv_has ls 16 [(0, .ref b), (1, .ref (G 2 0)), (2, .ref o1), (3, .ref o2), (5, .int x10)] → va_P D vwCl (lwW cI cS G o1 o2 (u48.1, u48.2.1, u48.2.2)) H → va_D A (lwW cI cS G o1 o2 (u48.1, u48.2.1, u48.2.2)) → va_S A s.heap H locs → J49 u48 → W p l e room_1 s m #[Value.ref b] below meth c H locs 70 943 Q (F0 m 359 ls []) := by
                      intro u48 ls H locs hl hP hD hS h
                      subst e51
                      refine lv_iconst (v := (0 : Int32)) hx hb dL_law_359 (by decide) ?_
                      exact w46 (0 : Int32) (u48.1, u48.2.1, u48.2.2) _ _ _ bz0 hl hP hD hS h
                    clear e51
                    refine lv_if_eq (tgt := 359) hx hb dL_law_264 (by decide) (fun c52 => ?_) (fun c52 => ?_)
                    · replace h := h.1 c52
                      exact w50 (u38.1, u38.2.1, u38.2.2) _ _ _ (lv_sub hl [0, 1, 2, 3, 5] rfl) hP hD hS h
                    · replace h := h.2 c52
                      refine lv_aload_n hx hb dL_law_267 rfl (lv_at hl 1 rfl) ?_
                      refine roSi (As := [.ref (G 2 0)]) (rest := []) F (c_L_holds l D cI cS cJ G u38.1 H  h) (cw_L_111 hts (Nat.le_of_ble_eq_true rfl) (Nat.le_of_ble_eq_true rfl)) hK (vP_R hP) rfl hl.1 rfl (Nat.le_of_ble_eq_true rfl) dL_law_268 ⟨(Nat.le_of_ble_eq_true rfl), (Nat.le_of_ble_eq_true rfl)⟩ (fun r53 h => ?_)
                      obtain ⟨b54, h⟩ := h
                      refine lv_if_eq (tgt := 359) hx hb dL_law_271 (by decide) (fun c55 => ?_) (fun c55 => ?_)
                      · replace h := h.1 c55
                        exact w50 (u38.1, u38.2.1, u38.2.2) _ _ _ (lv_sub hl [0, 1, 2, 3, 5] rfl) hP hD hS h
                      · replace h := h.2 c55
                        refine lv_aload_n hx hb dL_law_274 rfl (lv_at hl 1 rfl) ?_
                        refine lv_iload hx hb dL_law_275 (lv_at hl 6 rfl) ?_
                        refine lv_iconst (v := (5 : Int32)) hx hb dL_law_277 (by decide) ?_
                        refine lv_ishr hx hb dL_law_278 ?_
                        refine lv_bipush (v := (8 : Int32)) hx hb dL_law_279 (by decide) ?_
                        refine roSi (As := [.int ((cellV xs L j16) >>> ((5 : Int32) &&& 31)), .int (8 : Int32)]) (rest := [.ref (G 2 0)]) F (c_L_up l D cI cS cJ H ((cellV xs L j16) >>> ((5 : Int32) &&& 31)) (8 : Int32) h) (cw_L_9 hts (Nat.le_of_ble_eq_true rfl) (Nat.le_of_ble_eq_true rfl)) hK vP_nil rfl hl.1 rfl (Nat.le_of_ble_eq_true rfl) dL_law_281 ⟨(Nat.le_of_ble_eq_true rfl), (Nat.le_of_ble_eq_true rfl)⟩ (fun r56 h => ?_)
                        refine lv_iload hx hb dL_law_284 (lv_at hl 7 rfl) ?_
                        refine lv_iconst (v := (4 : Int32)) hx hb dL_law_286 (by decide) ?_
                        refine lv_ishr hx hb dL_law_287 ?_
                        refine lv_sipush (v := (10000 : Int32)) hx hb dL_law_288 (by decide) ?_
                        refine roSi (As := [.int ((cellV xs L j19) >>> ((4 : Int32) &&& 31)), .int (10000 : Int32)]) (rest := [.int r56, .ref (G 2 0)]) F (c_L_up l D cI cS cJ H ((cellV xs L j19) >>> ((4 : Int32) &&& 31)) (10000 : Int32) h) (cw_L_9 hts (Nat.le_of_ble_eq_true rfl) (Nat.le_of_ble_eq_true rfl)) hK vP_nil rfl hl.1 rfl (Nat.le_of_ble_eq_true rfl) dL_law_291 ⟨(Nat.le_of_ble_eq_true rfl), (Nat.le_of_ble_eq_true rfl)⟩ (fun r57 h => ?_)
                        refine roSi (As := [.ref (G 2 0), .int r56, .int r57]) (rest := []) F (c_L_isCovered l D cI cS cJ G u38.1 H r56 r57 h) (cw_L_126 hts (Nat.le_of_ble_eq_true rfl) (Nat.le_of_ble_eq_true rfl)) hK (vP_R hP) rfl hl.1 rfl (Nat.le_of_ble_eq_true rfl) dL_law_294 ⟨(Nat.le_of_ble_eq_true rfl), (Nat.le_of_ble_eq_true rfl)⟩ (fun r58 h => ?_)
                        obtain ⟨b59, h⟩ := h
                        refine lv_if_eq (tgt := 359) hx hb dL_law_297 (by decide) (fun c60 => ?_) (fun c60 => ?_)
                        · replace h := h.1 c60
                          exact w50 (u38.1, u38.2.1, u38.2.2) _ _ _ (lv_sub hl [0, 1, 2, 3, 5] rfl) hP hD hS h
                        · replace h := h.2 c60
                          refine lv_iload hx hb dL_law_300 (lv_at hl 5 rfl) ?_
                          refine lv_iconst (v := (5 : Int32)) hx hb dL_law_302 (by decide) ?_
                          refine lv_irem hx hb dL_law_303 (by decide) ?_
                          refine lv_iconst (v := (3 : Int32)) hx hb dL_law_304 (by decide) ?_
                          refine jn_e h (fun J62 e64 h => ?_)
                          have w63 : ∀ (u61 : (Ne × (Nat → Int32) × (Nat → Int32))) (ls : Array Slot) (H : Heap) (locs : List Loc), lv_has ls 16 [(0, .ref b), (1, .ref (G 2 0)), (2, .ref o1), (3, .ref o2), (5, .int x10)] → va_P D vwCl (lwW cI cS G o1 o2 (u61.1, u61.2.1, u61.2.2)) H → va_D A (lwW cI cS G o1 o2 (u61.1, u61.2.1, u61.2.2)) → va_S A s.heap H locs → J62 u61 → W p l e room_1 s m #[Value.ref b] below meth c H locs 70 943 Q (F0 m 355 ls []) := by
                            intro u61 ls H locs hl hP hD hS h
                            subst e64
                            refine lv_iconst (v := (1 : Int32)) hx hb dL_law_355 (by decide) ?_
                            refine lv_goto (tgt := 360) hx hb dL_law_356 (by decide) ?_
                            exact w46 (1 : Int32) (u61.1, u61.2.1, u61.2.2) _ _ _ bz1 hl hP hD hS h
                          clear e64
                          refine lv_icmp_ne (tgt := 355) hx hb dL_law_305 (by decide) (fun c65 => ?_) (fun c65 => ?_)
                          · replace h := h.1 c65
                            exact w63 (u38.1, u38.2.1, u38.2.2) _ _ _ (lv_sub hl [0, 1, 2, 3, 5] rfl) hP hD hS h
                          · replace h := h.2 c65
                            refine lv_aload_n hx hb dL_law_308 rfl (lv_at hl 1 rfl) ?_
                            refine roVi (As := []) (rest := []) F (c_X3_roads l D cI cS cJ G u38.1 H  h) (cw_L_15 hts (Nat.le_of_ble_eq_true rfl) (Nat.le_of_ble_eq_true rfl)) hK (vP_R hP) (recv (ci := 3) (k0 := 2) hK hP rfl rfl) rfl hl.1 rfl (Nat.le_of_ble_eq_true rfl) dL_law_309 ⟨(Nat.le_of_ble_eq_true rfl), (Nat.le_of_ble_eq_true rfl)⟩ (fun r66 h => ?_)
                            refine lv_if_eq (tgt := 355) hx hb dL_law_312 (by decide) (fun c67 => ?_) (fun c67 => ?_)
                            · replace h := h.1 c67
                              exact w63 (u38.1, u38.2.1, u38.2.2) _ _ _ (lv_sub hl [0, 1, 2, 3, 5] rfl) hP hD hS h
                            · replace h := h.2 c67
                              refine lv_aload_n hx hb dL_law_315 rfl (lv_at hl 1 rfl) ?_
                              refine lv_iload hx hb dL_law_316 (lv_at hl 7 rfl) ?_
                              refine lv_iconst (v := (5 : Int32)) hx hb dL_law_318 (by decide) ?_
                              refine lv_ishr hx hb dL_law_319 ?_
                              refine lv_aload_n hx hb dL_law_320 rfl (lv_at hl 1 rfl) ?_
                              refine roVi (As := []) (rest := [.int ((cellV xs L j19) >>> ((5 : Int32) &&& 31)), .ref (G 2 0)]) F (c_X3_roads l D cI cS cJ G u38.1 H  h) (cw_L_15 hts (Nat.le_of_ble_eq_true rfl) (Nat.le_of_ble_eq_true rfl)) hK (vP_R hP) (recv (ci := 3) (k0 := 2) hK hP rfl rfl) rfl hl.1 rfl (Nat.le_of_ble_eq_true rfl) dL_law_321 ⟨(Nat.le_of_ble_eq_true rfl), (Nat.le_of_ble_eq_true rfl)⟩ (fun r68 h => ?_)
                              refine roSi (As := [.int ((cellV xs L j19) >>> ((5 : Int32) &&& 31)), .int r68]) (rest := [.ref (G 2 0)]) F (c_L_up l D cI cS cJ H ((cellV xs L j19) >>> ((5 : Int32) &&& 31)) r68 h) (cw_L_9 hts (Nat.le_of_ble_eq_true rfl) (Nat.le_of_ble_eq_true rfl)) hK vP_nil rfl hl.1 rfl (Nat.le_of_ble_eq_true rfl) dL_law_324 ⟨(Nat.le_of_ble_eq_true rfl), (Nat.le_of_ble_eq_true rfl)⟩ (fun r69 h => ?_)
                              refine lv_iload hx hb dL_law_327 (lv_at hl 6 rfl) ?_
                              refine lv_bipush (v := (6 : Int32)) hx hb dL_law_329 (by decide) ?_
                              refine lv_ishr hx hb dL_law_331 ?_
                              refine lv_sipush (v := (10000 : Int32)) hx hb dL_law_332 (by decide) ?_
                              refine roSi (As := [.int ((cellV xs L j16) >>> ((6 : Int32) &&& 31)), .int (10000 : Int32)]) (rest := [.int r69, .ref (G 2 0)]) F (c_L_up l D cI cS cJ H ((cellV xs L j16) >>> ((6 : Int32) &&& 31)) (10000 : Int32) h) (cw_L_9 hts (Nat.le_of_ble_eq_true rfl) (Nat.le_of_ble_eq_true rfl)) hK vP_nil rfl hl.1 rfl (Nat.le_of_ble_eq_true rfl) dL_law_335 ⟨(Nat.le_of_ble_eq_true rfl), (Nat.le_of_ble_eq_true rfl)⟩ (fun r70 h => ?_)
                              refine lv_iload hx hb dL_law_338 (lv_at hl 7 rfl) ?_
                              refine lv_bipush (v := (7 : Int32)) hx hb dL_law_340 (by decide) ?_
                              refine lv_ishr hx hb dL_law_342 ?_
                              refine lv_sipush (v := (10000 : Int32)) hx hb dL_law_343 (by decide) ?_
                              refine roSi (As := [.int ((cellV xs L j19) >>> ((7 : Int32) &&& 31)), .int (10000 : Int32)]) (rest := [.int r70, .int r69, .ref (G 2 0)]) F (c_L_up l D cI cS cJ H ((cellV xs L j19) >>> ((7 : Int32) &&& 31)) (10000 : Int32) h) (cw_L_9 hts (Nat.le_of_ble_eq_true rfl) (Nat.le_of_ble_eq_true rfl)) hK vP_nil rfl hl.1 rfl (Nat.le_of_ble_eq_true rfl) dL_law_346 ⟨(Nat.le_of_ble_eq_true rfl), (Nat.le_of_ble_eq_true rfl)⟩ (fun r71 h => ?_)
                              refine rwSi (wr := [(o1, .inl (cI, 4, .inl u38.2.1)), (o2, .inl (cI, 4, .inl u38.2.2))]) (As := [.ref (G 2 0), .int r69, .int r70, .int r71]) (rest := []) List.perm_append_comm F (c_L_isBrought l D cI cS cJ G u38.1 H.size r69 r70 r71 h) (cw_L_130 hts (Nat.le_of_ble_eq_true rfl) (Nat.le_of_ble_eq_true rfl)) hK hP hD hS hA rfl hl.1 rfl (Nat.le_of_ble_eq_true rfl) dL_law_349 ⟨(Nat.le_of_ble_eq_true rfl), (Nat.le_of_ble_eq_true rfl)⟩ (fun r72 u74 H locs h hP hD hS => ?_)
                              obtain ⟨b73, h⟩ := h
                              have hP : va_P D vwCl (lwW cI cS G o1 o2 (u74, u38.2.1, u38.2.2)) H := vP_perm List.perm_append_comm hP
                              have hD : va_D A (lwW cI cS G o1 o2 (u74, u38.2.1, u38.2.2)) := vD_perm List.perm_append_comm hD
                              refine lv_if_eq (tgt := 359) hx hb dL_law_352 (by decide) (fun c75 => ?_) (fun c75 => ?_)
                              · replace h := h.1 c75
                                exact w50 (u74, u38.2.1, u38.2.2) _ _ _ (lv_sub hl [0, 1, 2, 3, 5] rfl) hP hD hS h
                              · replace h := h.2 c75
                                exact w63 (u74, u38.2.1, u38.2.2) _ _ _ (lv_sub hl [0, 1, 2, 3, 5] rfl) hP hD hS h
                  clear e41
                  refine lv_if_eq (tgt := 262) hx hb dL_law_162 (by decide) (fun c76 => ?_) (fun c76 => ?_)
                  · replace h := h.1 c76
                    exact w40 x31 (u30.1, u30.2, u25.2.2) _ _ _ b32 (lv_sub hl [1, 2, 3, 4, 0, 5, 6, 7] rfl) hP hD hS h
                  · replace h := h.2 c76
                    refine lv_iload hx hb dL_law_165 (lv_at hl 6 rfl) ?_
                    refine lv_bipush (v := (8 : Int32)) hx hb dL_law_167 (by decide) ?_
                    refine lv_ishr hx hb dL_law_169 ?_
                    refine lv_iconst (v := (3 : Int32)) hx hb dL_law_170 (by decide) ?_
                    refine lv_iand hx hb dL_law_171 ?_
                    refine lv_if_ne (tgt := 262) hx hb dL_law_172 (by decide) (fun c77 => ?_) (fun c77 => ?_)
                    · replace h := h.1 c77
                      exact w40 x31 (u30.1, u30.2, u25.2.2) _ _ _ b32 (lv_sub hl [1, 2, 3, 4, 0, 5, 6, 7] rfl) hP hD hS h
                    · replace h := h.2 c77
                      refine lv_aload_n hx hb dL_law_175 rfl (lv_at hl 2 rfl) ?_
                      refine roVl (As := []) (rest := []) F (c_X3_digest l D cI cS cJ G u30.1 H  h) (cw_L_91 hts (Nat.le_of_ble_eq_true rfl) (Nat.le_of_ble_eq_true rfl)) hK (vP_R hP) (recv (ci := 3) (k0 := 2) hK hP rfl rfl) rfl hl.1 rfl (Nat.le_of_ble_eq_true rfl) dL_law_176 ⟨(Nat.le_of_ble_eq_true rfl), (Nat.le_of_ble_eq_true rfl)⟩ (fun r78 h => ?_)
                      refine lv_lstore (lv' := [(12, .long r78), (4, .int x31), (0, .ref b), (1, .ref (G 2 0)), (2, .ref o1), (3, .ref o2), (5, .int x10), (6, .int (cellV xs L j16)), (7, .int (cellV xs L j19)), (8, .long r22), (11, .int r29)]) hx hb dL_law_179 hl (by decide) rfl (fun ls hl => ?_)
                      refine lv_aload_n hx hb dL_law_181 rfl (lv_at hl 3 rfl) ?_
                      refine roVi (As := []) (rest := []) F (c_X3_savedStates l D cI cS cJ G u30.1 H  h) (cw_L_119 hts (Nat.le_of_ble_eq_true rfl) (Nat.le_of_ble_eq_true rfl)) hK (vP_R hP) (recv (ci := 3) (k0 := 2) hK hP rfl rfl) rfl hl.1 rfl (Nat.le_of_ble_eq_true rfl) dL_law_182 ⟨(Nat.le_of_ble_eq_true rfl), (Nat.le_of_ble_eq_true rfl)⟩ (fun r79 h => ?_)
                      refine lv_iconst (v := (1 : Int32)) hx hb dL_law_185 (by decide) ?_
                      refine lv_isub hx hb dL_law_186 ?_
                      refine lv_istore (lv' := [(14, .int (r79 - (1 : Int32))), (12, .long r78), (4, .int x31), (0, .ref b), (1, .ref (G 2 0)), (2, .ref o1), (3, .ref o2), (5, .int x10), (6, .int (cellV xs L j16)), (7, .int (cellV xs L j19)), (8, .long r22), (11, .int r29)]) hx hb dL_law_187 hl (by decide) rfl (fun ls hl => ?_)
                      refine lv_iconst (v := (0 : Int32)) hx hb dL_law_189 (by decide) ?_
                      refine lv_istore (lv' := [(15, .int (0 : Int32)), (14, .int (r79 - (1 : Int32))), (12, .long r78), (4, .int x31), (0, .ref b), (1, .ref (G 2 0)), (2, .ref o1), (3, .ref o2), (5, .int x10), (6, .int (cellV xs L j16)), (7, .int (cellV xs L j19)), (8, .long r22), (11, .int r29)]) hx hb dL_law_190 hl (by decide) rfl (fun ls hl => ?_)
                      refine lpu2 h (fun K82 : Int32 → (Ne × (Nat → Int32) × (Nat → Int32)) → Prop => ∀ (x80 : Int32) (u81 : (Ne × (Nat → Int32) × (Nat → Int32))) (ls : Array Slot) (H : Heap) (locs : List Loc), lv_has ls 16 [(0, .ref b), (1, .ref (G 2 0)), (2, .ref o1), (3, .ref o2), (5, .int x10), (6, .int (cellV xs L j16)), (7, .int (cellV xs L j19)), (8, .long r22), (11, .int r29), (12, .long r78), (14, .int (r79 - (1 : Int32))), (15, .int x80)] → va_P D vwCl (lwW cI cS G o1 o2 (u81.1, u81.2.1, u81.2.2)) H → va_D A (lwW cI cS G o1 o2 (u81.1, u81.2.1, u81.2.2)) → va_S A s.heap H locs → K82 x80 u81 → W p l e room_1 s m #[Value.ref b] below meth c H locs 70 943 Q (F0 m 192 ls [])) ?_ ?_ ?_
                      · intro x80 u81 ls H locs hl hP hD hS h
                        exact h.elim
                      · intro K82
                        intro w83 x80 u81 ls H locs hl hP hD hS h
                        refine lv_iload hx hb dL_law_192 (lv_at hl 11 rfl) ?_
                        refine lv_iconst (v := (4 : Int32)) hx hb dL_law_194 (by decide) ?_
                        refine lv_icmp_ge (tgt := 212) hx hb dL_law_195 (by decide) (fun c84 => ?_) (fun c84 => ?_)
                        · replace h := h.1 c84
                          refine lv_aload_n hx hb dL_law_212 rfl (lv_at hl 1 rfl) ?_
                          refine rwVi (wr := [(o1, .inl (cI, 4, .inl u81.2.1)), (o2, .inl (cI, 4, .inl u81.2.2))]) (As := []) (rest := []) List.perm_append_comm F (c_X3_undo l D cI cS cJ G u81.1 H.size  h) (cw_L_101 hts (Nat.le_of_ble_eq_true rfl) (Nat.le_of_ble_eq_true rfl)) hK hP hD hS hA (recv (ci := 3) (k0 := 2) hK hP rfl rfl) rfl hl.1 rfl (Nat.le_of_ble_eq_true rfl) dL_law_213 ⟨(Nat.le_of_ble_eq_true rfl), (Nat.le_of_ble_eq_true rfl)⟩ (fun r85 u86 H locs h hP hD hS => ?_)
                          have hP : va_P D vwCl (lwW cI cS G o1 o2 (u86, u81.2.1, u81.2.2)) H := vP_perm List.perm_append_comm hP
                          have hD : va_D A (lwW cI cS G o1 o2 (u86, u81.2.1, u81.2.2)) := vD_perm List.perm_append_comm hD
                          refine lv_iload hx hb dL_law_216 (lv_at hl 10 rfl) ?_
                          refine jn_e h (fun J90 e92 h => ?_)
                          have w91 : ∀ (x87 : Int32) (u89 : (Ne × (Nat → Int32) × (Nat → Int32))) (ls : Array Slot) (H : Heap) (locs : List Loc), bz x87 → lv_has ls 16 [(0, .ref b), (1, .ref (G 2 0)), (2, .ref o1), (3, .ref o2), (5, .int x10), (6, .int (cellV xs L j16)), (7, .int (cellV xs L j19))] → va_P D vwCl (lwW cI cS G o1 o2 (u89.1, u89.2.1, u89.2.2)) H → va_D A (lwW cI cS G o1 o2 (u89.1, u89.2.1, u89.2.2)) → va_S A s.heap H locs → J90 x87 u89 → W p l e room_1 s m #[Value.ref b] below meth c H locs 70 943 Q (F0 m 260 ls [.int x87]) := by
                            intro x87 u89 ls H locs b88 hl hP hD hS h
                            subst e92
                            refine lv_istore (lv' := [(4, .int x87), (0, .ref b), (1, .ref (G 2 0)), (2, .ref o1), (3, .ref o2), (5, .int x10), (6, .int (cellV xs L j16)), (7, .int (cellV xs L j19))]) hx hb dL_law_260 hl (by decide) rfl (fun ls hl => ?_)
                            exact w40 x87 (u89.1, u89.2.1, u89.2.2) _ _ _ b88 (lv_sub hl [1, 2, 3, 4, 0, 5, 6, 7] rfl) hP hD hS h
                          clear e92
                          refine jn_e h (fun J94 e96 h => ?_)
                          have w95 : ∀ (u93 : (Ne × (Nat → Int32) × (Nat → Int32))) (ls : Array Slot) (H : Heap) (locs : List Loc), lv_has ls 16 [(0, .ref b), (1, .ref (G 2 0)), (2, .ref o1), (3, .ref o2), (5, .int x10), (6, .int (cellV xs L j16)), (7, .int (cellV xs L j19))] → va_P D vwCl (lwW cI cS G o1 o2 (u93.1, u93.2.1, u93.2.2)) H → va_D A (lwW cI cS G o1 o2 (u93.1, u93.2.1, u93.2.2)) → va_S A s.heap H locs → J94 u93 → W p l e room_1 s m #[Value.ref b] below meth c H locs 70 943 Q (F0 m 259 ls []) := by
                            intro u93 ls H locs hl hP hD hS h
                            subst e96
                            refine lv_iconst (v := (0 : Int32)) hx hb dL_law_259 (by decide) ?_
                            exact w91 (0 : Int32) (u93.1, u93.2.1, u93.2.2) _ _ _ bz0 hl hP hD hS h
                          clear e96
                          refine lv_icmp_ne (tgt := 259) hx hb dL_law_218 (by decide) (fun c97 => ?_) (fun c97 => ?_)
                          · replace h := h.1 c97
                            exact w95 (u86, u81.2.1, u81.2.2) _ _ _ (lv_sub hl [0, 1, 2, 3, 4, 5, 6] rfl) hP hD hS h
                          · replace h := h.2 c97
                            refine lv_aload_n hx hb dL_law_221 rfl (lv_at hl 1 rfl) ?_
                            refine roVl (As := []) (rest := []) F (c_X3_digest l D cI cS cJ G u86 H  h) (cw_L_91 hts (Nat.le_of_ble_eq_true rfl) (Nat.le_of_ble_eq_true rfl)) hK (vP_R hP) (recv (ci := 3) (k0 := 2) hK hP rfl rfl) rfl hl.1 rfl (Nat.le_of_ble_eq_true rfl) dL_law_222 ⟨(Nat.le_of_ble_eq_true rfl), (Nat.le_of_ble_eq_true rfl)⟩ (fun r98 h => ?_)
                            refine lv_lload hx hb dL_law_225 (lv_at hl 7 rfl) ?_
                            refine W.lcmp hx hb dL_law_227 ?_
                            refine lv_if_ne (tgt := 259) hx hb dL_law_228 (by decide) (fun c99 => ?_) (fun c99 => ?_)
                            · replace h := h.1 c99
                              exact w95 (u86, u81.2.1, u81.2.2) _ _ _ (lv_sub hl [0, 1, 2, 3, 4, 5, 6] rfl) hP hD hS h
                            · replace h := h.2 c99
                              refine lv_aload_n hx hb dL_law_231 rfl (lv_at hl 1 rfl) ?_
                              refine lv_aload_n hx hb dL_law_232 rfl (lv_at hl 2 rfl) ?_
                              refine lv_iload hx hb dL_law_233 (lv_at hl 5 rfl) ?_
                              refine lv_iload hx hb dL_law_235 (lv_at hl 6 rfl) ?_
                              refine rwSi (wr := [(o2, .inl (cI, 4, .inl u81.2.2))]) (As := [.ref (G 2 0), .ref o1, .int (cellV xs L j16), .int (cellV xs L j19)]) (rest := []) lwH_f F (c_L_act l D cI cS cJ G o1 (u86, u81.2.1) H.size (cellV xs L j16) (cellV xs L j19) h) (cw_L_122 hts (Nat.le_of_ble_eq_true rfl) (Nat.le_of_ble_eq_true rfl)) hK hP hD hS hA rfl hl.1 rfl (Nat.le_of_ble_eq_true rfl) dL_law_237 ⟨(Nat.le_of_ble_eq_true rfl), (Nat.le_of_ble_eq_true rfl)⟩ (fun r100 u101 H locs h hP hD hS => ?_)
                              have hP : va_P D vwCl (lwW cI cS G o1 o2 (u101.1, u101.2, u81.2.2)) H := vP_perm lwH_b hP
                              have hD : va_D A (lwW cI cS G o1 o2 (u101.1, u101.2, u81.2.2)) := vD_perm lwH_b hD
                              refine lv_iload hx hb dL_law_240 (lv_at hl 8 rfl) ?_
                              refine lv_icmp_ne (tgt := 259) hx hb dL_law_242 (by decide) (fun c102 => ?_) (fun c102 => ?_)
                              · replace h := h.1 c102
                                exact w95 (u101.1, u101.2, u81.2.2) _ _ _ (lv_sub hl [0, 1, 2, 3, 4, 5, 6] rfl) hP hD hS h
                              · replace h := h.2 c102
                                refine lv_aload_n hx hb dL_law_245 rfl (lv_at hl 1 rfl) ?_
                                refine roVl (As := []) (rest := []) F (c_X3_digest l D cI cS cJ G u101.1 H  h) (cw_L_91 hts (Nat.le_of_ble_eq_true rfl) (Nat.le_of_ble_eq_true rfl)) hK (vP_R hP) (recv (ci := 3) (k0 := 2) hK hP rfl rfl) rfl hl.1 rfl (Nat.le_of_ble_eq_true rfl) dL_law_246 ⟨(Nat.le_of_ble_eq_true rfl), (Nat.le_of_ble_eq_true rfl)⟩ (fun r103 h => ?_)
                                refine lv_lload hx hb dL_law_249 (lv_at hl 9 rfl) ?_
                                refine W.lcmp hx hb dL_law_251 ?_
                                refine lv_if_ne (tgt := 259) hx hb dL_law_252 (by decide) (fun c104 => ?_) (fun c104 => ?_)
                                · replace h := h.1 c104
                                  exact w95 (u101.1, u101.2, u81.2.2) _ _ _ (lv_sub hl [0, 1, 2, 3, 4, 5, 6] rfl) hP hD hS h
                                · replace h := h.2 c104
                                  refine lv_iconst (v := (1 : Int32)) hx hb dL_law_255 (by decide) ?_
                                  refine lv_goto (tgt := 260) hx hb dL_law_256 (by decide) ?_
                                  exact w91 (1 : Int32) (u101.1, u101.2, u81.2.2) _ _ _ bz1 (lv_sub hl [0, 1, 2, 3, 4, 5, 6] rfl) hP hD hS h
                        · replace h := h.2 c84
                          refine lv_aload_n hx hb dL_law_198 rfl (lv_at hl 2 rfl) ?_
                          refine lv_iload hx hb dL_law_199 (lv_at hl 11 rfl) ?_
                          refine lv_aload_n hx hb dL_law_201 rfl (lv_at hl 3 rfl) ?_
                          refine lv_iload hx hb dL_law_202 (lv_at hl 11 rfl) ?_
                          refine va_iald hx hb hK.k hP 1 0 rfl rfl h.1 dL_law_204 ?_
                          replace h := h.2
                          refine va_iast hx hb hK.k hP hD hS 0 0 rfl rfl h.1 dL_law_205 (fun H locs hP hD hS => ?_)
                          replace h := h.2
                          have hP : va_P D vwCl (lwW cI cS G o1 o2 (u81.1, (upd u81.2.1 (Int32.toNatClampNeg x80) (u81.2.2 (Int32.toNatClampNeg x80))), u81.2.2)) H := hP
                          have hD : va_D A (lwW cI cS G o1 o2 (u81.1, (upd u81.2.1 (Int32.toNatClampNeg x80) (u81.2.2 (Int32.toNatClampNeg x80))), u81.2.2)) := hD
                          refine lv_iinc (v := (x80 + 1)) (lv' := [(15, .int (x80 + 1)), (0, .ref b), (1, .ref (G 2 0)), (2, .ref o1), (3, .ref o2), (5, .int x10), (6, .int (cellV xs L j16)), (7, .int (cellV xs L j19)), (8, .long r22), (11, .int r29), (12, .long r78), (14, .int (r79 - (1 : Int32)))]) hx hb dL_law_206 hl (k := 11) rfl rfl (by decide) rfl (fun ls hl => ?_)
                          refine lv_goto (tgt := 192) hx hb dL_law_209 (by decide) ?_
                          exact w83 (x80 + 1) (u81.1, (upd u81.2.1 (Int32.toNatClampNeg x80) (u81.2.2 (Int32.toNatClampNeg x80))), u81.2.2) _ _ _ (lv_sub hl [1, 2, 3, 4, 5, 6, 7, 8, 9, 10, 11, 0] rfl) hP hD hS h
                      · intro K82 w83 h
                        exact w83 (0 : Int32) (u30.1, u30.2, u25.2.2) _ _ _ (lv_sub hl [4, 5, 6, 7, 8, 9, 10, 11, 12, 2, 1, 0] rfl) hP hD hS h
                clear e35
                refine jn_e h (fun J105 e107 h => ?_)
                have w106 : ∀  (ls : Array Slot) (H : Heap) (locs : List Loc), lv_has ls 16 [(0, .ref b), (1, .ref (G 2 0)), (2, .ref o1), (3, .ref o2), (5, .int x10), (6, .int (cellV xs L j16)), (7, .int (cellV xs L j19)), (8, .long r22), (11, .int r29)] → va_P D vwCl (lwW cI cS G o1 o2 (u30.1, u30.2, u25.2.2)) H → va_D A (lwW cI cS G o1 o2 (u30.1, u30.2, u25.2.2)) → va_S A s.heap H locs → J105 → W p l e room_1 s m #[Value.ref b] below meth c H locs 70 943 Q (F0 m 157 ls []) := by
                  intro ls H locs hl hP hD hS h
                  subst e107
                  refine lv_iconst (v := (0 : Int32)) hx hb dL_law_157 (by decide) ?_
                  exact w34 (0 : Int32) _ _ _ bz0 hl hP hD hS h
                clear e107
                refine lv_if_lt (tgt := 157) hx hb dL_law_127 (by decide) (fun c108 => ?_) (fun c108 => ?_)
                · replace h := h.1 c108
                  exact w106 _ _ _ (lv_sub hl [1, 2, 3, 4, 5, 6, 7, 8, 0] rfl) hP hD hS h
                · replace h := h.2 c108
                  refine lv_aload_n hx hb dL_law_130 rfl (lv_at hl 2 rfl) ?_
                  refine roVi (As := []) (rest := []) F (c_X3_savedStates l D cI cS cJ G u30.1 H  h) (cw_L_119 hts (Nat.le_of_ble_eq_true rfl) (Nat.le_of_ble_eq_true rfl)) hK (vP_R hP) (recv (ci := 3) (k0 := 2) hK hP rfl rfl) rfl hl.1 rfl (Nat.le_of_ble_eq_true rfl) dL_law_131 ⟨(Nat.le_of_ble_eq_true rfl), (Nat.le_of_ble_eq_true rfl)⟩ (fun r109 h => ?_)
                  refine lv_iload hx hb dL_law_134 (lv_at hl 9 rfl) ?_
                  refine lv_bipush (v := (6 : Int32)) hx hb dL_law_136 (by decide) ?_
                  refine jn_e h (fun J111 e113 h => ?_)
                  have w112 : ∀ (x110 : Int32) (ls : Array Slot) (H : Heap) (locs : List Loc), lv_has ls 16 [(0, .ref b), (1, .ref (G 2 0)), (2, .ref o1), (3, .ref o2), (5, .int x10), (6, .int (cellV xs L j16)), (7, .int (cellV xs L j19)), (8, .long r22), (11, .int r29)] → va_P D vwCl (lwW cI cS G o1 o2 (u30.1, u30.2, u25.2.2)) H → va_D A (lwW cI cS G o1 o2 (u30.1, u30.2, u25.2.2)) → va_S A s.heap H locs → J111 x110 → W p l e room_1 s m #[Value.ref b] below meth c H locs 70 943 Q (F0 m 150 ls [.int x110, .int r109]) := by
                    intro x110 ls H locs hl hP hD hS h
                    subst e113
                    refine lv_icmp_ne (tgt := 157) hx hb dL_law_150 (by decide) (fun c114 => ?_) (fun c114 => ?_)
                    · replace h := h.1 c114
                      exact w106 _ _ _ hl hP hD hS h
                    · replace h := h.2 c114
                      refine lv_iconst (v := (1 : Int32)) hx hb dL_law_153 (by decide) ?_
                      refine lv_goto (tgt := 158) hx hb dL_law_154 (by decide) ?_
                      exact w34 (1 : Int32) _ _ _ bz1 hl hP hD hS h
                  clear e113
                  refine lv_icmp_ge (tgt := 148) hx hb dL_law_138 (by decide) (fun c115 => ?_) (fun c115 => ?_)
                  · replace h := h.1 c115
                    refine lv_bipush (v := (6 : Int32)) hx hb dL_law_148 (by decide) ?_
                    exact w112 (6 : Int32) _ _ _ (lv_sub hl [1, 2, 3, 4, 5, 6, 7, 8, 0] rfl) hP hD hS h
                  · replace h := h.2 c115
                    refine lv_iload hx hb dL_law_141 (lv_at hl 9 rfl) ?_
                    refine lv_iconst (v := (1 : Int32)) hx hb dL_law_143 (by decide) ?_
                    refine lv_iadd hx hb dL_law_144 ?_
                    refine lv_goto (tgt := 150) hx hb dL_law_145 (by decide) ?_
                    exact w112 (r23 + (1 : Int32)) _ _ _ (lv_sub hl [1, 2, 3, 4, 5, 6, 7, 8, 0] rfl) hP hD hS h
              · replace h := h.2 c28
                refine lv_aload_n hx hb dL_law_100 rfl (lv_at hl 3 rfl) ?_
                refine lv_iload hx hb dL_law_101 (lv_at hl 9 rfl) ?_
                refine lv_aload_n hx hb dL_law_103 rfl (lv_at hl 2 rfl) ?_
                refine lv_iload hx hb dL_law_104 (lv_at hl 9 rfl) ?_
                refine va_iald hx hb hK.k hP 0 0 rfl rfl h.1 dL_law_106 ?_
                replace h := h.2
                refine va_iast hx hb hK.k hP hD hS 1 0 rfl rfl h.1 dL_law_107 (fun H locs hP hD hS => ?_)
                replace h := h.2
                have hP : va_P D vwCl (lwW cI cS G o1 o2 (u25.1, u25.2.1, (upd u25.2.2 (Int32.toNatClampNeg x24) (u25.2.1 (Int32.toNatClampNeg x24))))) H := hP
                have hD : va_D A (lwW cI cS G o1 o2 (u25.1, u25.2.1, (upd u25.2.2 (Int32.toNatClampNeg x24) (u25.2.1 (Int32.toNatClampNeg x24))))) := hD
                refine lv_iinc (v := (x24 + 1)) (lv' := [(11, .int (x24 + 1)), (0, .ref b), (1, .ref (G 2 0)), (2, .ref o1), (3, .ref o2), (5, .int x10), (6, .int (cellV xs L j16)), (7, .int (cellV xs L j19)), (8, .long r22), (10, .int r23)]) hx hb dL_law_108 hl (k := 9) rfl rfl (by decide) rfl (fun ls hl => ?_)
                refine lv_goto (tgt := 94) hx hb dL_law_111 (by decide) ?_
                exact w27 (x24 + 1) (u25.1, u25.2.1, (upd u25.2.2 (Int32.toNatClampNeg x24) (u25.2.1 (Int32.toNatClampNeg x24)))) _ _ _ (lv_sub hl [1, 2, 3, 4, 5, 6, 7, 8, 9, 0] rfl) hP hD hS h
            · intro K26 w27 h
              exact w27 (0 : Int32) (u11.1, u11.2.1, u11.2.2) _ _ _ (lv_sub hl [5, 6, 7, 8, 10, 4, 3, 2, 1, 0] rfl) hP hD hS h
      · intro K12 w13 h
        exact w13 r1 (0 : Int32) (u4.1, u4.2.1, u4.2.2) _ _ _ b2 (lv_sub hl [1, 2, 3, 4, 5, 0] rfl) hP hD hS h
    · replace h := h.2 c7
      refine lv_aload_n hx hb dL_law_31 rfl (lv_at hl 2 rfl) ?_
      refine lv_iload hx hb dL_law_32 (lv_at hl 5 rfl) ?_
      refine lv_iconst (v := (-1 : Int32)) hx hb dL_law_34 (by decide) ?_
      refine va_iast hx hb hK.k hP hD hS 0 0 rfl rfl h.1 dL_law_35 (fun H locs hP hD hS => ?_)
      replace h := h.2
      have hP : va_P D vwCl (lwW cI cS G o1 o2 (u4.1, (upd u4.2.1 (Int32.toNatClampNeg x3) (-1 : Int32)), u4.2.2)) H := hP
      have hD : va_D A (lwW cI cS G o1 o2 (u4.1, (upd u4.2.1 (Int32.toNatClampNeg x3) (-1 : Int32)), u4.2.2)) := hD
      refine lv_iinc (v := (x3 + 1)) (lv' := [(5, .int (x3 + 1)), (0, .ref b), (1, .ref (G 2 0)), (2, .ref o1), (3, .ref o2), (4, .int r1)]) hx hb dL_law_36 hl (k := 5) rfl rfl (by decide) rfl (fun ls hl => ?_)
      refine lv_goto (tgt := 25) hx hb dL_law_39 (by decide) ?_
      exact w6 (x3 + 1) (u4.1, (upd u4.2.1 (Int32.toNatClampNeg x3) (-1 : Int32)), u4.2.2) _ _ _ (lv_sub hl [1, 2, 3, 4, 5, 0] rfl) hP hD hS h
  · intro K5 w6 h
    exact w6 (0 : Int32) (N, f, k) _ _ _ (lv_sub hl [2, 3, 4, 5, 1, 0] rfl) hP hD hS h
