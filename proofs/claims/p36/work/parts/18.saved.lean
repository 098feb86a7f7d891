/-! SavedStates: one of its States beside the others -/
theorem kW_f {cI cS : ClassId} {G : Nat → Nat → Nat} (q : Sv × St) {k : Nat} (hk : k < 6) : ∃ wr, (kW cI cS G q).Perm ((stW cI (G (3 + k)) (V_slots q.1 k) ++ stW cI (G 0) q.2) ++ wr) ∧ ∀ x, ((stW cI (G (3 + k)) x ++ stW cI (G 0) q.2) ++ wr).Perm (kW cI cS G (sV_slots q.1 (va_up (V_slots q.1) k x), q.2)) := by
  obtain ⟨r, h1, h2⟩ := fam_f (cI := cI) (A := fun k => G (3 + k)) (S := V_slots q.1) 6 k hk
  have key : ∀ (a b c d : List (Nat × va_E)), (a ++ (b ++ (c ++ d))).Perm ((c ++ a) ++ (b ++ d)) := fun a b c d =>
    (List.Perm.append_left a (pm1 b c d)).trans (by rw [List.append_assoc c a]; exact pm1 a c (b ++ d))
  refine ⟨[(G 2 1, .inr (1, [.ref (G 2 2), .int (V_next q.1), .int (V_size q.1)])), (G 2 2, .inl (cS, 6, .inr (.inr (.inr (.inr (slF (fun k => G (3 + k)) 6))))))] ++ r, ?_, fun x => ?_⟩
  · exact (List.Perm.append_left _ (List.Perm.append_left _ h1)).trans (key _ _ _ _)
  · exact (key _ _ _ _).symm.trans (List.Perm.append_left _ (List.Perm.append_left _ (h2 x)))
theorem kW_g {cI cS : ClassId} {G : Nat → Nat → Nat} (q : Sv × St) {k : Nat} (hk : k < 6) : ∃ wr, (kW cI cS G q).Perm ((stW cI (G 0) q.2 ++ stW cI (G (3 + k)) (V_slots q.1 k)) ++ wr) ∧ ∀ x, ((stW cI (G 0) x ++ stW cI (G (3 + k)) (V_slots q.1 k)) ++ wr).Perm (kW cI cS G (q.1, x)) := by
  obtain ⟨r, h1, h2⟩ := fam_f (cI := cI) (A := fun k => G (3 + k)) (S := V_slots q.1) 6 k hk
  have key : ∀ (a b c d : List (Nat × va_E)), (a ++ (b ++ (c ++ d))).Perm ((a ++ c) ++ (b ++ d)) := fun a b c d => by
    rw [List.append_assoc a c]
    exact List.Perm.append_left a (pm1 b c d)
  refine ⟨[(G 2 1, .inr (1, [.ref (G 2 2), .int (V_next q.1), .int (V_size q.1)])), (G 2 2, .inl (cS, 6, .inr (.inr (.inr (.inr (slF (fun k => G (3 + k)) 6))))))] ++ r, ?_, fun x => ?_⟩
  · exact (List.Perm.append_left _ (List.Perm.append_left _ h1)).trans (key _ _ _ _)
  · exact (key _ _ _ _).symm.trans (List.Perm.append_left _ (List.Perm.append_left _ h1.symm))
section
variable {p : Program} {l : Launch} {e : Env} {R : Room} {s : State} {m : MethodId} {args : Array Value} {below : List Frame} {meth : Method} {c : Code} {H : Heap} {locs : List Loc} {cells slots : Nat} {Q : State → Prop} {D : va_G} {T : List (ClassId × FieldType)} {wc : va_W} {pc : Nat} {ls : Array Slot} {rest st0 : List Value}
variable {y : MethodName} {bytes cc : ByteArray} {maxL nL n index : Nat} {ret : Option FieldType} {rm : Room} {own C : String} {b : Addr} {As : List Value} {W9 : List Cond} {v : Value}
/-- a call that changes nothing and answers the reference v -/
theorem roVr (F : CallFix p m c cc nL s args wsT own) (hM : Met l y W9 rm (va_Pc (.ref b :: As) (roP D T wc H)) (fun _ _ oc t => oc = .returned (some v) ∧ t.heap = H) 0 0 nF) (cw : CallW R s args own C index y bytes maxL ret W9 rm 0 0 n)
    (hK : KK D T s) (hP : va_P D vwCl wc H) (hr : ∃ cell : Cell, H[b]? = some cell ∧ cell.vm.isStatics = false ∧ s.vm.findClass C = some cell.cls) (hn : As.length = n) (hsz : ls.size = nL) (hst : st0 = As.reverse ++ .ref b :: rest) (hW : (rest.map fun v => v.category).sum ≤ 8) (hdg : decode cc pc = .ok (.invokevirtual index, 3)) (hf : cells ≤ R.cells ∧ slots ≤ R.slots)
    (kk : W p l e R s m args below meth c H locs cells slots Q (F0 m (pc + 3) ls (v :: rest))) : W p l e R s m args below meth c H locs cells slots Q (F0 m pc ls st0) := by
  have hr := va_runV (p := p) (l := l) (e := e) (R := R) (s := s) (m := m) (args := args) (below := below) (meth := meth) (c := c) (H := H) (locs := locs) (cells := cells) (slots := slots) (g := F0 m pc ls st0) F hM cw ⟨blindRO, hr, (preRO hK hP).2⟩ rfl hn hsz hst (lv_room hW) hdg hf
  intro T hT X
  obtain ⟨w, st₀, t, T', L, h0, X', hL, e1, e2, ⟨hv, hb⟩, st⟩ := hr T hT X
  cases hv
  have hLn : L = [] := List.eq_nil_iff_forall_not_mem.mpr (fun q hq => hL q hq)
  subst hLn
  rw [List.append_nil, Nat.add_zero, Nat.add_zero] at X'
  obtain ⟨t2, a1, b1⟩ := kk T' (e1.trans hb) X'
  exact ⟨t2, st t2 a1, b1⟩
end
abbrev rm_X1_slotAt : Room := { frames := 0, cells := 0, slots := 0, locals := 0 }
abbrev rm_X1_keep : Room := { frames := 3, cells := 0, slots := 0, locals := 102 }
abbrev rm_X1_giveBack : Room := { frames := 3, cells := 0, slots := 0, locals := 102 }
theorem q_1 : Cond.selects RX1 yX1_slotAt yX1_slotAt ∈ wsT := tw 1 (by decide +kernel) rfl
theorem q_26 : Cond.initialized RX1 ∈ wsT := tw 26 (by decide +kernel) rfl
theorem q_109 : Cond.fieldLink RX1 11 "NestedEnvelopes$SavedStates" "slots" "[LNestedEnvelopes$State;" ∈ wsT := tw 109 (by decide +kernel) rfl
theorem q_110 : Cond.fieldLink RX1 18 "NestedEnvelopes$SavedStates" "next" "I" ∈ wsT := tw 110 (by decide +kernel) rfl
theorem q_111 : Cond.fieldLink RX1 30 "NestedEnvelopes$SavedStates" "size" "I" ∈ wsT := tw 111 (by decide +kernel) rfl
theorem q_222 : Cond.methodLink RX1 22 yX1_slotAt ∈ wsT := tw 222 (by decide +kernel) rfl
theorem q_224 : Cond.instanceMethod yX1_slotAt ∈ wsT := tw 224 (by decide +kernel) rfl
theorem q_225 : Cond.code yX1_slotAt cX1_slotAt 2 (some (.object RX2)) ∈ wsT := tw 225 (by decide +kernel) rfl
theorem q_226 : Cond.methodLink RX1 26 yX2_become ∈ wsT := tw 226 (by decide +kernel) rfl
theorem q_227 : Cond.instanceMethod yX2_become ∈ wsT := tw 227 (by decide +kernel) rfl
theorem q_228 : Cond.selects RX2 yX2_become yX2_become ∈ wsT := tw 228 (by decide +kernel) rfl
theorem q_229 : Cond.code yX2_become cX2_become 2 none ∈ wsT := tw 229 (by decide +kernel) rfl
theorem q_391 : Cond.methodLink RX1 33 yJ9_min_7cf53 ∈ wsT := tw 391 (by decide +kernel) rfl
theorem cw_X1_22 {R : Room} {s : State} {args : Array Value} (hts : ∀ w ∈ wsT, w.before args s = true) (hf : 0 + 1 ≤ R.frames) (hl : 8 + (2 + 11) + 0 ≤ R.locals) : CallW R s args RX1 RX1 22 yX1_slotAt cX1_slotAt 2 (some (.object RX2)) (wsA yX1_slotAt cX1_slotAt 2 (some (.object RX2))) rm_X1_slotAt 0 0 1 := cwAV 1 hts q_222 q_224 q_1 q_26 q_225 rfl rfl (by decide +kernel) ⟨hf, hl⟩
theorem cw_X1_26 {R : Room} {s : State} {args : Array Value} (hts : ∀ w ∈ wsT, w.before args s = true) (hf : 2 + 1 ≤ R.frames) (hl : 8 + (2 + 11) + 81 ≤ R.locals) : CallW R s args RX1 RX2 26 yX2_become cX2_become 2 none (wsA yX2_become cX2_become 2 none) rm_X2_become 0 0 1 := cwAV 1 hts q_226 q_227 q_228 q_24 q_229 rfl rfl (by decide +kernel) ⟨hf, hl⟩
theorem cw_X1_33 {R : Room} {s : State} {args : Array Value} (hts : ∀ w ∈ wsT, w.before args s = true) (hf : 0 + 1 ≤ R.frames) (hl : 8 + (2 + 11) + 0 ≤ R.locals) : CallB R s args RX1 33 yJ9_min_7cf53 cJ9_min_7cf53 2 (some .int) (wsA yJ9_min_7cf53 cJ9_min_7cf53 2 (some .int)) rm_J9_min_7cf53 0 0 2 ∧ (Cond.static yJ9_min_7cf53).before args s = true := cwAS 2 hts q_391 q_234 q_34 q_235 rfl rfl (by decide +kernel) ⟨hf, hl⟩
set_option maxHeartbeats 4000000 in
set_option maxRecDepth 100000 in
theorem c_X1_slotAt (l : Launch) (D : va_G) (cI cS cJ : ClassId) (G : Nat → Nat → Nat) (q : Sv × St) (H0 : Heap) (p1 : Int32) {k : Nat} (hk : k < 6) (he : p1 = nI k) : Met l yX1_slotAt (wsA yX1_slotAt cX1_slotAt 2 (some (.object RX2))) rm_X1_slotAt (va_Pc [.ref (G 2 1), .int p1] (roP D (tysA cI cS cJ) (kW cI cS G q) H0)) (fun _ _ oc t => oc = .returned (some (.ref (G (3 + k) 0))) ∧ t.heap = H0) 0 0 nF := by
  refine va_MetF (cc := cX1_slotAt) (maxL := 2) (ret := some (.object RX2)) (by decide +kernel) rfl ?_
  intro p e s m args below meth c s₁ B hml hv
  obtain ⟨rfl, hH, hP, hK⟩ := hv
  have hts : ∀ w ∈ wsT, w.before ([.ref (G 2 1), .int p1] : List Value).toArray s = true := fun w h => atoms_spec (ws := wsA yX1_slotAt cX1_slotAt 2 (some (.object RX2))) B.pre w (List.mem_cons_of_mem _ h)
  have hl := lv_entry [.ref (G 2 1), .int p1] (n := 2) (Nat.le_of_ble_eq_true rfl)
  rw [lg_entry_eq]
  subst hH
  have hx := B.exec
  have hb := B.bytes
  have hown : s.vm.findClass RX1 = some m.cls := findClass_of_methodNamed B.named
  have hl : lv_has _ 2 [(0, .ref (G 2 1)), (1, .int p1)] := hl
  subst he
  refine lv_iload_n hx hb dX1_slotAt_0 rfl (lv_at hl 1 rfl) ?_
  refine lv_if_lt (tgt := 22) hx hb dX1_slotAt_1 (by decide) (fun c1 => absurd c1 (nI_pos (by omega))) (fun _ => ?_)
  refine lv_iload_n hx hb dX1_slotAt_4 rfl (lv_at hl 1 rfl) ?_
  refine lv_aload_n hx hb dX1_slotAt_5 rfl (lv_at hl 0 rfl) ?_
  refine va_get (D := D) (ci := 1) (v := .ref (G 2 2)) (C := RX1) (T := TX1) (N := 3) hx hb hts inT1 hown hK.k hP 9 rfl rfl 0 (by decide) (hts _ q_109) (fun _ h9 => h9) rfl dX1_slotAt_6 ?_
  refine va_alen (v := nI 6) hx hb hK.k hP 10 1 rfl rfl rfl dX1_slotAt_9 ?_
  refine lv_icmp_ge (tgt := 22) hx hb dX1_slotAt_10 (by decide) (fun c1 => absurd c1 (nI_ge hk (by decide))) (fun _ => ?_)
  refine lv_aload_n hx hb dX1_slotAt_13 rfl (lv_at hl 0 rfl) ?_
  refine va_get (D := D) (ci := 1) (v := .ref (G 2 2)) (C := RX1) (T := TX1) (N := 3) hx hb hts inT1 hown hK.k hP 9 rfl rfl 0 (by decide) (hts _ q_109) (fun _ h9 => h9) rfl dX1_slotAt_14 ?_
  refine lv_iload_n hx hb dX1_slotAt_17 rfl (lv_at hl 1 rfl) ?_
  refine va_aldq hx hb hK.k hP 10 1 rfl rfl (vp_in_nI hk (by decide)) dX1_slotAt_18 ?_
  refine lv_goto (tgt := 23) hx hb dX1_slotAt_19 (by decide) ?_
  have e1 : va_rf (slF (fun k => G (3 + k)) 6 (nI k).toNatClampNeg) = .ref (G (3 + k) 0) := by rw [nI_clamp (by omega)]; simp [slF, hk, va_rf]
  exact W.aret hx hb B.returns (Or.inl ⟨_, rfl⟩) (Or.inr ⟨_, e1⟩) (fun t ht hW => ⟨by rw [e1], ht⟩) (fun q h => nomatch h) dX1_slotAt_23 B.notSynchronized
def wp_X1_keep (u : (Sv × St))  (post : (Sv × St) → Prop) : Prop :=
  ∃ k1 : Nat, k1 < 6 ∧ (V_next u.1) = nI k1 ∧ (wp_X2_become (V_slots u.1 k1) u.2 (fun x5 => jn (fun (x6 : Int32) => wp_J9_min_7cf53 ((V_size ((sV_next (sV_slots u.1 (va_up (V_slots u.1) k1 x5), u.2).1 x6, (sV_slots u.1 (va_up (V_slots u.1) k1 x5), u.2).2).1)) + (1 : Int32)) (6 : Int32) (fun r10 => post (sV_size (sV_next (sV_slots u.1 (va_up (V_slots u.1) k1 x5), u.2).1 x6, (sV_slots u.1 (va_up (V_slots u.1) k1 x5), u.2).2).1 r10, (sV_next (sV_slots u.1 (va_up (V_slots u.1) k1 x5), u.2).1 x6, (sV_slots u.1 (va_up (V_slots u.1) k1 x5), u.2).2).2))) (fun (J7 : Int32 → Prop) => ((6 : Int32) ≤ ((V_next ((sV_slots u.1 (va_up (V_slots u.1) k1 x5), u.2).1)) + (1 : Int32)) → J7 (0 : Int32)) ∧ (¬ (6 : Int32) ≤ ((V_next ((sV_slots u.1 (va_up (V_slots u.1) k1 x5), u.2).1)) + (1 : Int32)) → J7 ((V_next ((sV_slots u.1 (va_up (V_slots u.1) k1 x5), u.2).1)) + (1 : Int32))))))
set_option maxHeartbeats 4000000 in
set_option maxRecDepth 100000 in
theorem c_X1_keep (l : Launch) (D : va_G) (cI cS cJ : ClassId) (G : Nat → Nat → Nat) (u : (Sv × St)) (sz : Nat)  {post : (Sv × St) → Prop} (h : wp_X1_keep u post) : Met l yX1_keep (wsA yX1_keep cX1_keep 3 none) rm_X1_keep (va_Pc [.ref (G 2 1), .ref (G 0 0)] (rwP D (tysA cI cS cJ) (kW cI cS G u) sz)) (va_Qv post (fun u9 t => va_P D vwCl ((kW cI cS G) u9) t.heap ∧ va_D (va_A (kW cI cS G u) sz) ((kW cI cS G) u9)) (va_A (kW cI cS G u) sz)) 0 0 (va_A (kW cI cS G u) sz) := by
  refine mkRWv (wf := (kW cI cS G)) (by decide +kernel) (Nat.le_of_ble_eq_true rfl) (fun {p e s m args below meth c Q ls A H0 H locs} hx hb F hts hown hin hK hP hD hS hA hl hQ => ?_)
  have hown : s.vm.findClass RX1 = some m.cls := hown
  have F : CallFix p m c cX1_keep 3 s args wsT RX1 := F
  have hl : lv_has ls 3 [(0, .ref (G 2 1)), (1, .ref (G 0 0))] := hl
  unfold wp_X1_keep at h
  refine lv_aload_n hx hb dX1_keep_0 rfl (lv_at hl 0 rfl) ?_
  refine lv_aload_n hx hb dX1_keep_1 rfl (lv_at hl 0 rfl) ?_
  refine va_get (D := D) (ci := 1) (v := .int (V_next u.1)) (C := RX1) (T := TX1) (N := 3) hx hb hts inT1 hown hK.k hP 9 rfl rfl 1 (by decide) (hts _ q_110) (fun _ h9 => h9) rfl dX1_keep_2 ?_
  obtain ⟨k1, hk2, he3, h⟩ := h
  refine roVr (As := [.int (V_next u.1)]) (rest := []) F (c_X1_slotAt l D cI cS cJ G u H (V_next u.1) hk2 he3) (cw_X1_22 hts (Nat.le_of_ble_eq_true rfl) (Nat.le_of_ble_eq_true rfl)) hK hP (recv (ci := 1) (k0 := 9) hK hP rfl rfl) rfl hl.1 rfl (Nat.le_of_ble_eq_true rfl) dX1_keep_5 ⟨Nat.zero_le _, Nat.zero_le _⟩ ?_
  refine lv_astore_n (lv' := [(2, .ref (G (3 + k1) 0)), (0, .ref (G 2 1)), (1, .ref (G 0 0))]) hx hb dX1_keep_8 rfl hl (by decide) rfl (fun ls hl => ?_)
  refine lv_aload_n hx hb dX1_keep_9 rfl (lv_at hl 0 rfl) ?_
  refine lv_ifnull hx hb dX1_keep_10 ?_
  refine lv_aload_n hx hb dX1_keep_13 rfl (lv_at hl 0 rfl) ?_
  refine lv_aload_n hx hb dX1_keep_14 rfl (lv_at hl 2 rfl) ?_
  obtain ⟨wr, hp41, hp42⟩ := kW_f (cI := cI) (cS := cS) (G := G) u hk2
  refine rwVv (wr := wr) (wf := fun x9 => stW cI (G (3 + k1)) x9 ++ stW cI (G 0) u.2) (As := [.ref (G 0 0)]) (rest := []) hp41 F (c_X2_become l D cI cS cJ (G (3 + k1)) (V_slots u.1 k1) (G 0) u.2 H.size h) (cw_X1_26 hts (Nat.le_of_ble_eq_true rfl) (Nat.le_of_ble_eq_true rfl)) hK hP hD hS hA (recv (ci := 2) (k0 := 0) hK (vP_L (vP_perm hp41 hP)) rfl rfl) rfl hl.1 rfl (Nat.le_of_ble_eq_true rfl) dX1_keep_15 ⟨Nat.zero_le _, Nat.zero_le _⟩ (fun x5 H locs h hP hD hS => ?_)
  have hP : va_P D vwCl (kW cI cS G (sV_slots u.1 (va_up (V_slots u.1) k1 x5), u.2)) H := vP_perm (hp42 _) hP
  have hD : va_D A (kW cI cS G (sV_slots u.1 (va_up (V_slots u.1) k1 x5), u.2)) := vD_perm (hp42 _) hD
  refine lv_aload_n hx hb dX1_keep_18 rfl (lv_at hl 1 rfl) ?_
  refine lv_aload_n hx hb dX1_keep_19 rfl (lv_at hl 1 rfl) ?_
  refine va_get (D := D) (ci := 1) (v := .int (V_next ((sV_slots u.1 (va_up (V_slots u.1) k1 x5), u.2).1))) (C := RX1) (T := TX1) (N := 3) hx hb hts inT1 hown hK.k hP 9 rfl rfl 1 (by decide) (hts _ q_110) (fun _ h9 => h9) rfl dX1_keep_20 ?_
  refine lv_iconst (v := (1 : Int32)) hx hb dX1_keep_23 (by decide) ?_
  refine lv_iadd hx hb dX1_keep_24 ?_
  refine lv_bipush (v := (6 : Int32)) hx hb dX1_keep_25 (by decide) ?_
  refine jn_e h (fun J7 e9 h => ?_)
  have w8 : ∀ (x6 : Int32) (ls : Array Slot) (H : Heap) (locs : List Loc), lv_has ls 3 [(0, .ref (G 2 1))] → va_P D vwCl (kW cI cS G (sV_slots u.1 (va_up (V_slots u.1) k1 x5), u.2)) H → va_D A (kW cI cS G (sV_slots u.1 (va_up (V_slots u.1) k1 x5), u.2)) → va_S A H0 H locs → J7 x6 → W p l e rm_X1_keep s m args below meth c H locs 0 0 Q (F0 m 40 ls [.int x6, .ref (G 2 1)]) := by
    intro x6 ls H locs hl hP hD hS h
    subst e9
    refine va_put (D := D) (ci := 1) (v := .int x6) (ty := .int) (C := RX1) (T := TX1) (N := 3) hx hb hts inT1 tyX1 tyX1_ok nmX1 hown hK.k hP hD hS 9 rfl rfl 1 (by decide) (hts _ q_110) (fun _ h9 => h9) rfl (by decide +kernel) rfl rfl (Nat.le_of_ble_eq_true rfl) dX1_keep_40 (fun H locs hP hD hS => ?_)
    have hP : va_P D vwCl (kW cI cS G (sV_next (sV_slots u.1 (va_up (V_slots u.1) k1 x5), u.2).1 x6, (sV_slots u.1 (va_up (V_slots u.1) k1 x5), u.2).2)) H := hP
    have hD : va_D A (kW cI cS G (sV_next (sV_slots u.1 (va_up (V_slots u.1) k1 x5), u.2).1 x6, (sV_slots u.1 (va_up (V_slots u.1) k1 x5), u.2).2)) := hD
    refine lv_aload_n hx hb dX1_keep_43 rfl (lv_at hl 0 rfl) ?_
    refine lv_aload_n hx hb dX1_keep_44 rfl (lv_at hl 0 rfl) ?_
    refine va_get (D := D) (ci := 1) (v := .int (V_size ((sV_next (sV_slots u.1 (va_up (V_slots u.1) k1 x5), u.2).1 x6, (sV_slots u.1 (va_up (V_slots u.1) k1 x5), u.2).2).1))) (C := RX1) (T := TX1) (N := 3) hx hb hts inT1 hown hK.k hP 9 rfl rfl 2 (by decide) (hts _ q_111) (fun _ h9 => h9) rfl dX1_keep_45 ?_
    refine lv_iconst (v := (1 : Int32)) hx hb dX1_keep_48 (by decide) ?_
    refine lv_iadd hx hb dX1_keep_49 ?_
    refine lv_bipush (v := (6 : Int32)) hx hb dX1_keep_50 (by decide) ?_
    refine roSi (As := [.int ((V_size ((sV_next (sV_slots u.1 (va_up (V_slots u.1) k1 x5), u.2).1 x6, (sV_slots u.1 (va_up (V_slots u.1) k1 x5), u.2).2).1)) + (1 : Int32)), .int (6 : Int32)]) (rest := [.ref (G 2 1)]) F (c_J9_min_7cf53 l D cI cS cJ H ((V_size ((sV_next (sV_slots u.1 (va_up (V_slots u.1) k1 x5), u.2).1 x6, (sV_slots u.1 (va_up (V_slots u.1) k1 x5), u.2).2).1)) + (1 : Int32)) (6 : Int32) h) (cw_X1_33 hts (Nat.le_of_ble_eq_true rfl) (Nat.le_of_ble_eq_true rfl)) hK vP_nil rfl hl.1 rfl (Nat.le_of_ble_eq_true rfl) dX1_keep_52 ⟨Nat.zero_le _, Nat.zero_le _⟩ (fun r10 h => ?_)
    refine va_put (D := D) (ci := 1) (v := .int r10) (ty := .int) (C := RX1) (T := TX1) (N := 3) hx hb hts inT1 tyX1 tyX1_ok nmX1 hown hK.k hP hD hS 9 rfl rfl 2 (by decide) (hts _ q_111) (fun _ h9 => h9) rfl (by decide +kernel) rfl rfl (Nat.le_of_ble_eq_true rfl) dX1_keep_55 (fun H locs hP hD hS => ?_)
    have hP : va_P D vwCl (kW cI cS G (sV_size (sV_next (sV_slots u.1 (va_up (V_slots u.1) k1 x5), u.2).1 x6, (sV_slots u.1 (va_up (V_slots u.1) k1 x5), u.2).2).1 r10, (sV_next (sV_slots u.1 (va_up (V_slots u.1) k1 x5), u.2).1 x6, (sV_slots u.1 (va_up (V_slots u.1) k1 x5), u.2).2).2)) H := hP
    have hD : va_D A (kW cI cS G (sV_size (sV_next (sV_slots u.1 (va_up (V_slots u.1) k1 x5), u.2).1 x6, (sV_slots u.1 (va_up (V_slots u.1) k1 x5), u.2).2).1 r10, (sV_next (sV_slots u.1 (va_up (V_slots u.1) k1 x5), u.2).1 x6, (sV_slots u.1 (va_up (V_slots u.1) k1 x5), u.2).2).2)) := hD
    exact hQ h hP hD hS dX1_keep_58
  clear e9
  refine lv_icmp_ge (tgt := 39) hx hb dX1_keep_27 (by decide) (fun c11 => ?_) (fun c11 => ?_)
  · replace h := h.1 c11
    refine lv_iconst (v := (0 : Int32)) hx hb dX1_keep_39 (by decide) ?_
    exact w8 (0 : Int32) _ _ _ (lv_sub hl [1] rfl) hP hD hS h
  · replace h := h.2 c11
    refine lv_aload_n hx hb dX1_keep_30 rfl (lv_at hl 1 rfl) ?_
    refine va_get (D := D) (ci := 1) (v := .int (V_next ((sV_slots u.1 (va_up (V_slots u.1) k1 x5), u.2).1))) (C := RX1) (T := TX1) (N := 3) hx hb hts inT1 hown hK.k hP 9 rfl rfl 1 (by decide) (hts _ q_110) (fun _ h9 => h9) rfl dX1_keep_31 ?_
    refine lv_iconst (v := (1 : Int32)) hx hb dX1_keep_34 (by decide) ?_
    refine lv_iadd hx hb dX1_keep_35 ?_
    refine lv_goto (tgt := 40) hx hb dX1_keep_36 (by decide) ?_
    exact w8 ((V_next ((sV_slots u.1 (va_up (V_slots u.1) k1 x5), u.2).1)) + (1 : Int32)) _ _ _ (lv_sub hl [1] rfl) hP hD hS h

def wp_X1_giveBack (u : (Sv × St))  (post : (Sv × St) → Prop) : Prop :=
  jn (fun (x1 : Int32) => ∃ k5 : Nat, k5 < 6 ∧ (V_next ((sV_size (sV_next u.1 x1, u.2).1 ((V_size ((sV_next u.1 x1, u.2).1)) - (1 : Int32)), (sV_next u.1 x1, u.2).2).1)) = nI k5 ∧ (wp_X2_become (sV_size (sV_next u.1 x1, u.2).1 ((V_size ((sV_next u.1 x1, u.2).1)) - (1 : Int32)), (sV_next u.1 x1, u.2).2).2 (V_slots (sV_size (sV_next u.1 x1, u.2).1 ((V_size ((sV_next u.1 x1, u.2).1)) - (1 : Int32)), (sV_next u.1 x1, u.2).2).1 k5) (fun x9 => post ((sV_size (sV_next u.1 x1, u.2).1 ((V_size ((sV_next u.1 x1, u.2).1)) - (1 : Int32)), (sV_next u.1 x1, u.2).2).1, x9)))) (fun (J2 : Int32 → Prop) => ((V_next u.1) ≤ 0 → J2 (5 : Int32)) ∧ (¬ (V_next u.1) ≤ 0 → J2 ((V_next u.1) - (1 : Int32))))
set_option maxHeartbeats 4000000 in
set_option maxRecDepth 100000 in
theorem c_X1_giveBack (l : Launch) (D : va_G) (cI cS cJ : ClassId) (G : Nat → Nat → Nat) (u : (Sv × St)) (sz : Nat)  {post : (Sv × St) → Prop} (h : wp_X1_giveBack u post) : Met l yX1_giveBack (wsA yX1_giveBack cX1_giveBack 3 none) rm_X1_giveBack (va_Pc [.ref (G 2 1), .ref (G 0 0)] (rwP D (tysA cI cS cJ) (kW cI cS G u) sz)) (va_Qv post (fun u9 t => va_P D vwCl ((kW cI cS G) u9) t.heap ∧ va_D (va_A (kW cI cS G u) sz) ((kW cI cS G) u9)) (va_A (kW cI cS G u) sz)) 0 0 (va_A (kW cI cS G u) sz) := by
  refine mkRWv (wf := (kW cI cS G)) (by decide +kernel) (Nat.le_of_ble_eq_true rfl) (fun {p e s m args below meth c Q ls A H0 H locs} hx hb F hts hown hin hK hP hD hS hA hl hQ => ?_)
  have hown : s.vm.findClass RX1 = some m.cls := hown
  have F : CallFix p m c cX1_giveBack 3 s args wsT RX1 := F
  have hl : lv_has ls 3 [(0, .ref (G 2 1)), (1, .ref (G 0 0))] := hl
  unfold wp_X1_giveBack at h
  refine lv_aload_n hx hb dX1_giveBack_0 rfl (lv_at hl 0 rfl) ?_
  refine lv_aload_n hx hb dX1_giveBack_1 rfl (lv_at hl 0 rfl) ?_
  refine va_get (D := D) (ci := 1) (v := .int (V_next u.1)) (C := RX1) (T := TX1) (N := 3) hx hb hts inT1 hown hK.k hP 9 rfl rfl 1 (by decide) (hts _ q_110) (fun _ h9 => h9) rfl dX1_giveBack_2 ?_
  refine jn_e h (fun J2 e4 h => ?_)
  have w3 : ∀ (x1 : Int32) (ls : Array Slot) (H : Heap) (locs : List Loc), lv_has ls 3 [(0, .ref (G 2 1)), (1, .ref (G 0 0))] → va_P D vwCl (kW cI cS G u) H → va_D A (kW cI cS G u) → va_S A H0 H locs → J2 x1 → W p l e rm_X1_giveBack s m args below meth c H locs 0 0 Q (F0 m 18 ls [.int x1, .ref (G 2 1)]) := by
    intro x1 ls H locs hl hP hD hS h
    subst e4
    refine va_put (D := D) (ci := 1) (v := .int x1) (ty := .int) (C := RX1) (T := TX1) (N := 3) hx hb hts inT1 tyX1 tyX1_ok nmX1 hown hK.k hP hD hS 9 rfl rfl 1 (by decide) (hts _ q_110) (fun _ h9 => h9) rfl (by decide +kernel) rfl rfl (Nat.le_of_ble_eq_true rfl) dX1_giveBack_18 (fun H locs hP hD hS => ?_)
    have hP : va_P D vwCl (kW cI cS G (sV_next u.1 x1, u.2)) H := hP
    have hD : va_D A (kW cI cS G (sV_next u.1 x1, u.2)) := hD
    refine lv_aload_n hx hb dX1_giveBack_21 rfl (lv_at hl 0 rfl) ?_
    refine lv_dup hx hb dX1_giveBack_22 rfl ?_
    refine va_get (D := D) (ci := 1) (v := .int (V_size ((sV_next u.1 x1, u.2).1))) (C := RX1) (T := TX1) (N := 3) hx hb hts inT1 hown hK.k hP 9 rfl rfl 2 (by decide) (hts _ q_111) (fun _ h9 => h9) rfl dX1_giveBack_23 ?_
    refine lv_iconst (v := (1 : Int32)) hx hb dX1_giveBack_26 (by decide) ?_
    refine lv_isub hx hb dX1_giveBack_27 ?_
    refine va_put (D := D) (ci := 1) (v := .int ((V_size ((sV_next u.1 x1, u.2).1)) - (1 : Int32))) (ty := .int) (C := RX1) (T := TX1) (N := 3) hx hb hts inT1 tyX1 tyX1_ok nmX1 hown hK.k hP hD hS 9 rfl rfl 2 (by decide) (hts _ q_111) (fun _ h9 => h9) rfl (by decide +kernel) rfl rfl (Nat.le_of_ble_eq_true rfl) dX1_giveBack_28 (fun H locs hP hD hS => ?_)
    have hP : va_P D vwCl (kW cI cS G (sV_size (sV_next u.1 x1, u.2).1 ((V_size ((sV_next u.1 x1, u.2).1)) - (1 : Int32)), (sV_next u.1 x1, u.2).2)) H := hP
    have hD : va_D A (kW cI cS G (sV_size (sV_next u.1 x1, u.2).1 ((V_size ((sV_next u.1 x1, u.2).1)) - (1 : Int32)), (sV_next u.1 x1, u.2).2)) := hD
    refine lv_aload_n hx hb dX1_giveBack_31 rfl (lv_at hl 0 rfl) ?_
    refine lv_aload_n hx hb dX1_giveBack_32 rfl (lv_at hl 0 rfl) ?_
    refine va_get (D := D) (ci := 1) (v := .int (V_next ((sV_size (sV_next u.1 x1, u.2).1 ((V_size ((sV_next u.1 x1, u.2).1)) - (1 : Int32)), (sV_next u.1 x1, u.2).2).1))) (C := RX1) (T := TX1) (N := 3) hx hb hts inT1 hown hK.k hP 9 rfl rfl 1 (by decide) (hts _ q_110) (fun _ h9 => h9) rfl dX1_giveBack_33 ?_
    obtain ⟨k5, hk6, he7, h⟩ := h
    refine roVr (As := [.int (V_next ((sV_size (sV_next u.1 x1, u.2).1 ((V_size ((sV_next u.1 x1, u.2).1)) - (1 : Int32)), (sV_next u.1 x1, u.2).2).1))]) (rest := []) F (c_X1_slotAt l D cI cS cJ G (sV_size (sV_next u.1 x1, u.2).1 ((V_size ((sV_next u.1 x1, u.2).1)) - (1 : Int32)), (sV_next u.1 x1, u.2).2) H (V_next ((sV_size (sV_next u.1 x1, u.2).1 ((V_size ((sV_next u.1 x1, u.2).1)) - (1 : Int32)), (sV_next u.1 x1, u.2).2).1)) hk6 he7) (cw_X1_22 hts (Nat.le_of_ble_eq_true rfl) (Nat.le_of_ble_eq_true rfl)) hK hP (recv (ci := 1) (k0 := 9) hK hP rfl rfl) rfl hl.1 rfl (Nat.le_of_ble_eq_true rfl) dX1_giveBack_36 ⟨Nat.zero_le _, Nat.zero_le _⟩ ?_
    refine lv_astore_n (lv' := [(2, .ref (G (3 + k5) 0)), (0, .ref (G 2 1)), (1, .ref (G 0 0))]) hx hb dX1_giveBack_39 rfl hl (by decide) rfl (fun ls hl => ?_)
    refine lv_aload_n hx hb dX1_giveBack_40 rfl (lv_at hl 0 rfl) ?_
    refine lv_ifnull hx hb dX1_giveBack_41 ?_
    refine lv_aload_n hx hb dX1_giveBack_44 rfl (lv_at hl 2 rfl) ?_
    refine lv_aload_n hx hb dX1_giveBack_45 rfl (lv_at hl 0 rfl) ?_
    obtain ⟨wr, hp81, hp82⟩ := kW_g (cI := cI) (cS := cS) (G := G) (sV_size (sV_next u.1 x1, u.2).1 ((V_size ((sV_next u.1 x1, u.2).1)) - (1 : Int32)), (sV_next u.1 x1, u.2).2) hk6
    refine rwVv (wr := wr) (wf := fun x9 => stW cI (G 0) x9 ++ stW cI (G (3 + k5)) (V_slots (sV_size (sV_next u.1 x1, u.2).1 ((V_size ((sV_next u.1 x1, u.2).1)) - (1 : Int32)), (sV_next u.1 x1, u.2).2).1 k5)) (As := [.ref (G (3 + k5) 0)]) (rest := []) hp81 F (c_X2_become l D cI cS cJ (G 0) (sV_size (sV_next u.1 x1, u.2).1 ((V_size ((sV_next u.1 x1, u.2).1)) - (1 : Int32)), (sV_next u.1 x1, u.2).2).2 (G (3 + k5)) (V_slots (sV_size (sV_next u.1 x1, u.2).1 ((V_size ((sV_next u.1 x1, u.2).1)) - (1 : Int32)), (sV_next u.1 x1, u.2).2).1 k5) H.size h) (cw_X1_26 hts (Nat.le_of_ble_eq_true rfl) (Nat.le_of_ble_eq_true rfl)) hK hP hD hS hA (recv (ci := 2) (k0 := 0) hK (vP_L (vP_perm hp81 hP)) rfl rfl) rfl hl.1 rfl (Nat.le_of_ble_eq_true rfl) dX1_giveBack_46 ⟨Nat.zero_le _, Nat.zero_le _⟩ (fun x9 H locs h hP hD hS => ?_)
    have hP : va_P D vwCl (kW cI cS G ((sV_size (sV_next u.1 x1, u.2).1 ((V_size ((sV_next u.1 x1, u.2).1)) - (1 : Int32)), (sV_next u.1 x1, u.2).2).1, x9)) H := vP_perm (hp82 _) hP
    have hD : va_D A (kW cI cS G ((sV_size (sV_next u.1 x1, u.2).1 ((V_size ((sV_next u.1 x1, u.2).1)) - (1 : Int32)), (sV_next u.1 x1, u.2).2).1, x9)) := vD_perm (hp82 _) hD
    exact hQ h hP hD hS dX1_giveBack_49
  clear e4
  refine lv_if_le (tgt := 17) hx hb dX1_giveBack_5 (by decide) (fun c10 => ?_) (fun c10 => ?_)
  · replace h := h.1 c10
    refine lv_iconst (v := (5 : Int32)) hx hb dX1_giveBack_17 (by decide) ?_
    exact w3 (5 : Int32) _ _ _ hl hP hD hS h
  · replace h := h.2 c10
    refine lv_aload_n hx hb dX1_giveBack_8 rfl (lv_at hl 0 rfl) ?_
    refine va_get (D := D) (ci := 1) (v := .int (V_next u.1)) (C := RX1) (T := TX1) (N := 3) hx hb hts inT1 hown hK.k hP 9 rfl rfl 1 (by decide) (hts _ q_110) (fun _ h9 => h9) rfl dX1_giveBack_9 ?_
    refine lv_iconst (v := (1 : Int32)) hx hb dX1_giveBack_12 (by decide) ?_
    refine lv_isub hx hb dX1_giveBack_13 ?_
    refine lv_goto (tgt := 18) hx hb dX1_giveBack_14 (by decide) ?_
    exact w3 ((V_next u.1) - (1 : Int32)) _ _ _ hl hP hD hS h
