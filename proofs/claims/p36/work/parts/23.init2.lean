/-! the two constructors that make objects -/
section
variable {p : Program} {l : Launch} {e : Env} {R : Room} {s : State} {m : MethodId} {args : Array Value} {below : List Frame} {meth : Method} {c : Code} {H H0 : Heap} {locs : List Loc} {cells slots : Nat} {Q : State → Prop} {A : Nat → Prop} {D : va_G} {T : List (ClassId × FieldType)} {ws wc wr : va_W} {pc : Nat} {ls : Array Slot} {rest st0 : List Value}
variable {y : MethodName} {bytes cc : ByteArray} {maxL nL n index : Nat} {rm : Room} {own : String} {b : Addr} {As : List Value} {W9 : List Cond}
theorem rwIv {S : Type} {post : S → Prop} {wf : S → va_W} {mc ms : Nat} (hpm : ws.Perm (wc ++ wr)) (F : CallFix p m c cc nL s args wsT own) (hM : Met l y W9 rm (va_Pc (.ref b :: As) (rwP D T wc H.size)) (va_Qv post (fun u t => va_P D vwCl (wf u) t.heap ∧ va_D (va_A wc H.size) (wf u)) (va_A wc H.size)) mc ms (va_A wc H.size)) (cw : CallB R s args own index y bytes maxL none W9 rm mc ms n ∧ y.name = "<init>" ∧ (Cond.instanceMethod y).before args s = true)
    (hK : KK D T s) (hP : va_P D vwCl ws H) (hD : va_D A ws) (hS : va_S A H0 H locs) (hA : ∀ q, H0.size ≤ q → A q) (hn : As.length = n) (hsz : ls.size = nL) (hst : st0 = As.reverse ++ .ref b :: rest) (hW : (rest.map fun v => v.category).sum ≤ 8) (hdg : decode cc pc = .ok (.invokespecial index, 3)) (hf : cells + mc ≤ R.cells ∧ slots + ms ≤ R.slots)
    (kk : ∀ u H1 locs1, post u → va_P D vwCl (wf u ++ wr) H1 → va_D A (wf u ++ wr) → va_S A H0 H1 locs1 → W p l e R s m args below meth c H1 locs1 (cells + mc) (slots + ms) Q (F0 m (pc + 3) ls rest)) : W p l e R s m args below meth c H locs cells slots Q (F0 m pc ls st0) :=
  rw_kv (va_runI F hM cw (preRW hpm hK hP hD) rfl hn hsz hst (lv_room hW) hdg hf) hpm hP hD hS hA kk
end
theorem famW_congr {cI : ClassId} {A A2 : Nat → Nat → Nat} {S S2 : Nat → St} : ∀ (n : Nat), (∀ k, k < n → A k = A2 k ∧ S k = S2 k) → famW cI A S n = famW cI A2 S2 n
  | 0, _ => rfl
  | n + 1, h => by
    show famW cI A S n ++ stW cI (A n) (S n) = famW cI A2 S2 n ++ stW cI (A2 n) (S2 n)
    rw [famW_congr n (fun k hk => h k (by omega)), (h n (by omega)).1, (h n (by omega)).2]
abbrev dv2 : List Value := [.int 0, .null, .int 0, .null, .null, .null, .int 0, .null, .null, .null, .int 0, .null]
theorem dv2_ok : ∀ j, j < 12 → defaultValue (tyX2 j) = vp_V dv2 j := by
  intro j hj
  rcases (show j = 0 ∨ j = 1 ∨ j = 2 ∨ j = 3 ∨ j = 4 ∨ j = 5 ∨ j = 6 ∨ j = 7 ∨ j = 8 ∨ j = 9 ∨ j = 10 ∨ j = 11 by omega) with rfl | rfl | rfl | rfl | rfl | rfl | rfl | rfl | rfl | rfl | rfl | rfl <;> rfl
abbrev rm_X1_init : Room := { frames := 2, cells := 55, slots := 744, locals := 44 }
abbrev rm_X3_init : Room := { frames := 3, cells := 67, slots := 932, locals := 65 }
theorem q_27 : Cond.initialized RX0 ∈ wsT := tw 27 (by decide +kernel) rfl
theorem q_45 : Cond.instantiable RX2 12 ∈ wsT := tw 45 (by decide +kernel) rfl
theorem q_46 : Cond.methodLink RX3 9 yX2_init ∈ wsT := tw 46 (by decide +kernel) rfl
theorem q_47 : Cond.instanceMethod yX2_init ∈ wsT := tw 47 (by decide +kernel) rfl
theorem q_48 : Cond.code yX2_init cX2_init 2 none ∈ wsT := tw 48 (by decide +kernel) rfl
theorem q_102 : Cond.methodLink RX3 18 yX1_init ∈ wsT := tw 102 (by decide +kernel) rfl
theorem q_103 : Cond.instanceMethod yX1_init ∈ wsT := tw 103 (by decide +kernel) rfl
theorem q_104 : Cond.code yX1_init cX1_init 2 none ∈ wsT := tw 104 (by decide +kernel) rfl
theorem q_105 : Cond.methodLink RX1 3 objectInit ∈ wsT := tw 105 (by decide +kernel) rfl
theorem q_106 : Cond.classLink RX1 9 RX2 ∈ wsT := tw 106 (by decide +kernel) rfl
theorem q_108 : Cond.methodLink RX1 17 yX2_init ∈ wsT := tw 108 (by decide +kernel) rfl
theorem q_122 : Cond.methodLink RX3 25 yX0_init ∈ wsT := tw 122 (by decide +kernel) rfl
theorem q_123 : Cond.instanceMethod yX0_init ∈ wsT := tw 123 (by decide +kernel) rfl
theorem q_124 : Cond.code yX0_init cX0_init 1 none ∈ wsT := tw 124 (by decide +kernel) rfl

theorem ci_X1_17 {R : Room} {s : State} {args : Array Value} (hts : ∀ w ∈ wsT, w.before args s = true) (hf : 1 + 1 ≤ R.frames) (hl : 8 + (2 + 11) + 23 ≤ R.locals) : CallB R s args RX1 17 yX2_init cX2_init 2 none (wsA yX2_init cX2_init 2 none) rm_X2_init 8 111 0 ∧ yX2_init.name = "<init>" ∧ (Cond.instanceMethod yX2_init).before args s = true := cwI 0 hts (gA0 q_48) rfl rfl rfl (hts _ q_24) (hts _ q_108) (hts _ q_47) rfl (by decide +kernel) ⟨hf, hl⟩
theorem ci_X3_9 {R : Room} {s : State} {args : Array Value} (hts : ∀ w ∈ wsT, w.before args s = true) (hf : 1 + 1 ≤ R.frames) (hl : 8 + (2 + 11) + 23 ≤ R.locals) : CallB R s args RX3 9 yX2_init cX2_init 2 none (wsA yX2_init cX2_init 2 none) rm_X2_init 8 111 0 ∧ yX2_init.name = "<init>" ∧ (Cond.instanceMethod yX2_init).before args s = true := cwI 0 hts (gA0 q_48) rfl rfl rfl (hts _ q_24) (hts _ q_46) (hts _ q_47) rfl (by decide +kernel) ⟨hf, hl⟩
theorem ci_X3_18 {R : Room} {s : State} {args : Array Value} (hts : ∀ w ∈ wsT, w.before args s = true) (hf : 2 + 1 ≤ R.frames) (hl : 8 + (2 + 11) + 44 ≤ R.locals) : CallB R s args RX3 18 yX1_init cX1_init 2 none (wsA yX1_init cX1_init 2 none) rm_X1_init 55 744 0 ∧ yX1_init.name = "<init>" ∧ (Cond.instanceMethod yX1_init).before args s = true := cwI 0 hts (gA0 q_104) rfl rfl rfl (hts _ q_26) (hts _ q_102) (hts _ q_103) rfl (by decide +kernel) ⟨hf, hl⟩
theorem ci_X3_25 {R : Room} {s : State} {args : Array Value} (hts : ∀ w ∈ wsT, w.before args s = true) (hf : 1 + 1 ≤ R.frames) (hl : 8 + (1 + 11) + 20 ≤ R.locals) : CallB R s args RX3 25 yX0_init cX0_init 1 none (wsA yX0_init cX0_init 1 none) rm_X0_init 1 60 0 ∧ yX0_init.name = "<init>" ∧ (Cond.instanceMethod yX0_init).before args s = true := cwI 0 hts (gA0 q_124) rfl rfl rfl (hts _ q_27) (hts _ q_122) (hts _ q_123) rfl (by decide +kernel) ⟨hf, hl⟩
/-- the world while the row of saved States fills -/
abbrev x1W (cI cS : ClassId) (h0 q : Nat) (A : Nat → Nat → Nat) (S : Nat → St) (i : Nat) : va_W := [(h0, .inr (1, [.ref q, .int 0, .int 0])), (q, .inl (cS, 6, .inr (.inr (.inr (.inr (slF A i))))))] ++ famW cI A S i
set_option maxHeartbeats 4000000 in
set_option maxRecDepth 100000 in
theorem c_X1_init (l : Launch) (D : va_G) (cI cS cJ : ClassId) (h0 : Nat) (sz : Nat) (hw0 : wp_X2_init (fun _ => True)) {post : Sv → Prop} (h : ∀ S, post (S, 0, 0)) : Met l yX1_init (wsA yX1_init cX1_init 2 none) rm_X1_init (va_Pc [.ref h0] (fun U => rwP D (tysA cI cS cJ) [(h0, .inr (1, [.null, .int 0, .int 0]))] sz U ∧ va_AO RX2 U)) (va_Qv (fun r9 : (Nat × (Nat → Nat → Nat)) × Sv => post r9.2) (fun r9 t => va_P D vwCl (ssX cI cS h0 r9.1.1 r9.1.2 r9.2) t.heap ∧ va_D (va_A [(h0, .inr (1, [.null, .int 0, .int 0]))] sz) (ssX cI cS h0 r9.1.1 r9.1.2 r9.2)) (va_A [(h0, .inr (1, [.null, .int 0, .int 0]))] sz)) 55 744 (va_A [(h0, .inr (1, [.null, .int 0, .int 0]))] sz) := by
  refine va_MetF (cc := cX1_init) (maxL := 2) (ret := none) (by decide +kernel) rfl ?_
  intro p e s m args below meth c s₁ B hml hv
  obtain ⟨rfl, ⟨hsz, hP, hK, hD0⟩, hAO⟩ := hv
  have hts : ∀ w ∈ wsT, w.before ([.ref h0] : List Value).toArray s = true := fun w h => atoms_spec (ws := wsA yX1_init cX1_init 2 none) B.pre w (List.mem_cons_of_mem _ h)
  have hl := lv_entry [.ref h0] (n := 2) (Nat.le_of_ble_eq_true rfl)
  rw [lg_entry_eq]
  generalize (lg_sl ([.ref h0]) ++ List.replicate (2 - (lg_sl ([.ref h0])).length) Slot.unset).toArray = ls at hl ⊢
  subst hsz
  have hx := B.exec
  have hb := B.bytes
  have hown : s.vm.findClass RX1 = some m.cls := findClass_of_methodNamed B.named
  have F : CallFix p m c cX1_init 2 s ([.ref h0] : List Value).toArray wsT RX1 := ⟨hx, hb, hml, hown, hts⟩
  have hin : meth.name = "<init>" := (name_of_methodNamed B.named B.method).1
  have hl : lv_has ls 2 [(0, .ref h0)] := hl
  have hD := hD0.self (sz := s.heap.size)
  generalize hAe : va_A [(h0, .inr (1, [.null, .int 0, .int 0]))] s.heap.size = A at hD ⊢
  have hA : ∀ q : Nat, s.heap.size ≤ q → A q := fun q h => by rw [← hAe]; exact Or.inr h
  have hS : va_S A s.heap s.heap [] := va_S.rf
  refine lv_aload_n hx hb dX1_init_0 rfl (lv_at hl 0 rfl) ?_
  refine W.objInit hx hb hown (hts _ q_105) (hts _ q_42) (hts _ q_43) rfl (by rw [hml]; exact hl.1) rfl dX1_init_1 (Nat.le_of_ble_eq_true rfl) (Nat.le_of_ble_eq_true rfl) ?_
  refine W.eq (g2 := F0 m 4 ls []) rfl ?_
  refine lv_aload_n hx hb dX1_init_4 rfl (lv_at hl 0 rfl) ?_
  refine lv_bipush (v := (6 : Int32)) hx hb dX1_init_5 (by decide) ?_
  refine va_newq (N' := 6) hx hb hown (hts _ q_106) hAO hK.k hP hD hS hA (by decide) rfl (by decide) (Nat.le_of_ble_eq_true rfl) (Nat.le_of_ble_eq_true rfl) dX1_init_7 (fun q cq H hKq hP hD hS => ?_)
  rw [arrS_eq hKq] at hP hD
  refine va_putF (D := D) (ci := 1) (v := .ref q) (ty := .array (.object RX2)) (C := RX1) (T := TX1) (N := 3) hx hb hts inT1 tyX1 tyX1_ok nmX1 hown hK.k hP hD hS 0 rfl rfl 0 (by decide) (hts _ q_109) (fun _ h9 => h9) rfl hin rfl (by decide +kernel) rfl rfl (Nat.le_of_ble_eq_true rfl) dX1_init_10 (fun H locs hP hD hS => ?_)
  refine lv_iconst (v := (0 : Int32)) hx hb dX1_init_13 (by decide) ?_
  refine lv_istore_n (lv' := [(1, .int 0), (0, .ref h0)]) hx hb dX1_init_14 rfl hl (by decide) rfl (fun ls hl => ?_)
  have L : ∀ (n i : Nat), i + n = 6 → ∀ (A' : Nat → Nat → Nat) (S : Nat → St) (ls : Array Slot) (H : Heap) (locs : List Loc), lv_has ls 2 [(0, .ref h0), (1, .int (nI i))] → va_P D vwCl (x1W cI cS h0 q A' S i) H → va_D A (x1W cI cS h0 q A' S i) → va_S A s.heap H locs → W p l e rm_X1_init s m ([.ref h0] : List Value).toArray below meth c H locs (1 + 9 * i) (6 + 123 * i) (MQ below (va_Qv (fun r9 : (Nat × (Nat → Nat → Nat)) × Sv => post r9.2) (fun r9 t => va_P D vwCl (ssX cI cS h0 r9.1.1 r9.1.2 r9.2) t.heap ∧ va_D A (ssX cI cS h0 r9.1.1 r9.1.2 r9.2)) A) ([.ref h0] : List Value).toArray s 55 744 A) (F0 m 15 ls []) := by
    intro n
    induction n with
    | zero =>
      intro i hi A' S ls H locs hl hP hD hS
      obtain rfl : i = 6 := by omega
      refine lv_iload_n hx hb dX1_init_15 rfl (lv_at hl 1 rfl) ?_
      refine lv_aload_n hx hb dX1_init_16 rfl (lv_at hl 0 rfl) ?_
      refine va_get (D := D) (ci := 1) (v := .ref q) (C := RX1) (T := TX1) (N := 3) hx hb hts inT1 hown hK.k hP 0 rfl rfl 0 (by decide) (hts _ q_109) (fun _ h9 => h9) rfl dX1_init_17 ?_
      refine va_alen (v := nI 6) hx hb hK.k hP 1 1 rfl rfl rfl dX1_init_20 ?_
      refine lv_icmp_ge (tgt := 43) hx hb dX1_init_21 (by decide) (fun _ => ?_) (fun c1 => absurd (nI_le (Nat.le_refl 6) (by decide)) c1)
      exact W.vret hx hb B.returns (fun t ht hW => ⟨⟨((q, A'), (S, 0, 0)), rfl, h S, by rw [ht]; exact hP, hD⟩, hS.F ht⟩) hS.2.2 dX1_init_43 B.notSynchronized
    | succ n ih =>
      intro i hi A' S ls H locs hl hP hD hS
      have hi6 : i < 6 := by omega
      refine lv_iload_n hx hb dX1_init_15 rfl (lv_at hl 1 rfl) ?_
      refine lv_aload_n hx hb dX1_init_16 rfl (lv_at hl 0 rfl) ?_
      refine va_get (D := D) (ci := 1) (v := .ref q) (C := RX1) (T := TX1) (N := 3) hx hb hts inT1 hown hK.k hP 0 rfl rfl 0 (by decide) (hts _ q_109) (fun _ h9 => h9) rfl dX1_init_17 ?_
      refine va_alen (v := nI 6) hx hb hK.k hP 1 1 rfl rfl rfl dX1_init_20 ?_
      refine lv_icmp_ge (tgt := 43) hx hb dX1_init_21 (by decide) (fun c1 => absurd c1 (nI_ge hi6 (by decide))) (fun _ => ?_)
      refine lv_aload_n hx hb dX1_init_24 rfl (lv_at hl 0 rfl) ?_
      refine va_get (D := D) (ci := 1) (v := .ref q) (C := RX1) (T := TX1) (N := 3) hx hb hts inT1 hown hK.k hP 0 rfl rfl 0 (by decide) (hts _ q_109) (fun _ h9 => h9) rfl dX1_init_25 ?_
      refine lv_iload_n hx hb dX1_init_28 rfl (lv_at hl 1 rfl) ?_
      refine va_new (ci := 2) (fs := dv2) (C := RX2) (T := TX2) (N := 12) hx hb hts inT2 tyX2 tyX2_ok hown (hts _ q_106) (hts _ q_45) (hts _ q_24) hK.k hP hD hS hA rfl dv2_ok (show 1 + 9 * i + 1 ≤ 55 by omega) (show 6 + 123 * i + 12 ≤ 744 by omega) dX1_init_29 (fun q2 H hP hD hS => ?_)
      refine lv_dup hx hb dX1_init_32 rfl ?_
      refine rwIv (wc := [(q2, .inr (2, dv2))]) (wr := x1W cI cS h0 q A' S i) (As := []) (rest := [.ref q2, .int (nI i), .ref q]) List.perm_append_comm F (c_X2_init l D cI cS cJ q2 H.size hw0) (ci_X1_17 hts (Nat.le_of_ble_eq_true rfl) (Nat.le_of_ble_eq_true rfl)) hK hP hD hS hA rfl hl.1 rfl (Nat.le_of_ble_eq_true rfl) dX1_init_33 ⟨show 1 + 9 * i + 1 + 8 ≤ 55 by omega, show 6 + 123 * i + 12 + 111 ≤ 744 by omega⟩ (fun u H locs hu hP2 hD2 hS2 => ?_)
      obtain ⟨a, u⟩ := u
      obtain ⟨ha, -⟩ := hu
      have ha : a 0 = q2 := ha
      subst ha
      have hP : va_P D vwCl (stW cI a u ++ x1W cI cS h0 q A' S i) H := hP2
      have hD : va_D A (stW cI a u ++ x1W cI cS h0 q A' S i) := hD2
      have hS := hS2
      refine va_astq (r := (RX2, TX2, 12)) hx hb hK.k hP hD hS 10 1 0 2 rfl rfl rfl rfl (vp_in_nI hi6 (by decide)) dX1_init_36 (fun H locs hP hD hS => ?_)
      have er : va_up (slF A' i) (nI i).toNatClampNeg (some (a 0)) = slF (va_up A' i a) (i + 1) := by
        rw [nI_clamp (by omega)]
        funext k
        by_cases hk : k = i
        · subst hk
          rw [va_up_self]
          simp [slF, va_up_self]
        · rw [va_up_ne _ _ hk]
          simp only [slF, va_up_ne _ _ hk]
          by_cases h1 : k < i
          · rw [if_pos h1, if_pos (by omega)]
          · rw [if_neg h1, if_neg (by omega)]
      rw [er] at hP hD
      have ef : famW cI A' S i = famW cI (va_up A' i a) (va_up S i u) i := famW_congr i (fun k hk => ⟨(va_up_ne _ _ (by omega)).symm, (va_up_ne _ _ (by omega)).symm⟩)
      have hpm : (stW cI a u ++ (([(h0, .inr (1, [.ref q, .int 0, .int 0])), (q, .inl (cS, 6, .inr (.inr (.inr (.inr (slF (va_up A' i a) (i + 1)))))))] : va_W) ++ famW cI A' S i)).Perm (x1W cI cS h0 q (va_up A' i a) (va_up S i u) (i + 1)) := by
        refine List.Perm.trans (List.perm_append_comm) ?_
        rw [ef]
        show List.Perm _ (_ ++ (famW cI (va_up A' i a) (va_up S i u) i ++ stW cI (va_up A' i a i) (va_up S i u i)))
        rw [va_up_self, va_up_self, List.append_assoc]
      have hP : va_P D vwCl (x1W cI cS h0 q (va_up A' i a) (va_up S i u) (i + 1)) H := vP_perm hpm hP
      have hD : va_D A (x1W cI cS h0 q (va_up A' i a) (va_up S i u) (i + 1)) := vD_perm hpm hD
      refine lv_iinc (v := nI (i + 1)) (lv' := [(1, .int (nI (i + 1))), (0, .ref h0)]) hx hb dX1_init_37 hl (k := 1) rfl (nI_1 i) (by decide) rfl (fun ls hl => ?_)
      refine lv_goto (tgt := 15) hx hb dX1_init_40 (by decide) ?_
      refine W.widen (k := 1 + 9 * (i + 1)) (n := 6 + 123 * (i + 1)) (by omega) (by omega) ?_
      exact ih (i + 1) (by omega) _ _ ls H locs (lv_sub hl [1, 0] rfl) hP hD hS
  refine W.widen (k := 1 + 9 * 0) (n := 6 + 123 * 0) (by decide) (by decide) ?_
  have e0 : (fun _ => none : Nat → Option Nat) = slF (fun _ _ => 0) 0 := by funext k; simp [slF]
  exact L 6 0 rfl (fun _ _ => 0) (fun _ => (0, fun _ => 0, 0, fun _ => 0, fun _ => 0, fun _ => 0, 0, fun _ => 0, fun _ => 0, fun _ => 0, 0, fun _ => 0)) ls H locs (lv_sub hl [1, 0] rfl) (by rw [e0] at hP; exact hP) (by rw [e0] at hD; exact hD) hS
