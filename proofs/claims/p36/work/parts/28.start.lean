/-! THE CLAIM OUT OF ONE WALK OF THE LAW'S BODY. Your part is whole_start (and what it stands on); all else here is the same for every law, but numbers. -/
def R_law : String := "NestedEnvelopesLaw"
def lw_P (b : Addr) (xs : List Int32) (args : Array Value) (s : State) : Prop := args = #[.ref b] ∧ s.IntsAt b xs ∧ xs.length ≤ 260 ∧ (Jvm.Cond.and given_1 narrow_1).before args s = true
/-- what a walk over the start with the record d0 says of its end, said of the start itself -/
theorem lw_closed {s t : State} {o : Outcome} {d0 : Drawn} {L : List Loc} {k n : Nat} (hd0 : s.drawn.sameBut d0 lw_cs) (hv : ∃ v, o = .returned v) (hW : (s.setDrawn d0).WarmedH t.vm) (hs : (s.setDrawn d0).sameButNew ({ t with vm := s.vm } : State) L k n) : State.butDraws s t lw_cs (fun t1 => Framed s o t1 L k n) := by
  have h2 : t.drawn = d0 := congrArg State.drawn hs.1
  refine ⟨⟨hv, hW, State.sameButNew.setDrawn hs s.drawn⟩, ?_, by decide⟩
  rw [h2]
  exact hd0
def lw_Q (_ : Array Value) (s : State) (o : Outcome) (t : State) : Prop := o = .returned (some (.int 1)) ∧ State.butDraws s t lw_cs (fun t1 => Framed s o t1 [] 600104 7301314)
def lw_Z (below : List Frame) (a : Array Value) (s : State) : State → Prop := fun t => ∃ o, t.status = .running ∧ Ended t below o ∧ lw_Q a s o t
/-- the law's own end, with 1 on the stack, nothing written that was there before, its room as the claim has it; d0: the record of draws at this point (at the entry s.drawn: begin with 'refine W.base ?_' and 'have hd0 := Drawn.sameBut.refl s.drawn lw_cs') -/
theorem lw_ret {p : Program} {l : Launch} {e : Env} {s : State} {m : MethodId} {below : List Frame} {meth : Method} {c : Code} {b : Nat} {d0 : Drawn} (hd0 : s.drawn.sameBut d0 lw_cs) (hx : p.tables.exec = Jvm.exec) (hb : c.code = code) (hr : meth.sig.returnType = ret) (hlocks : meth.locks = false) {pc : Nat} {H : Heap} {ls : Array Slot} (hdg : decode code pc = .ok (.ireturn, 1)) : W p l e room_1 (s.setDrawn d0) m #[Value.ref b] below meth c H [] 600104 7301314 (lw_Z below #[Value.ref b] s) (F0 m pc ls [.int 1]) := by
  intro T hT X
  obtain ⟨fs, hret, hrun, hended, hW, hframe⟩ := X.leave (v := some (.int 1)) (hlocks := hlocks) (fun h => by rw [hr] at h; cases h)
  have hmeth' : T.vm.method? m = some meth := X.method'
  refine ⟨T.setFrames fs, ?_, .returned (some (.int 1)), hrun, hended, rfl, lw_closed hd0 ⟨_, rfl⟩ hW hframe⟩
  jvm_step X.here [X.here.top, hx, hb, hdg, hmeth', hr, ret, narrow_b1]
  (try refine ⟨rfl, ?_⟩); (try refine ⟨rfl, ?_⟩)
  first | (intro acts; rw [hret _ acts rfl rfl rfl]) | rw [hret _ _ rfl rfl rfl]
  exact Steps.refl _
/-- what holds at the law's entry: the machine, the code, the tables' words (any of lw_tbl by 'hts w (by decide +kernel)'), the script of L ints xs at the cell b, what the Statement gives of the start (any of its parts by flat_of_before) -/
def lw_At (p : Program) (s : State) (m : MethodId) (meth : Method) (c : Code) (b L : Nat) (xs : Nat → Int32) : Prop :=
  p.tables.exec = Jvm.exec ∧ c.code = code ∧ meth.sig.returnType = ret ∧ c.maxLocals = 16 ∧ s.vm.findClass R_law = some m.cls ∧ (∀ w ∈ lw_tbl, w.before #[Value.ref b] s = true) ∧ va_X b L xs s s.heap ∧ b < s.heap.size ∧ meth.locks = false ∧ (Jvm.Cond.and given_1 narrow_1).before #[Value.ref b] s = true

theorem Bx.arr {ty : FieldType} {args : Array Value} {s : State} (h : (Cond.arrayClass ty).before args s = true) : ∃ cA, ArrOfT s cA ty ∧ s.vm.findClass ("[" ++ ty.toString) = some cA := by
  obtain ⟨c, k, comp, h1, h2, h3⟩ := Cond.arrayClass_spec (o := none) (idx := []) h
  exact ⟨c, fun n z => ⟨(fun k h => by cases h), k, h2, comp, h3⟩, h1⟩
theorem Bx.over {C : String} {args : Array Value} {s : State} (h : (Cond.arrayOver (.object C)).before args s = true) : ∃ cA, ArrOfT s cA (.object C) ∧ va_RA s cA (.object C) := by
  obtain ⟨comp, c, k, h1, h2, h3, h4, h5⟩ := Cond.arrayOver_spec (o := none) (idx := []) h
  exact ⟨c, fun n z => ⟨(fun k h => by cases h), k, h3, comp, h4⟩, k, comp, h3, h4, h1, h5⟩
theorem Bx.known {s : State} {args : Array Value} (hts : ∀ w ∈ lw_tbl, w.before args s = true) : ∃ D : va_G, ∀ (c : Nat) (q : vw_C), vwCl[c]? = some q → u_Kn s q.1 q.2.1 q.2.2 (D.1 c) (D.2 c) := by
  obtain ⟨c0, i0, h0⟩ := u_known (C := RX0) (T := TX0) (N := 2) (n := 2) hts (by decide +kernel) (hts _ (by decide +kernel))
  obtain ⟨c1, i1, h1⟩ := u_known (C := RX1) (T := TX1) (N := 3) (n := 3) hts (by decide +kernel) (hts _ (by decide +kernel))
  obtain ⟨c2, i2, h2⟩ := u_known (C := RX2) (T := TX2) (N := 12) (n := 12) hts (by decide +kernel) (hts _ (by decide +kernel))
  obtain ⟨c3, i3, h3⟩ := u_known (C := RX3) (T := TX3) (N := 3) (n := 3) hts (by decide +kernel) (hts _ (by decide +kernel))
  refine ⟨(fun c => [c0, c1, c2, c3].getD c 0, fun c => [i0, i1, i2, i3].getD c i0), ?_⟩
  intro c q hq
  match c, hq with
  | 0, hq => cases hq; exact h0
  | 1, hq => cases hq; exact h1
  | 2, hq => cases hq; exact h2
  | 3, hq => cases hq; exact h3
  | (n + 4), hq => cases hq
theorem Bx.KK {s : State} {args : Array Value} (hts : ∀ w ∈ lw_tbl, w.before args s = true) : ∃ (D : va_G) (cI cS : ClassId), KK D (tysA cI cS cI) s := by
  obtain ⟨D, hD⟩ := Bx.known hts
  obtain ⟨cI, hI, hI2⟩ := Bx.arr (hts (Cond.arrayClass .int) (by decide +kernel))
  obtain ⟨cS, hS, hS2⟩ := Bx.over (hts (Cond.arrayOver (.object RX2)) (by decide +kernel))
  refine ⟨D, cI, cS, ⟨hD, ?_⟩, ?_⟩
  · intro k q hq
    match k, hq with
    | 0, hq => cases hq; exact ⟨hI, hI2⟩
    | 1, hq => cases hq; exact ⟨hS, hS2⟩
    | (n + 2), hq => cases hq
  · intro q hq
    exact va_Nw.of rfl (hts _ ((by decide +kernel : ∀ q ∈ nestL, Cond.methodLinkNest q.fst q.snd.fst q.snd.snd RX3 ∈ lw_tbl) q hq))
theorem Bx.AO {s : State} {args : Array Value} (hts : ∀ w ∈ lw_tbl, w.before args s = true) : va_AO RX2 s := va_AO.of (hts _ (by decide +kernel))
/-! the law's entry -/
theorem wt {w : Cond} (h1 : w ∈ lw_tbl) (h2 : goodWord w = true) : w ∈ wsT := List.mem_filter.mpr ⟨h1, h2⟩
theorem fs3_ok : ∀ j, j < 3 → defaultValue (tyX3 j) = vp_V [.null, .null, .null] j := by
  intro j hj
  rcases (show j = 0 ∨ j = 1 ∨ j = 2 by omega) with rfl | rfl | rfl <;> rfl
theorem ci_L_X3 {R : Room} {s : State} {args : Array Value} (hts : ∀ w ∈ wsT, w.before args s = true) (hf : 3 + 1 ≤ R.frames) (hl : 8 + (1 + 11) + 65 ≤ R.locals) : CallB R s args RL 110 yX3_init cX3_init 1 none (wsA yX3_init cX3_init 1 none) rm_X3_init 67 932 0 ∧ yX3_init.name = "<init>" ∧ (Cond.instanceMethod yX3_init).before args s = true :=
  cwI 0 hts (gA0 (wt (by decide +kernel) (by decide +kernel))) rfl rfl rfl (hts _ (wt (by decide +kernel) (by decide +kernel))) (hts _ (wt (by decide +kernel) (by decide +kernel))) (hts _ (wt (by decide +kernel) (by decide +kernel))) rfl (by decide +kernel) ⟨hf, hl⟩
set_option maxHeartbeats 4000000 in
set_option maxRecDepth 100000 in
theorem start_of {L : Nat} {xs : Nat → Int32} (hw0 : wp_X2_init (fun _ => True)) (hw : wp_X2_init (fun u => ∀ S : Nat → St, wp_X0_init (fun t => wp_L_law xs L (u, t, S, 0, 0) (fun _ => 0) (fun _ => 0) (fun r => r = 1)))) {p : Program} {e : Env} {s : State} {m : MethodId} {below : List Frame} {meth : Method} {c : Code} (l : Launch) {b : Nat} (hL : L ≤ 260) (C0 : lw_At p s m meth c b L xs) : W p l e room_1 s m #[Value.ref b] below meth c s.heap [] 0 0 (lw_Z below #[Value.ref b] s) (entryFrame m ([Value.ref b] : List Value).toArray 16) := by
  obtain ⟨hx, hb, hr, hml, hown0, htb, hX, hbl, hlocks, hgv⟩ := C0
  obtain ⟨D, cI, cS, hK⟩ := Bx.KK htb
  have hAO := Bx.AO htb
  have hts : ∀ w ∈ wsT, w.before #[Value.ref b] s = true := fun w h => htb w (List.mem_filter.mp h).1
  have hown : s.vm.findClass RL = some m.cls := hown0
  obtain ⟨A, hAe⟩ : ∃ A : Nat → Prop, A = fun q => s.heap.size ≤ q := ⟨_, rfl⟩
  have hA : ∀ q : Nat, s.heap.size ≤ q → A q := fun q h => by rw [hAe]; exact h
  have hAs : ∀ q : Nat, A q → s.heap.size ≤ q := fun q h => by rw [hAe] at h; exact h
  have hbA : ¬ A b := fun h => absurd (hAs b h) (Nat.not_le.mpr hbl)
  have F : CallFix p m c code 16 s #[Value.ref b] wsT RL := ⟨hx, hb, hml, hown, hts⟩
  have hS : va_S A s.heap s.heap [] := va_S.rf
  have hP : va_P D vwCl ([] : va_W) s.heap := fun k q h => by cases h
  have hD : va_D A ([] : va_W) := ⟨(by intro i j p q h; cases h), (by intro k q h; cases h)⟩
  have hl := lv_entry ([.ref b]) (n := 16) (Nat.le_of_ble_eq_true rfl)
  rw [lg_entry_eq]
  generalize (lg_sl ([.ref b]) ++ List.replicate (16 - (lg_sl ([.ref b])).length) Slot.unset).toArray = ls at hl ⊢
  have hl : lv_has ls 16 [(0, .ref b)] := hl
  refine va_new (ci := 3) (fs := [.null, .null, .null]) (C := RX3) (T := TX3) (N := 3) hx hb hts inT3 tyX3 tyX3_ok hown (hts _ (wt (by decide +kernel) (by decide +kernel))) (hts _ (wt (by decide +kernel) (by decide +kernel))) (hts _ (wt (by decide +kernel) (by decide +kernel))) hK.k hP hD hS hA rfl fs3_ok (Nat.le_of_ble_eq_true rfl) (Nat.le_of_ble_eq_true rfl) dL_law_0 (fun q2 H hP hD hS => ?_)
  have hP : va_P D vwCl ([(q2, .inr (3, [.null, .null, .null]))] : va_W) H := hP
  have hD : va_D A ([(q2, .inr (3, [.null, .null, .null]))] : va_W) := hD
  refine lv_dup hx hb dL_law_3 rfl ?_
  refine rw_kv (wc := [(q2, .inr (3, [.null, .null, .null]))]) (wr := []) (va_runI (As := []) (rest := [.ref q2]) F (c_X3_init l D cI cS cI q2 H.size hw0 (post := fun N => wp_L_law xs L N (fun _ => 0) (fun _ => 0) (fun r => r = 1)) hw) (ci_L_X3 hts (Nat.le_of_ble_eq_true rfl) (Nat.le_of_ble_eq_true rfl)) (preAO perm0 hK hAO hP hD) rfl rfl hl.1 rfl (lv_room (Nat.le_of_ble_eq_true rfl)) dL_law_4 ⟨(Nat.le_of_ble_eq_true rfl), (Nat.le_of_ble_eq_true rfl)⟩) perm0 hP hD hS hA (fun v H locs hv hP2 hD2 hS2 => ?_)
  obtain ⟨G, N⟩ := v
  obtain ⟨hG, hw4⟩ := hv
  have hG : G 2 0 = q2 := hG
  have hw4 : wp_L_law xs L N (fun _ => 0) (fun _ => 0) (fun r => r = 1) := hw4
  subst hG
  have hP : va_P D vwCl (neW cI cS G N) H := by have h9 := hP2; rw [List.append_nil] at h9; exact h9
  have hD : va_D A (neW cI cS G N) := by have h9 := hD2; rw [List.append_nil] at h9; exact h9
  have hS := hS2
  refine lv_astore_n (lv' := [(1, .ref (G 2 0)), (0, .ref b)]) hx hb dL_law_7 rfl hl (by decide) rfl (fun ls hl => ?_)
  refine lv_iconst (v := (4 : Int32)) hx hb dL_law_8 (by decide) ?_
  refine va_newa (atype := .int) (ty := .int) (N' := 4) (a0 := (4, .inl (fun _ => 0))) hx hb (hts _ (wt (by decide +kernel) (by decide +kernel))) rfl hK.k hP hD hS hA (fun _ => rfl) (by decide) rfl (by decide) (Nat.le_of_ble_eq_true rfl) (Nat.le_of_ble_eq_true rfl) dL_law_9 (fun o1 cA H hKn hP hD hS => ?_)
  rw [arrI_eq hKn] at hP hD
  have hP : va_P D vwCl (neW cI cS G N ++ ([(o1, .inl (cI, 4, .inl (fun _ => 0)))] : va_W)) H := hP
  have hD : va_D A (neW cI cS G N ++ ([(o1, .inl (cI, 4, .inl (fun _ => 0)))] : va_W)) := hD
  refine lv_astore_n (lv' := [(2, .ref o1), (1, .ref (G 2 0)), (0, .ref b)]) hx hb dL_law_11 rfl hl (by decide) rfl (fun ls hl => ?_)
  refine lv_iconst (v := (4 : Int32)) hx hb dL_law_12 (by decide) ?_
  refine va_newa (atype := .int) (ty := .int) (N' := 4) (a0 := (4, .inl (fun _ => 0))) hx hb (hts _ (wt (by decide +kernel) (by decide +kernel))) rfl hK.k hP hD hS hA (fun _ => rfl) (by decide) rfl (by decide) (Nat.le_of_ble_eq_true rfl) (Nat.le_of_ble_eq_true rfl) dL_law_13 (fun o2 cB H hKm hP hD hS => ?_)
  rw [arrI_eq hKm] at hP hD
  have hpm : ((neW cI cS G N ++ ([(o1, .inl (cI, 4, .inl (fun _ => 0)))] : va_W)) ++ ([(o2, .inl (cI, 4, .inl (fun _ => 0)))] : va_W)).Perm (lwW cI cS G o1 o2 (N, (fun _ => 0), (fun _ => 0))) := by
    rw [List.append_assoc]
    exact List.perm_append_comm
  have hP : va_P D vwCl (lwW cI cS G o1 o2 (N, (fun _ => 0), (fun _ => 0))) H := vP_perm hpm hP
  have hD : va_D A (lwW cI cS G o1 o2 (N, (fun _ => 0), (fun _ => 0))) := vD_perm hpm hD
  refine lv_astore_n (lv' := [(3, .ref o2), (2, .ref o1), (1, .ref (G 2 0)), (0, .ref b)]) hx hb dL_law_15 rfl hl (by decide) rfl (fun ls hl => ?_)
  refine W.widen (k := 70) (n := 943) (by decide) (by decide) ?_
  refine c_L_law (D := D) (cI := cI) (cS := cS) (cJ := cI) (G := G) (o1 := o1) (o2 := o2) F hK hX (by omega) hbl hbA hA (lv_sub hl [3, 2, 1, 0] rfl) hP hD hS hw4 (fun v H locs ls hv hS => ?_)
  subst hv
  refine va_forget (fun q hq => hAs _ (hS.2.2 q hq)) ?_
  refine W.widen (k := 600104) (n := 7301314) (Nat.le_of_ble_eq_true rfl) (Nat.le_of_ble_eq_true rfl) ?_
  refine W.base ?_
  exact lw_ret (Drawn.sameBut.refl s.drawn lw_cs) hx hb hr hlocks dL_law_370
