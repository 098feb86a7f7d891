/-! THE CLAIM OUT OF ONE WALK OF THE LAW'S BODY. Your part is whole_start (and what it stands on); all else here is the same for every law, but numbers. -/
def R_law : String := "NestedEnvelopesLaw"
def lw_P (b : Addr) (xs : List Int32) (args : Array Value) (s : State) : Prop := args = #[.ref b] ∧ s.IntsAt b xs ∧ xs.length ≤ 2560 ∧ (Jvm.Cond.and given_1 narrow_1).before args s = true
/-- what a walk over the start with the record d0 says of its end, said of the start itself -/
theorem lw_closed {s t : State} {o : Outcome} {d0 : Drawn} {L : List Loc} {k n : Nat} (hd0 : s.drawn.sameBut d0 lw_cs) (hv : ∃ v, o = .returned v) (hW : (s.setDrawn d0).WarmedH t.vm) (hs : (s.setDrawn d0).sameButNew ({ t with vm := s.vm } : State) L k n) : State.butDraws s t lw_cs (fun t1 => Framed s o t1 L k n) := by
  have h2 : t.drawn = d0 := congrArg State.drawn hs.1
  refine ⟨⟨hv, hW, State.sameButNew.setDrawn hs s.drawn⟩, ?_, by decide⟩
  rw [h2]
  exact hd0
def lw_Q (_ : Array Value) (s : State) (o : Outcome) (t : State) : Prop := o = .returned (some (.int 1)) ∧ State.butDraws s t lw_cs (fun t1 => Framed s o t1 [] 601024 7293034)
def lw_Z (below : List Frame) (a : Array Value) (s : State) : State → Prop := fun t => ∃ o, t.status = .running ∧ Ended t below o ∧ lw_Q a s o t
/-- the law's own end, with 1 on the stack, nothing written that was there before, its room as the claim has it; d0: the record of draws at this point (at the entry s.drawn: begin with 'refine W.base ?_' and 'have hd0 := Drawn.sameBut.refl s.drawn lw_cs') -/
theorem lw_ret {p : Program} {l : Launch} {e : Env} {s : State} {m : MethodId} {below : List Frame} {meth : Method} {c : Code} {b : Nat} {d0 : Drawn} (hd0 : s.drawn.sameBut d0 lw_cs) (hx : p.tables.exec = Jvm.exec) (hb : c.code = code) (hr : meth.sig.returnType = ret) (hlocks : meth.locks = false) {pc : Nat} {H : Heap} {ls : Array Slot} (hdg : decode code pc = .ok (.ireturn, 1)) : W p l e room_1 (s.setDrawn d0) m #[Value.ref b] below meth c H [] 601024 7293034 (lw_Z below #[Value.ref b] s) (F0 m pc ls [.int 1]) := by
  intro T hT X
  obtain ⟨fs, hret, hrun, hended, hW, hframe⟩ := X.leave (v := some (.int 1)) (hlocks := hlocks) (fun h => by rw [hr] at h; cases h)
  have hmeth' : T.vm.method? m = some meth := X.method'
  refine ⟨T.setFrames fs, ?_, .returned (some (.int 1)), hrun, hended, rfl, lw_closed hd0 ⟨_, rfl⟩ hW hframe⟩
  jvm_step X.here [X.here.top, hx, hb, hdg, hmeth', hr, ret, narrow_b1]
  (try refine ⟨rfl, ?_⟩); (try refine ⟨rfl, ?_⟩)
  first | (intro acts; rw [hret _ acts rfl rfl rfl]) | rw [hret _ _ rfl rfl rfl]
  exact Steps.refl _
/-- what holds at the law's entry: the machine, the code, the tables' words (any of lw_tbl by 'hts w (by decide +kernel)'), the script of L ints xs at the cell b, what the Statement gives of the start (any of its parts by flat_of_before) -/
def lw_At (p : Program) (s : State) (m : MethodId) (meth : Method) (c : Code) (b L : Nat) (xs : Nat → Int32) : Prop :=
  p.tables.exec = Jvm.exec ∧ c.code = code ∧ meth.sig.returnType = ret ∧ c.maxLocals = 9 ∧ s.vm.findClass R_law = some m.cls ∧ (∀ w ∈ lw_tbl, w.before #[Value.ref b] s = true) ∧ va_X b L xs s s.heap ∧ b < s.heap.size ∧ meth.locks = false ∧ (Jvm.Cond.and given_1 narrow_1).before #[Value.ref b] s = true
theorem Bx.arr {ty : FieldType} {args : Array Value} {s : State} (h : (Cond.arrayClass ty).before args s = true) : ∃ cA, ArrOfT s cA ty ∧ s.vm.findClass ("[" ++ ty.toString) = some cA := by
  obtain ⟨c, k, comp, h1, h2, h3⟩ := Cond.arrayClass_spec (o := none) (idx := []) h
  exact ⟨c, fun n z => ⟨(fun k h => by cases h), k, h2, comp, h3⟩, h1⟩
theorem Bx.over {C : String} {args : Array Value} {s : State} (h : (Cond.arrayOver (.object C)).before args s = true) : ∃ cA, ArrOfT s cA (.object C) ∧ va_RA s cA (.object C) := by
  obtain ⟨comp, c, k, h1, h2, h3, h4, h5⟩ := Cond.arrayOver_spec (o := none) (idx := []) h
  exact ⟨c, fun n z => ⟨(fun k h => by cases h), k, h3, comp, h4⟩, k, comp, h3, h4, h1, h5⟩
theorem Bx.known {s : State} {args : Array Value} (hts : ∀ w ∈ lw_tbl, w.before args s = true) : ∃ D : va_G, ∀ (c : Nat) (q : vw_C), vwCl[c]? = some q → u_Kn s q.1 q.2.1 q.2.2 (D.1 c) (D.2 c) := by
  obtain ⟨c0, i0, h0⟩ := u_known (C := RX0) (T := TX0) (N := 2) (n := 2) hts (by decide +kernel) (hts _ (by decide +kernel))
  obtain ⟨c1, i1, h1⟩ := u_known (C := RX1) (T := TX1) (N := 3) (n := 3) hts (by decide +kernel) (hts _ (by decide +kernel))
  obtain ⟨c2, i2, h2⟩ := u_known (C := RX2) (T := TX2) (N := 12) (n := 12) hts (by decide +kernel) (hts _ (by decide +kernel))
  obtain ⟨c3, i3, h3⟩ := u_known (C := RX3) (T := TX3) (N := 3) (n := 3) hts (by decide +kernel) (hts _ (by decide +kernel))
  obtain ⟨c4, i4, h4⟩ := u_known (C := RX4) (T := TX4) (N := 12) (n := 12) hts (by decide +kernel) (hts _ (by decide +kernel))
  refine ⟨(fun c => [c0, c1, c2, c3, c4].getD c 0, fun c => [i0, i1, i2, i3, i4].getD c i0), ?_⟩
  intro c q hq
  match c, hq with
  | 0, hq => cases hq; exact h0
  | 1, hq => cases hq; exact h1
  | 2, hq => cases hq; exact h2
  | 3, hq => cases hq; exact h3
  | 4, hq => cases hq; exact h4
  | (n + 5), hq => cases hq
theorem Bx.KK {s : State} {args : Array Value} (hts : ∀ w ∈ lw_tbl, w.before args s = true) : ∃ (D : va_G) (cI cS cJ : ClassId), KK D (tysA cI cS cJ) s := by
  obtain ⟨D, hD⟩ := Bx.known hts
  obtain ⟨cI, hI, hI2⟩ := Bx.arr (hts (Cond.arrayClass .int) (by decide +kernel))
  obtain ⟨cJ, hJ, hJ2⟩ := Bx.arr (hts (Cond.arrayClass .long) (by decide +kernel))
  obtain ⟨cS, hS, hS2⟩ := Bx.over (hts (Cond.arrayOver (.object RX2)) (by decide +kernel))
  refine ⟨D, cI, cS, cJ, ⟨hD, ?_⟩, ?_⟩
  · intro k q hq
    match k, hq with
    | 0, hq => cases hq; exact ⟨hI, hI2⟩
    | 1, hq => cases hq; exact ⟨hS, hS2⟩
    | 2, hq => cases hq; exact ⟨hJ, hJ2⟩
    | (n + 3), hq => cases hq
  · intro q hq
    exact va_Nw.of rfl (hts _ ((by decide +kernel : ∀ q ∈ nestL, Cond.methodLinkNest q.fst q.snd.fst q.snd.snd RX3 ∈ lw_tbl) q hq))
theorem Bx.ce : ∀ w ∈ [Cond.castable (exE 1) (exE 1), Cond.castable (exE 2) (exE 2), Cond.castable (exE 3) (exE 3)] ++ dcL.map Cond.declares, w ∈ lw_tbl := by decide +kernel
theorem Bx.st : ∀ q ∈ strL, Cond.stringRef RX3 q.1 q.2 ∈ lw_tbl := by decide +kernel
theorem Bx.sx : ∀ q ∈ strL, Cond.exactly (Term.string RX3 q.1) "java/lang/String" ∈ flatC (Jvm.Cond.and given_1 narrow_1) := by decide +kernel
theorem Bx.nc : ∀ p ∈ [(1, 2), (1, 3), (2, 1), (2, 3), (3, 1), (3, 2)], Cond.not (Cond.castable (exE p.1) (exE p.2)) ∈ flatC (Jvm.Cond.and given_1 narrow_1) := by decide +kernel
theorem Bx.XV {s : State} {args : Array Value} (hts : ∀ w ∈ lw_tbl, w.before args s = true) (hgv : (Jvm.Cond.and given_1 narrow_1).before args s = true) : XV s := by
  have hf := flat_of_before _ hgv
  refine ⟨?_, ?_, ?_, ?_⟩
  · intro k hk
    rcases hk with rfl | rfl | rfl
    · exact va_Nw.of rfl (hts _ (Bx.ce _ (by decide +kernel)))
    · exact va_Nw.of rfl (hts _ (Bx.ce _ (by decide +kernel)))
    · exact va_Nw.of rfl (hts _ (Bx.ce _ (by decide +kernel)))
  · intro x hx
    exact va_Nw.of rfl (hts _ (Bx.ce _ (List.mem_append_right _ (List.mem_map_of_mem hx))))
  · intro q hq
    obtain ⟨a, c, cA, kA, q1, -⟩ := Cond.exactly_spec (args := args) (first := s) (o := none) (s := s) (idx := []) (hf _ (Bx.sx q hq))
    exact ⟨a, vk_R.of (hts _ (Bx.st q hq)) q1⟩
  · intro j k hj hk hn
    rcases hj with rfl | rfl | rfl <;> rcases hk with rfl | rfl | rfl <;> first | exact absurd rfl hn | skip
    · exact va_Nc.of (hf _ (Bx.nc (1, 2) (by decide)))
    · exact va_Nc.of (hf _ (Bx.nc (1, 3) (by decide)))
    · exact va_Nc.of (hf _ (Bx.nc (2, 1) (by decide)))
    · exact va_Nc.of (hf _ (Bx.nc (2, 3) (by decide)))
    · exact va_Nc.of (hf _ (Bx.nc (3, 1) (by decide)))
    · exact va_Nc.of (hf _ (Bx.nc (3, 2) (by decide)))
theorem Bx.XH {s : State} {args : Array Value} (hts : ∀ w ∈ lw_tbl, w.before args s = true) (hgv : (Jvm.Cond.and given_1 narrow_1).before args s = true) : XH (fun q => s.heap.size ≤ q) s s.heap := by
  have hf := flat_of_before _ hgv
  exact ⟨vx_Zqof (hts _ (by decide +kernel)) (hts _ (by decide +kernel)) (hf _ (by decide +kernel)) (fun a h => Nat.not_le.mpr h), vx_Zqof (hts _ (by decide +kernel)) (hts _ (by decide +kernel)) (hf _ (by decide +kernel)) (fun a h => Nat.not_le.mpr h)⟩
theorem Bx.AO {s : State} {args : Array Value} (hts : ∀ w ∈ lw_tbl, w.before args s = true) : va_AO RX2 s := va_AO.of (hts _ (by decide +kernel))
/-! the law's loop -/
/-- each case keeps I -/
def LawOk (I : Ne → Md → Prop) : Prop := ∀ (xs : Nat → Int32) (i : Int32) (N : Ne) (O : Nat → Int64) (M : Md), I N M → wp_law_0 xs i N O M (fun N _ M => I N M) ∧ wp_law_1 xs i N O M (fun N _ M => I N M) ∧ wp_law_2 xs i N O M (fun N _ M => I N M) ∧ wp_law_3 xs i N O M (fun N _ M => I N M) ∧ wp_law_4 xs i N O M (fun N _ M => I N M) ∧ wp_law_5 xs i N O M (fun N _ M => I N M) ∧ wp_law_6 xs i N O M (fun N _ M => I N M) ∧ wp_law_7 xs i N O M (fun N _ M => I N M) ∧ wp_law_8 xs i N O M (fun N _ M => I N M) ∧ wp_law_9 xs i N O M (fun N _ M => I N M) ∧ wp_law_10 xs i N O M (fun N _ M => I N M) ∧ wp_law_11 xs i N O M (fun N _ M => I N M) ∧ wp_law_12 xs i N O M (fun N _ M => I N M) ∧ wp_law_13 xs i N O M (fun N _ M => I N M) ∧ wp_law_14 xs i N O M (fun N _ M => I N M) ∧ wp_law_15 xs i N O M (fun N _ M => I N M) ∧ wp_law_16 xs i N O M (fun N _ M => I N M) ∧ wp_law_17 xs i N O M (fun N _ M => I N M) ∧ wp_law_18 xs i N O M (fun N _ M => I N M) ∧ wp_law_19 xs i N O M (fun N _ M => I N M) ∧ wp_law_20 xs i N O M (fun N _ M => I N M) ∧ wp_law_21 xs i N O M (fun N _ M => I N M) ∧ wp_law_22 xs i N O M (fun N _ M => I N M) ∧ wp_law_23 xs i N O M (fun N _ M => I N M) ∧ wp_law_24 xs i N O M (fun N _ M => I N M) ∧ wp_law_25 xs i N O M (fun N _ M => I N M) ∧ wp_law_26 xs i N O M (fun N _ M => I N M) ∧ wp_law_27 xs i N O M (fun N _ M => I N M) ∧ wp_law_28 xs i N O M (fun N _ M => I N M) ∧ wp_law_29 xs i N O M (fun N _ M => I N M) ∧ wp_law_30 xs i N O M (fun N _ M => I N M) ∧ wp_law_31 xs i N O M (fun N _ M => I N M) ∧ wp_law_32 xs i N O M (fun N _ M => I N M)
theorem sw_dom (x : Int32) : ∃ k, k < 64 ∧ (x &&& 63) = nI k := pk_andE x (m := 63) 6 (by decide)
theorem loop_gt {j L : Nat} (hL : L < 2 ^ 31) (hj : 5 * j ≤ L) : (nI L - (5 : Int32)) < nI (5 * j) ↔ L < 5 * j + 5 := by
  have h5 : nI L - (5 : Int32) = Int32.ofInt ((L : Int) - 5) := by
    rw [show (5 : Int32) = nI 5 from rfl]
    apply Int32.toInt_inj.mp
    rw [Int32.toInt_sub, nI_toInt hL, nI_toInt (by decide), Int32.toInt_ofInt]
    rfl
  rw [Int32.lt_iff_toInt_lt, nI_toInt (by omega), h5, Int32.toInt_ofInt_of_le (by simp [Int32.minValue]; omega) (by simp; omega)]
  omega
set_option maxHeartbeats 4000000 in
set_option maxRecDepth 100000 in
theorem law_loop {p : Program} {l : Launch} {e : Env} {s : State} {m : MethodId} {below : List Frame} {meth : Method} {c : Code} {A : Nat → Prop} {D : va_G} {cI cS cJ : ClassId} {G : Nat → Nat → Nat} {o : Nat} {bm : Nat → Nat} {b L : Nat} {xs : Nat → Int32} {I : Ne → Md → Prop} (hok : LawOk I) (hL : L ≤ 2560) (C0 : lwC p l s m #[Value.ref b] c A D cI cS cJ b L xs) (hAs : ∀ q, A q → s.heap.size ≤ q) (hr : meth.sig.returnType = ret) (hlocks : meth.locks = false) :
    ∀ (n j : Nat), 512 ≤ n + j → ∀ (d0 : Drawn) (N : Ne) (O : Nat → Int64) (M : Md) (H : Heap) (locs : List Loc) (ls : Array Slot), s.drawn.sameBut d0 lw_cs → 5 * j ≤ L → lv_has ls 9 [(0, .ref b), (1, .ref (G 2 0)), (2, .ref (bm 0)), (3, .ref o), (4, .int (nI (5 * j)))] → va_P D vwCl (lwW cI cS cJ G o bm (N, O, M)) H → va_D A (lwW cI cS cJ G o bm (N, O, M)) → va_S A s.heap H locs → I N M →
    W p l e room_1 (s.setDrawn d0) m #[Value.ref b] below meth c H locs (72 + 2 * j) (1862 + 12 * j) (lw_Z below #[Value.ref b] s) (F0 m 23 ls []) := by
  have hx : p.tables.exec = Jvm.exec := C0.2.1.1
  have hb : c.code = code := C0.2.1.2.1
  have hend : ∀ (d0 : Drawn) (H : Heap) (locs : List Loc) (ls : Array Slot) (cs ss : Nat), s.drawn.sameBut d0 lw_cs → va_S A s.heap H locs → cs ≤ 601024 → ss ≤ 7293034 → W p l e room_1 (s.setDrawn d0) m #[Value.ref b] below meth c H locs cs ss (lw_Z below #[Value.ref b] s) (F0 m 1880 ls []) := by
    intro d0 H locs ls cs ss hd hS h1 h2
    refine lv_iconst (v := (1 : Int32)) hx hb dL_law_1880 (by decide) ?_
    refine va_forget (fun q hq => hAs _ (hS.2.2 q hq)) ?_
    refine W.widen (k := 601024) (n := 7293034) h1 h2 ?_
    exact lw_ret hd hx hb hr hlocks dL_law_1881
  intro n
  induction n with
  | zero =>
    intro j hn d0 N O M H locs ls hd hj hl hP hD hS hI
    have hj2 : j = 512 := by omega
    have hL2 : L = 2560 := by omega
    subst hj2
    subst hL2
    have C : lwC p l (s.setDrawn d0) m #[Value.ref b] c A D cI cS cJ b 2560 xs := C0.drawn d0
    obtain ⟨-, -, -, -, -, hX, hbl, hbA, -⟩ := C
    refine lv_iload hx hb dL_law_23 (lv_at hl 4 rfl) ?_
    refine lv_aload_n hx hb dL_law_25 rfl (lv_at hl 0 rfl) ?_
    refine va_slen (s := s.setDrawn d0) hx hb hX hbl hbA hS dL_law_26 ?_
    refine lv_iconst (v := (5 : Int32)) hx hb dL_law_27 (by decide) ?_
    refine lv_isub hx hb dL_law_28 ?_
    refine lv_icmp_gt (tgt := 1880) hx hb dL_law_29 (by decide) (fun hc => ?_) (fun hc => absurd (by decide) hc)
    exact hend d0 H locs ls _ _ hd hS (by omega) (by omega)
  | succ n ih =>
    intro j hn d0 N O M H locs ls hd hj hl hP hD hS hI
    have C : lwC p l (s.setDrawn d0) m #[Value.ref b] c A D cI cS cJ b L xs := C0.drawn d0
    have C2 := C
    obtain ⟨-, -, -, -, -, hX, hbl, hbA, -⟩ := C2
    refine lv_iload hx hb dL_law_23 (lv_at hl 4 rfl) ?_
    refine lv_aload_n hx hb dL_law_25 rfl (lv_at hl 0 rfl) ?_
    refine va_slen (s := s.setDrawn d0) hx hb hX hbl hbA hS dL_law_26 ?_
    refine lv_iconst (v := (5 : Int32)) hx hb dL_law_27 (by decide) ?_
    refine lv_isub hx hb dL_law_28 ?_
    refine lv_icmp_gt (tgt := 1880) hx hb dL_law_29 (by decide) (fun hc => ?_) (fun hc => ?_)
    · exact hend d0 H locs ls _ _ hd hS (by omega) (by omega)
    have hc2 : 5 * j + 5 ≤ L := by
      have := mt (loop_gt (j := j) (L := L) (by omega) hj).mpr hc
      omega
    have hi0 : vp_in (nI (5 * j)) L := vp_in_nI (by omega) (by omega)
    have hi1 : vp_in (nI (5 * j) + 1) L := by rw [show nI (5 * j) + 1 = nI (5 * j + 1) from nI_add _ 1]; exact vp_in_nI (by omega) (by omega)
    have hi2 : vp_in (nI (5 * j) + 2) L := by rw [show nI (5 * j) + 2 = nI (5 * j + 2) from nI_add _ 2]; exact vp_in_nI (by omega) (by omega)
    have hi3 : vp_in (nI (5 * j) + 3) L := by rw [show nI (5 * j) + 3 = nI (5 * j + 3) from nI_add _ 3]; exact vp_in_nI (by omega) (by omega)
    have hi4 : vp_in (nI (5 * j) + 4) L := by rw [show nI (5 * j) + 4 = nI (5 * j + 4) from nI_add _ 4]; exact vp_in_nI (by omega) (by omega)
    have hcs : 72 + 2 * j + 2 ≤ 601024 := by omega
    have hss : 1862 + 12 * j + 12 ≤ 7293034 := by omega
    have hnext : ∀ (d' : Drawn) (N : Ne) (O : Nat → Int64) (M : Md) (H : Heap) (locs : List Loc) (ls : Array Slot), (s.setDrawn d0).drawn.sameBut d' lw_cs → lv_has ls 9 [(0, .ref b), (1, .ref (G 2 0)), (2, .ref (bm 0)), (3, .ref o), (4, .int (nI (5 * j)))] → va_P D vwCl (lwW cI cS cJ G o bm (N, O, M)) H → va_D A (lwW cI cS cJ G o bm (N, O, M)) → va_S A (s.setDrawn d0).heap H locs → I N M → W p l e room_1 ((s.setDrawn d0).setDrawn d') m #[Value.ref b] below meth c H locs (72 + 2 * j + 2) (1862 + 12 * j + 12) (lw_Z below #[Value.ref b] s) (F0 m 1874 ls []) := by
      intro d' N O M H locs ls hd' hl hP hD hS hI
      refine lv_iinc (k := 4) (v := nI (5 * (j + 1))) (lv' := [(4, .int (nI (5 * (j + 1)))), (0, .ref b), (1, .ref (G 2 0)), (2, .ref (bm 0)), (3, .ref o)]) hx hb dL_law_1874 hl rfl (nI_add (5 * j) 5) (by decide) rfl (fun ls hl => ?_)
      refine lv_goto (tgt := 23) hx hb dL_law_1877 (by decide) ?_
      exact ih (j + 1) (by omega) d' N O M H locs ls (Drawn.sameBut.trans hd hd') (by omega) (lv_sub hl [1, 2, 3, 4, 0] rfl) hP hD hS hI
    refine lv_aload_n hx hb dL_law_32 rfl (lv_at hl 0 rfl) ?_
    refine lv_iload hx hb dL_law_33 (lv_at hl 4 rfl) ?_
    refine va_sld (s := s.setDrawn d0) hx hb hX hbl hbA hS hi0 dL_law_35 ?_
    refine lv_bipush (v := (63 : Int32)) hx hb dL_law_36 (by decide) ?_
    refine lv_iand hx hb dL_law_38 ?_
    obtain ⟨k, hk64, hk⟩ := sw_dom (xs (nI (5 * j)).toNatClampNeg)
    rw [hk]
    clear hk
    have hI2 := hok xs (nI (5 * j)) N O M hI
    match k, hk64 with
    | 0, _ =>
      refine lv_tableIn (off := 145) (tgt := 184) hx hb dL_law_39 (by decide) (by decide) rfl (by decide) ?_
      exact c_law_0 (s := s.setDrawn d0) C hi0 hi1 hi2 hi3 hi4 hcs hss hl hP hD hS hI2.1 hnext
    | 1, _ =>
      refine lv_tableIn (off := 236) (tgt := 275) hx hb dL_law_39 (by decide) (by decide) rfl (by decide) ?_
      exact c_law_1 (s := s.setDrawn d0) C hi0 hi1 hi2 hi3 hi4 hcs hss hl hP hD hS hI2.2.1 hnext
    | 2, _ =>
      refine lv_tableIn (off := 304) (tgt := 343) hx hb dL_law_39 (by decide) (by decide) rfl (by decide) ?_
      exact c_law_2 (s := s.setDrawn d0) C hi0 hi1 hi2 hi3 hi4 hcs hss hl hP hD hS hI2.2.2.1 hnext
    | 3, _ =>
      refine lv_tableIn (off := 367) (tgt := 406) hx hb dL_law_39 (by decide) (by decide) rfl (by decide) ?_
      exact c_law_3 (s := s.setDrawn d0) C hi0 hi1 hi2 hi3 hi4 hcs hss hl hP hD hS hI2.2.2.2.1 hnext
    | 4, _ =>
      refine lv_tableIn (off := 423) (tgt := 462) hx hb dL_law_39 (by decide) (by decide) rfl (by decide) ?_
      exact c_law_4 (s := s.setDrawn d0) C hi0 hi1 hi2 hi3 hi4 hcs hss hl hP hD hS hI2.2.2.2.2.1 hnext
    | 5, _ =>
      refine lv_tableIn (off := 491) (tgt := 530) hx hb dL_law_39 (by decide) (by decide) rfl (by decide) ?_
      exact c_law_5 (s := s.setDrawn d0) C hi0 hi1 hi2 hi3 hi4 hcs hss hl hP hD hS hI2.2.2.2.2.2.1 hnext
    | 6, _ =>
      refine lv_tableIn (off := 559) (tgt := 598) hx hb dL_law_39 (by decide) (by decide) rfl (by decide) ?_
      exact c_law_6 (s := s.setDrawn d0) C hi0 hi1 hi2 hi3 hi4 hcs hss hl hP hD hS hI2.2.2.2.2.2.2.1 hnext
    | 7, _ =>
      refine lv_tableIn (off := 651) (tgt := 690) hx hb dL_law_39 (by decide) (by decide) rfl (by decide) ?_
      exact c_law_7 (s := s.setDrawn d0) C hi0 hi1 hi2 hi3 hi4 hcs hss hl hP hD hS hI2.2.2.2.2.2.2.2.1 hnext
    | 8, _ =>
      refine lv_tableIn (off := 695) (tgt := 734) hx hb dL_law_39 (by decide) (by decide) rfl (by decide) ?_
      exact c_law_8 (s := s.setDrawn d0) C hi0 hi1 hi2 hi3 hi4 hcs hss hl hP hD hS hI2.2.2.2.2.2.2.2.2.1 hnext
    | 9, _ =>
      refine lv_tableIn (off := 708) (tgt := 747) hx hb dL_law_39 (by decide) (by decide) rfl (by decide) ?_
      exact c_law_9 (s := s.setDrawn d0) C hi0 hi1 hi2 hi3 hi4 hcs hss hl hP hD hS hI2.2.2.2.2.2.2.2.2.2.1 hnext
    | 10, _ =>
      refine lv_tableIn (off := 776) (tgt := 815) hx hb dL_law_39 (by decide) (by decide) rfl (by decide) ?_
      exact c_law_10 (s := s.setDrawn d0) C hi0 hi1 hi2 hi3 hi4 hcs hss hl hP hD hS hI2.2.2.2.2.2.2.2.2.2.2.1 hnext
    | 11, _ =>
      refine lv_tableIn (off := 832) (tgt := 871) hx hb dL_law_39 (by decide) (by decide) rfl (by decide) ?_
      exact c_law_11 (s := s.setDrawn d0) C hi0 hi1 hi2 hi3 hi4 hcs hss hl hP hD hS hI2.2.2.2.2.2.2.2.2.2.2.2.1 hnext
    | 12, _ =>
      refine lv_tableIn (off := 895) (tgt := 934) hx hb dL_law_39 (by decide) (by decide) rfl (by decide) ?_
      exact c_law_12 (s := s.setDrawn d0) C hi0 hi1 hi2 hi3 hi4 hcs hss hl hP hD hS hI2.2.2.2.2.2.2.2.2.2.2.2.2.1 hnext
    | 13, _ =>
      refine lv_tableIn (off := 975) (tgt := 1014) hx hb dL_law_39 (by decide) (by decide) rfl (by decide) ?_
      exact c_law_13 (s := s.setDrawn d0) C hi0 hi1 hi2 hi3 hi4 hcs hss hl hP hD hS hI2.2.2.2.2.2.2.2.2.2.2.2.2.2.1 hnext
    | 14, _ =>
      refine lv_tableIn (off := 1031) (tgt := 1070) hx hb dL_law_39 (by decide) (by decide) rfl (by decide) ?_
      exact c_law_14 (s := s.setDrawn d0) C hi0 hi1 hi2 hi3 hi4 hcs hss hl hP hD hS hI2.2.2.2.2.2.2.2.2.2.2.2.2.2.2.1 hnext
    | 15, _ =>
      refine lv_tableIn (off := 1099) (tgt := 1138) hx hb dL_law_39 (by decide) (by decide) rfl (by decide) ?_
      exact c_law_15 (s := s.setDrawn d0) C hi0 hi1 hi2 hi3 hi4 hcs hss hl hP hD hS hI2.2.2.2.2.2.2.2.2.2.2.2.2.2.2.2.1 hnext
    | 16, _ =>
      refine lv_tableIn (off := 1167) (tgt := 1206) hx hb dL_law_39 (by decide) (by decide) rfl (by decide) ?_
      exact c_law_16 (s := s.setDrawn d0) C hi0 hi1 hi2 hi3 hi4 hcs hss hl hP hD hS hI2.2.2.2.2.2.2.2.2.2.2.2.2.2.2.2.2.1 hnext
    | 17, _ =>
      refine lv_tableIn (off := 1223) (tgt := 1262) hx hb dL_law_39 (by decide) (by decide) rfl (by decide) ?_
      exact c_law_17 (s := s.setDrawn d0) C hi0 hi1 hi2 hi3 hi4 hcs hss hl hP hD hS hI2.2.2.2.2.2.2.2.2.2.2.2.2.2.2.2.2.2.1 hnext
    | 18, _ =>
      refine lv_tableIn (off := 1236) (tgt := 1275) hx hb dL_law_39 (by decide) (by decide) rfl (by decide) ?_
      exact c_law_18 (s := s.setDrawn d0) C hi0 hi1 hi2 hi3 hi4 hcs hss hl hP hD hS hI2.2.2.2.2.2.2.2.2.2.2.2.2.2.2.2.2.2.2.1 hnext
    | 19, _ =>
      refine lv_tableIn (off := 1304) (tgt := 1343) hx hb dL_law_39 (by decide) (by decide) rfl (by decide) ?_
      exact c_law_19 (s := s.setDrawn d0) C hi0 hi1 hi2 hi3 hi4 hcs hss hl hP hD hS hI2.2.2.2.2.2.2.2.2.2.2.2.2.2.2.2.2.2.2.2.1 hnext
    | 20, _ =>
      refine lv_tableIn (off := 1360) (tgt := 1399) hx hb dL_law_39 (by decide) (by decide) rfl (by decide) ?_
      exact c_law_20 (s := s.setDrawn d0) C hi0 hi1 hi2 hi3 hi4 hcs hss hl hP hD hS hI2.2.2.2.2.2.2.2.2.2.2.2.2.2.2.2.2.2.2.2.2.1 hnext
    | 21, _ =>
      refine lv_tableIn (off := 1373) (tgt := 1412) hx hb dL_law_39 (by decide) (by decide) rfl (by decide) ?_
      exact c_law_21 (s := s.setDrawn d0) C hi0 hi1 hi2 hi3 hi4 hcs hss hl hP hD hS hI2.2.2.2.2.2.2.2.2.2.2.2.2.2.2.2.2.2.2.2.2.2.1 hnext
    | 22, _ =>
      refine lv_tableIn (off := 1429) (tgt := 1468) hx hb dL_law_39 (by decide) (by decide) rfl (by decide) ?_
      exact c_law_22 (s := s.setDrawn d0) C hi0 hi1 hi2 hi3 hi4 hcs hss hl hP hD hS hI2.2.2.2.2.2.2.2.2.2.2.2.2.2.2.2.2.2.2.2.2.2.2.1 hnext
    | 23, _ =>
      refine lv_tableIn (off := 1470) (tgt := 1509) hx hb dL_law_39 (by decide) (by decide) rfl (by decide) ?_
      exact c_law_23 (s := s.setDrawn d0) C hi0 hi1 hi2 hi3 hi4 hcs hss hl hP hD hS hI2.2.2.2.2.2.2.2.2.2.2.2.2.2.2.2.2.2.2.2.2.2.2.2.1 hnext
    | 24, _ =>
      refine lv_tableIn (off := 1526) (tgt := 1565) hx hb dL_law_39 (by decide) (by decide) rfl (by decide) ?_
      exact c_law_24 (s := s.setDrawn d0) C hi0 hi1 hi2 hi3 hi4 hcs hss hl hP hD hS hI2.2.2.2.2.2.2.2.2.2.2.2.2.2.2.2.2.2.2.2.2.2.2.2.2.1 hnext
    | 25, _ =>
      refine lv_tableIn (off := 1582) (tgt := 1621) hx hb dL_law_39 (by decide) (by decide) rfl (by decide) ?_
      exact c_law_25 (s := s.setDrawn d0) C hi0 hi1 hi2 hi3 hi4 hcs hss hl hP hD hS hI2.2.2.2.2.2.2.2.2.2.2.2.2.2.2.2.2.2.2.2.2.2.2.2.2.2.1 hnext
    | 26, _ =>
      refine lv_tableIn (off := 1638) (tgt := 1677) hx hb dL_law_39 (by decide) (by decide) rfl (by decide) ?_
      exact c_law_26 (s := s.setDrawn d0) C hi0 hi1 hi2 hi3 hi4 hcs hss hl hP hD hS hI2.2.2.2.2.2.2.2.2.2.2.2.2.2.2.2.2.2.2.2.2.2.2.2.2.2.2.1 hnext
    | 27, _ =>
      refine lv_tableIn (off := 1694) (tgt := 1733) hx hb dL_law_39 (by decide) (by decide) rfl (by decide) ?_
      exact c_law_27 (s := s.setDrawn d0) C hi0 hi1 hi2 hi3 hi4 hcs hss hl hP hD hS hI2.2.2.2.2.2.2.2.2.2.2.2.2.2.2.2.2.2.2.2.2.2.2.2.2.2.2.2.1 hnext
    | 28, _ =>
      refine lv_tableIn (off := 1707) (tgt := 1746) hx hb dL_law_39 (by decide) (by decide) rfl (by decide) ?_
      exact c_law_28 (s := s.setDrawn d0) C hi0 hi1 hi2 hi3 hi4 hcs hss hl hP hD hS hI2.2.2.2.2.2.2.2.2.2.2.2.2.2.2.2.2.2.2.2.2.2.2.2.2.2.2.2.2.1 hnext
    | 29, _ =>
      refine lv_tableIn (off := 1720) (tgt := 1759) hx hb dL_law_39 (by decide) (by decide) rfl (by decide) ?_
      exact c_law_29 (s := s.setDrawn d0) C hi0 hi1 hi2 hi3 hi4 hcs hss hl hP hD hS hI2.2.2.2.2.2.2.2.2.2.2.2.2.2.2.2.2.2.2.2.2.2.2.2.2.2.2.2.2.2.1 hnext
    | 30, _ =>
      refine lv_tableIn (off := 1764) (tgt := 1803) hx hb dL_law_39 (by decide) (by decide) rfl (by decide) ?_
      exact c_law_30 (s := s.setDrawn d0) C hi0 hi1 hi2 hi3 hi4 hcs hss hl hP hD hS hI2.2.2.2.2.2.2.2.2.2.2.2.2.2.2.2.2.2.2.2.2.2.2.2.2.2.2.2.2.2.2.1 hnext
    | 31, _ =>
      refine lv_tableIn (off := 1808) (tgt := 1847) hx hb dL_law_39 (by decide) (by decide) rfl (by decide) ?_
      exact c_law_31 (s := s.setDrawn d0) C hi0 hi1 hi2 hi3 hi4 hcs hss hl hP hD hS hI2.2.2.2.2.2.2.2.2.2.2.2.2.2.2.2.2.2.2.2.2.2.2.2.2.2.2.2.2.2.2.2.1 hnext
    | 32, _ =>
      refine lv_tableIn (off := 1821) (tgt := 1860) hx hb dL_law_39 (by decide) (by decide) rfl (by decide) ?_
      exact c_law_32 (s := s.setDrawn d0) C hi0 hi1 hi2 hi3 hi4 hcs hss hl hP hD hS hI2.2.2.2.2.2.2.2.2.2.2.2.2.2.2.2.2.2.2.2.2.2.2.2.2.2.2.2.2.2.2.2.2 hnext
    | (k + 33), hk64 =>
      refine lv_tableOut (tgt := 1874) hx hb dL_law_39 (Or.inr (by rw [nI_toInt (by omega)]; omega)) (by decide) ?_
      refine W.widen (k := 72 + 2 * j + 2) (n := 1862 + 12 * j + 12) (by omega) (by omega) ?_
      exact hnext d0 N O M H locs ls (Drawn.sameBut.refl _ _) hl hP hD hS hI
