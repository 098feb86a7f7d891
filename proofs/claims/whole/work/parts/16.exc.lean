/-! exceptions: what they need of a state; methods that may throw: start, ends, calls -/
def exE : Nat → String
  | 1 => "java/lang/IndexOutOfBoundsException"
  | 2 => "java/lang/IllegalArgumentException"
  | _ => "java/lang/IllegalStateException"
def exC : Nat → Nat
  | 1 => 234
  | 2 => 135
  | _ => 90
def exK : Nat → Nat
  | 1 => 230
  | 2 => 131
  | _ => 86
def exN : List String := ["java/lang/RuntimeException", "java/lang/Exception"]
def strL : List (Nat × String) := [(232, "a number is out of range"), (235, "an argument is not allowed"), (237, "the state does not allow this call"), (88, "there is no road, or an envelope is on the last one"), (133, "ticks is out of range"), (172, "code is out of range"), (177, "the buffer is full"), (193, "the buffer is not a complete order text"), (205, "no state is saved")]
def dcL : List MethodName := [⟨"java/lang/RuntimeException", "<init>", "()V"⟩, ⟨"java/lang/RuntimeException", "<init>", "(Ljava/lang/String;)V"⟩, ⟨"java/lang/Exception", "<init>", "()V"⟩, ⟨"java/lang/Exception", "<init>", "(Ljava/lang/String;)V"⟩, ⟨"java/lang/Throwable", "<init>", "()V"⟩, ⟨"java/lang/Throwable", "<init>", "(Ljava/lang/String;)V"⟩]
def exB : List Cond := [Cond.castable (exE 1) (exE 1), Cond.castable (exE 2) (exE 2), Cond.castable (exE 3) (exE 3)] ++ dcL.map Cond.declares
theorem xb1 : ∀ w ∈ (vx_atS RX3 (exC 1) (exE 1) exN).filter (fun w => !goodWord w), w ∈ exB := by decide +kernel
theorem xb2 : ∀ w ∈ (vx_atS RX3 (exC 2) (exE 2) exN).filter (fun w => !goodWord w), w ∈ exB := by decide +kernel
theorem xb3 : ∀ w ∈ (vx_atS RX3 (exC 3) (exE 3) exN).filter (fun w => !goodWord w), w ∈ exB := by decide +kernel
theorem xo1 : ∀ w ∈ (vx_atS RX3 (exC 1) (exE 1) exN), vx_ot w = true := by decide +kernel
theorem xo2 : ∀ w ∈ (vx_atS RX3 (exC 2) (exE 2) exN), vx_ot w = true := by decide +kernel
theorem xo3 : ∀ w ∈ (vx_atS RX3 (exC 3) (exE 3) exN), vx_ot w = true := by decide +kernel
theorem xt1 : ∀ w ∈ (vx_atS RX3 (exC 1) (exE 1) exN).filter goodWord, w ∈ lw_tbl := by decide +kernel
theorem xt2 : ∀ w ∈ (vx_atS RX3 (exC 2) (exE 2) exN).filter goodWord, w ∈ lw_tbl := by decide +kernel
theorem xt3 : ∀ w ∈ (vx_atS RX3 (exC 3) (exE 3) exN).filter goodWord, w ∈ lw_tbl := by decide +kernel
theorem xk1 : Cond.classLink RX3 (exK 1) (exE 1) ∈ lw_tbl ∧ Cond.initialized (exE 1) ∈ lw_tbl := by decide +kernel
theorem xk2 : Cond.classLink RX3 (exK 2) (exE 2) ∈ lw_tbl ∧ Cond.initialized (exE 2) ∈ lw_tbl := by decide +kernel
theorem xk3 : Cond.classLink RX3 (exK 3) (exE 3) ∈ lw_tbl ∧ Cond.initialized (exE 3) ∈ lw_tbl := by decide +kernel
def exOk (k : Nat) : Prop := k = 1 ∨ k = 2 ∨ k = 3
theorem ex_b {k : Nat} (h : exOk k) : ∀ w ∈ (vx_atS RX3 (exC k) (exE k) exN).filter (fun w => !goodWord w), w ∈ exB := by rcases h with rfl | rfl | rfl; exact xb1; exact xb2; exact xb3
theorem ex_o {k : Nat} (h : exOk k) : ∀ w ∈ (vx_atS RX3 (exC k) (exE k) exN), vx_ot w = true := by rcases h with rfl | rfl | rfl; exact xo1; exact xo2; exact xo3
theorem ex_t {k : Nat} (h : exOk k) : ∀ w ∈ (vx_atS RX3 (exC k) (exE k) exN).filter goodWord, w ∈ wsT := fun w hw => List.mem_filter.mpr ⟨(by rcases h with rfl | rfl | rfl; exact xt1; exact xt2; exact xt3 : ∀ w ∈ (vx_atS RX3 (exC k) (exE k) exN).filter goodWord, w ∈ lw_tbl) w hw, (List.mem_filter.mp hw).2⟩
theorem ex_k {k : Nat} (h : exOk k) : Cond.classLink RX3 (exK k) (exE k) ∈ wsT := by rcases h with rfl | rfl | rfl; exact List.mem_filter.mpr ⟨xk1.1, rfl⟩; exact List.mem_filter.mpr ⟨xk2.1, rfl⟩; exact List.mem_filter.mpr ⟨xk3.1, rfl⟩
theorem ex_i {k : Nat} (h : exOk k) : Cond.initialized (exE k) ∈ wsT := by rcases h with rfl | rfl | rfl; exact List.mem_filter.mpr ⟨xk1.2, rfl⟩; exact List.mem_filter.mpr ⟨xk2.2, rfl⟩; exact List.mem_filter.mpr ⟨xk3.2, rfl⟩
theorem ex_f {k : Nat} (h : exOk k) : Bundle.fit (exE k) = true := by rcases h with rfl | rfl | rfl <;> decide +kernel
theorem va_Nw_warmD {x : MethodName} {s U : State} (hW : s.WarmedH U.vm) (hZ : va_Nw (.declares x) s) : va_Nw (.declares x) U := va_tabs rfl (rfl : (s.setVm U.vm).vm = U.vm) (by rw [Cond.declares_setVm hW.alike]; exact hZ)
/-- what the tables say of exceptions -/
def XV (U : State) : Prop := (∀ k, exOk k → va_Nw (.castable (exE k) (exE k)) U) ∧ (∀ x ∈ dcL, va_Nw (.declares x) U) ∧ (∀ q ∈ strL, ∃ a, vk_R RX3 q.1 q.2 a U) ∧ (∀ j k, exOk j → exOk k → j ≠ k → va_Nc (exE j) (exE k) U)
theorem XV.warm {s U : State} (hW : s.WarmedH U.vm) (h : XV s) : XV U := ⟨fun k hk => va_Nw.warmC hW (h.1 k hk), fun x hx => va_Nw_warmD hW (h.2.1 x hx), fun q hq => by obtain ⟨a, ha⟩ := h.2.2.1 q hq; exact ⟨a, vk_R.warm hW ha⟩, fun j k hj hk hn => va_Nc.moved hW.alike (h.2.2.2 j k hj hk hn)⟩
theorem XV.calling {U : State} (g : JFrame) (mk : MethodId) (a : Array Value) (h : XV U) : XV (U.calling g mk a) := ⟨fun k hk => va_Nw.same rfl (u := U) rfl (h.1 k hk), fun x hx => va_Nw.same rfl (u := U) rfl (h.2.1 x hx), fun q hq => by obtain ⟨b, hb⟩ := h.2.2.1 q hq; exact ⟨b, vk_R.same (u := U) rfl hb⟩, fun j k hj hk hn => va_Nc.moved (u := U) (Vm.Alike.refl U.vm) (h.2.2.2 j k hj hk hn)⟩
theorem XV.b {U : State} {A : Array Value} (h : XV U) : ∀ w ∈ exB, w.before A U = true := by
  intro w hw
  rcases List.mem_append.mp hw with h1 | h1
  · rcases List.mem_cons.mp h1 with rfl | h1
    · exact va_Nw.use rfl (h.1 1 (Or.inl rfl))
    · rcases List.mem_cons.mp h1 with rfl | h1
      · exact va_Nw.use rfl (h.1 2 (Or.inr (Or.inl rfl)))
      · rw [List.mem_singleton.mp h1]
        exact va_Nw.use rfl (h.1 3 (Or.inr (Or.inr rfl)))
  · obtain ⟨x, hx, rfl⟩ := List.mem_map.mp h1
    exact va_Nw.use rfl (h.2.1 x hx)
/-- where Throwable's two statics lie: outside A -/
def XH (A : Nat → Prop) (U : State) (H : Heap) : Prop := vx_Zq Bundle.tN "UNASSIGNED_STACK" Bundle.steD A U H ∧ vx_Zq Bundle.tN "SUPPRESSED_SENTINEL" Bundle.listD A U H
def rwX (D : va_G) (T : List (ClassId × FieldType)) (wc : va_W) (sz : Nat) : State → Prop := fun U => rwP D T wc sz U ∧ XV U ∧ XH (va_A wc sz) U U.heap
abbrev xQ {S : Type} (D : va_G) (wf : S → va_W) (wc : va_W) (sz : Nat) : S → State → Prop := fun u t => va_P D vwCl (wf u) t.heap ∧ va_D (va_A wc sz) (wf u)
abbrev xX {S : Type} (D : va_G) (xp : Nat → S → Prop) (wf : S → va_W) (wc : va_W) (sz : Nat) : String → State → State → Prop := vx_X (fun q : Nat × S => xp q.1 q.2) (fun E q t => E = exE q.1 ∧ va_P D vwCl (wf q.2) t.heap ∧ va_D (va_A wc sz) (wf q.2)) (va_A wc sz)
theorem blindX {D : va_G} {T : List (ClassId × FieldType)} {wc : va_W} {av : List Value} {sz : Nat} : FrameBlind (va_Pc av (rwX D T wc sz)) := fun a U g mk q =>
  ⟨q.1, ⟨q.2.1.1, q.2.1.2.1, KK.calling g mk a q.2.1.2.2.1, q.2.1.2.2.2⟩, XV.calling g mk a q.2.2.1, vx_Zq.moved (u := U) (Vm.Alike.refl U.vm) q.2.2.2.1, vx_Zq.moved (u := U) (Vm.Alike.refl U.vm) q.2.2.2.2⟩
theorem XH.at {A B : Nat → Prop} {s U : State} {H : Heap} {locs : List Loc} (h : XH A s s.heap) (hS : va_S A s.heap H locs) (hB : ∀ q, B q → A q) (hW : s.WarmedH U.vm) (hU : U.heap = H) : XH B U U.heap := by
  rw [hU]
  exact ⟨vx_Zq.moved hW.alike ((h.1.kept hS.2.1).narrow hB), vx_Zq.moved hW.alike ((h.2.kept hS.2.1).narrow hB)⟩
section
variable {p : Program} {l : Launch} {e : Env} {R : Room} {s : State} {m : MethodId} {args : Array Value} {below : List Frame} {meth : Method} {c : Code} {H : Heap} {locs : List Loc} {cells slots mc ms : Nat} {Q : State → Prop} {A : Nat → Prop} {D : va_G} {T : List (ClassId × FieldType)} {ws wc wr : va_W} {pc : Nat} {ls : Array Slot} {rest st0 : List Value}
variable {y : MethodName} {bytes cc : ByteArray} {maxL nL n index : Nat} {ret : Option FieldType} {rm : Room} {own C : String} {b : Addr} {As : List Value} {W9 : List Cond}
theorem preX {av : List Value} (hpm : ws.Perm (wc ++ wr)) (hK : KK D T s) (hV : XV s) (hH : XH A s s.heap) (hP : va_P D vwCl ws H) (hD : va_D A ws) (hS : va_S A s.heap H locs) (hA : ∀ q, s.heap.size ≤ q → A q) : PreS s H (va_Pc av (rwX D T wc H.size)) av :=
  ⟨blindX, fun U hU hW => ⟨rfl, ((preRW (av := av) hpm hK hP hD).2 U hU hW).2, XV.warm hW hV, hH.at hS (vFree hpm hD hS hA) hW hU⟩⟩
/-- a call that may throw -/
theorem rx_ki {S : Type} {post : Int32 → S → Prop} {xp : Nat → S → Prop} {wf : S → va_W} {a : Array Value} (hr : vx_Run p l e R s m args below meth c H locs cells slots mc ms (F0 m pc ls st0) rest (va_Qi post (xQ D wf wc H.size) (va_A wc H.size) a) (xX D xp wf wc H.size) (va_A wc H.size))
    (hpm : ws.Perm (wc ++ wr)) (hP : va_P D vwCl ws H) (hD : va_D A ws) (hS : va_S A s.heap H locs) (hA : ∀ q, s.heap.size ≤ q → A q)
    (kx : ∀ {k u E ce q9 H1 locs1}, xp k u → E = exE k → va_P D vwCl (wf u ++ wr) H1 → va_D A (wf u ++ wr) → va_S A s.heap H1 locs1 → H1[q9]? = some ce → ce.vm = .none → s.vm.findClass E = some ce.cls → vx_W p l e R s m args below meth c H1 locs1 (cells + mc) (slots + ms) Q (F0 m pc ls rest) q9)
    (kk : ∀ r u H1 locs1, post r u → va_P D vwCl (wf u ++ wr) H1 → va_D A (wf u ++ wr) → va_S A s.heap H1 locs1 → W p l e R s m args below meth c H1 locs1 (cells + mc) (slots + ms) Q (F0 m (pc + 3) ls (.int r :: rest))) : W p l e R s m args below meth c H locs cells slots Q (F0 m pc ls st0) := by
  have hF := vFree hpm hD hS hA
  refine vx_calli hr hS (fun q _ h => hF q h) hF (fun q _ h => hF q h) (fun E ce q9 u t H1 locs1 ht hvm hp hb hz hk hS1 h1 h2 h3 => ?_) (fun r u t H1 locs1 ht hvm hp hb hz hk hS1 => ?_)
  · obtain ⟨b0, b1, b2⟩ := hb
    rw [ht] at b1
    obtain ⟨c1, c2⟩ := vJoin (vP_perm hpm hP) (vD_perm hpm hD) hk hF b1 b2
    exact kx hp b0 c1 c2 hS1 h1 h2 h3
  · obtain ⟨b1, b2⟩ := hb
    rw [ht] at b1
    obtain ⟨c1, c2⟩ := vJoin (vP_perm hpm hP) (vD_perm hpm hD) hk hF b1 b2
    exact kk r u H1 locs1 hp c1 c2 hS1
theorem rx_kv {S : Type} {post : S → Prop} {xp : Nat → S → Prop} {wf : S → va_W} {a : Array Value} (hr : vx_Run p l e R s m args below meth c H locs cells slots mc ms (F0 m pc ls st0) rest (va_Qv post (xQ D wf wc H.size) (va_A wc H.size) a) (xX D xp wf wc H.size) (va_A wc H.size))
    (hpm : ws.Perm (wc ++ wr)) (hP : va_P D vwCl ws H) (hD : va_D A ws) (hS : va_S A s.heap H locs) (hA : ∀ q, s.heap.size ≤ q → A q)
    (kx : ∀ {k u E ce q9 H1 locs1}, xp k u → E = exE k → va_P D vwCl (wf u ++ wr) H1 → va_D A (wf u ++ wr) → va_S A s.heap H1 locs1 → H1[q9]? = some ce → ce.vm = .none → s.vm.findClass E = some ce.cls → vx_W p l e R s m args below meth c H1 locs1 (cells + mc) (slots + ms) Q (F0 m pc ls rest) q9)
    (kk : ∀ u H1 locs1, post u → va_P D vwCl (wf u ++ wr) H1 → va_D A (wf u ++ wr) → va_S A s.heap H1 locs1 → W p l e R s m args below meth c H1 locs1 (cells + mc) (slots + ms) Q (F0 m (pc + 3) ls rest)) : W p l e R s m args below meth c H locs cells slots Q (F0 m pc ls st0) := by
  have hF := vFree hpm hD hS hA
  refine vx_callv hr hS (fun q _ h => hF q h) hF (fun q _ h => hF q h) (fun E ce q9 u t H1 locs1 ht hvm hp hb hz hk hS1 h1 h2 h3 => ?_) (fun u t H1 locs1 ht hvm hp hb hz hk hS1 => ?_)
  · obtain ⟨b0, b1, b2⟩ := hb
    rw [ht] at b1
    obtain ⟨c1, c2⟩ := vJoin (vP_perm hpm hP) (vD_perm hpm hD) hk hF b1 b2
    exact kx hp b0 c1 c2 hS1 h1 h2 h3
  · obtain ⟨b1, b2⟩ := hb
    rw [ht] at b1
    obtain ⟨c1, c2⟩ := vJoin (vP_perm hpm hP) (vD_perm hpm hD) hk hF b1 b2
    exact kk u H1 locs1 hp c1 c2 hS1
end
/-- a method that may throw: its ends -/
abbrev xEnds (p : Program) (l : Launch) (e : Env) (rm : Room) (s : State) (m : MethodId) (args : Array Value) (below : List Frame) (meth : Method) (c : Code) (Q : State → Prop) (A : Nat → Prop) (D : va_G) {S : Type} (xp : Nat → S → Prop) (wf : S → va_W) (cc : ByteArray) (nL mc ms : Nat) : Prop :=
  (∀ {k u H locs pc ls rest E ce q cells slots}, cells ≤ mc → slots ≤ ms → xp k u → E = exE k → va_P D vwCl (wf u) H → va_D A (wf u) → va_S A s.heap H locs → H[q]? = some ce → ce.vm = .none → s.vm.findClass E = some ce.cls → vx_W p l e rm s m args below meth c H locs cells slots Q (F0 m pc ls rest) q) ∧
  (∀ {k u H locs pc ls is text cells slots}, exOk k → (is, text) ∈ strL → cells + 1 ≤ mc → slots + 6 ≤ ms → xp k u → va_P D vwCl (wf u) H → va_D A (wf u) → va_S A s.heap H locs → ls.size = nL → decode cc pc = .ok (.new (exK k), 3) → decode cc (pc + 3) = .ok (.dup, 1) → decode cc (pc + 4) = .ok (.ldc is, 2) → decode cc (pc + 6) = .ok (.invokespecial (exC k), 3) → decode cc (pc + 9) = .ok (.athrow, 1) → W p l e rm s m args below meth c H locs cells slots Q (F0 m pc ls []))
theorem xEnds_of {p : Program} {l : Launch} {e : Env} {rm : Room} {s : State} {m : MethodId} {args : Array Value} {below : List Frame} {meth : Method} {c : Code} {D : va_G} {S : Type} {xp : Nat → S → Prop} {wf : S → va_W} {wc : va_W} {cc : ByteArray} {nL mc ms : Nat} {Qc : Array Value → State → Outcome → State → Prop} (hst : l.stackTraces = false) (F : CallFix p m c cc nL s args wsT RX3) (hV : XV s) (hH : XH (va_A wc s.heap.size) s s.heap) (ht : ∀ x ∈ c.exceptionTable.toList, False) (hlocks : meth.locks = false) (hrf : 6 ≤ rm.frames) (hrl : 90 ≤ rm.locals) (hrc : rm.cells = mc) (hrs : rm.slots = ms) :
    xEnds p l e rm s m args below meth c (vx_MQ below Qc (xX D xp wf wc s.heap.size) args s mc ms (va_A wc s.heap.size)) (va_A wc s.heap.size) D xp wf cc nL mc ms := by
  refine ⟨fun {k u H locs pc ls rest E ce q cells slots} hc1 hs1 hx hE hP hD hS h1 h2 h3 => ?_, fun {k u H locs pc ls is text cells slots} hk hs hc1 hs1 hx hP hD hS hsz d0 d3 d4 d6 d9 => ?_⟩
  · exact vx_out (fun x hx => (ht x hx).elim) hlocks h1 h2 h3 (fun t hT _ => ⟨(k, u), hx, ⟨hE, by rw [hT]; exact hP, hD⟩, hS.F hT⟩) hS.2.2 hc1 hs1
  · obtain ⟨hxx, hb, hml, hown, hts⟩ := F
    obtain ⟨sa, hsa⟩ := hV.2.2.1 (is, text) hs
    refine vx_throwS (A := va_A wc s.heap.size) (text := text) (cls := exE k) (names := exN) (ik := exK k) (is := is) (ic := exC k) (sa := sa) hxx hb hst hown (ex_f hk) (by decide +kernel) (hts _ (ex_k hk)) (hts _ (ex_i hk)) hsa (vx_hat (fun w hw => hts w (ex_t hk w hw)) (ex_b hk) (XV.b hV)) ?_ hH.1 hH.2 hS (hsz.trans hml.symm) d0 d3 d4 d6 d9 (fun x hx => (ht x hx).elim) (Nat.lt_of_lt_of_le (by decide) hrf) (Nat.le_trans (by decide) hrl) (by rw [hrc]; exact hc1) (by rw [hrs]; exact hs1) hlocks (fun t _ hz hq => ⟨(k, u), hx, ⟨rfl, hP.kept (fun i q hi => hq q.1 (hP i q hi).lt), hD⟩, ?_⟩) hS.2.2 hc1 hs1
    · intro w hw
      rcases List.mem_cons.mp hw with rfl | hw
      · rfl
      · rcases List.mem_cons.mp hw with rfl | hw
        · rfl
        · exact ex_o hk w hw
    · exact ⟨Nat.le_trans hS.1 hz, fun q h1 h2 => (hq q (Nat.lt_of_lt_of_le h1 hS.1)).trans (hS.2.1 q h1 h2)⟩
theorem mkXi {l : Launch} {y : MethodName} {cc : ByteArray} {nL : Nat} {rm : Room} {D : va_G} {T : List (ClassId × FieldType)} {S : Type} {wc : va_W} {wf : S → va_W} {sz mc ms : Nat} {av : List Value} {post : Int32 → S → Prop} {xp : Nat → S → Prop} (hst : l.stackTraces = false) (hy : plainName y.cls = true) (hyc : y.cls = RX3) (hnl : (lg_sl av).length ≤ nL) (hrf : 6 ≤ rm.frames) (hrl : 90 ≤ rm.locals) (hrc : rm.cells = mc) (hrs : rm.slots = ms)
    (body : ∀ {p : Program} {e : Env} {s : State} {m : MethodId} {args : Array Value} {below : List Frame} {meth : Method} {c : Code} {Q : State → Prop} {ls : Array Slot} {A : Nat → Prop} {H : Heap} {locs : List Loc}, p.tables.exec = Jvm.exec → c.code = cc → CallFix p m c cc nL s args wsT RX3 → (∀ w ∈ wsT, w.before args s = true) → s.vm.findClass RX3 = some m.cls → KK D T s → XV s → XH A s s.heap → va_P D vwCl wc H → va_D A wc → va_S A s.heap H locs → (∀ q, s.heap.size ≤ q → A q) → lv_has ls nL (lv_args 0 av) → xEnds p l e rm s m args below meth c Q A D xp wf cc nL mc ms →
      (∀ {v : Int32} {u : S} {H : Heap} {locs : List Loc} {pc : Nat} {ls : Array Slot} {cells slots : Nat}, cells ≤ mc → slots ≤ ms → post v u → va_P D vwCl (wf u) H → va_D A (wf u) → va_S A s.heap H locs → decode cc pc = .ok (.ireturn, 1) → W p l e rm s m args below meth c H locs cells slots Q (F0 m pc ls [.int v])) → W p l e rm s m args below meth c H locs 0 0 Q (F0 m 0 ls [])) :
    vx_Met l y (wsA y cc nL (some .int)) rm (va_Pc av (rwX D T wc sz)) (va_Qi post (xQ D wf wc sz) (va_A wc sz)) (xX D xp wf wc sz) mc ms (va_A wc sz) := by
  refine vx_ofW (cc := cc) (maxL := nL) (ret := (some .int)) hy rfl ?_
  intro p e s m args below meth c s₁ B hml ht hv
  obtain ⟨rfl, ⟨hsz, hP, hK, hD0⟩, hV, hH⟩ := hv
  have hts : ∀ w ∈ wsT, w.before av.toArray s = true := fun w h => atoms_spec (ws := wsA y cc nL (some .int)) B.pre w (List.mem_cons_of_mem _ h)
  have hl := lv_entry av (n := nL) hnl
  have hown : s.vm.findClass RX3 = some m.cls := by rw [← hyc]; exact findClass_of_methodNamed B.named
  rw [lg_entry_eq]
  subst hsz
  have F : CallFix p m c cc nL s av.toArray wsT RX3 := ⟨B.exec, B.bytes, hml, hown, hts⟩
  refine body (A := va_A wc s.heap.size) (H := s.heap) (locs := []) B.exec B.bytes F hts hown hK hV hH hP hD0.self va_S.rf (fun q h => Or.inr h) hl (xEnds_of hst F hV hH ht B.notSynchronized hrf hrl hrc hrs) (fun {v u H locs pc ls cells slots} hc1 hs1 hpv hP1 hD1 hS hd => ?_)
  refine W.widen hc1 hs1 (vx_ret ?_)
  exact W.iret B.exec B.bytes B.returns (fun t ht hW => ⟨⟨v, u, rfl, hpv, by rw [ht]; exact hP1, hD1⟩, hS.F ht⟩) hS.2.2 hd B.notSynchronized
theorem mkXz {l : Launch} {y : MethodName} {cc : ByteArray} {nL : Nat} {rm : Room} {D : va_G} {T : List (ClassId × FieldType)} {S : Type} {wc : va_W} {wf : S → va_W} {sz mc ms : Nat} {av : List Value} {post : Int32 → S → Prop} {xp : Nat → S → Prop} (hst : l.stackTraces = false) (hy : plainName y.cls = true) (hyc : y.cls = RX3) (hnl : (lg_sl av).length ≤ nL) (hrf : 6 ≤ rm.frames) (hrl : 90 ≤ rm.locals) (hrc : rm.cells = mc) (hrs : rm.slots = ms)
    (body : ∀ {p : Program} {e : Env} {s : State} {m : MethodId} {args : Array Value} {below : List Frame} {meth : Method} {c : Code} {Q : State → Prop} {ls : Array Slot} {A : Nat → Prop} {H : Heap} {locs : List Loc}, p.tables.exec = Jvm.exec → c.code = cc → CallFix p m c cc nL s args wsT RX3 → (∀ w ∈ wsT, w.before args s = true) → s.vm.findClass RX3 = some m.cls → KK D T s → XV s → XH A s s.heap → va_P D vwCl wc H → va_D A wc → va_S A s.heap H locs → (∀ q, s.heap.size ≤ q → A q) → lv_has ls nL (lv_args 0 av) → xEnds p l e rm s m args below meth c Q A D xp wf cc nL mc ms →
      (∀ {v : Int32} {u : S} {H : Heap} {locs : List Loc} {pc : Nat} {ls : Array Slot} {cells slots : Nat}, cells ≤ mc → slots ≤ ms → bz v → post v u → va_P D vwCl (wf u) H → va_D A (wf u) → va_S A s.heap H locs → decode cc pc = .ok (.ireturn, 1) → W p l e rm s m args below meth c H locs cells slots Q (F0 m pc ls [.int v])) → W p l e rm s m args below meth c H locs 0 0 Q (F0 m 0 ls [])) :
    vx_Met l y (wsA y cc nL (some .boolean)) rm (va_Pc av (rwX D T wc sz)) (va_Qi (fun r u => bz r ∧ post r u) (xQ D wf wc sz) (va_A wc sz)) (xX D xp wf wc sz) mc ms (va_A wc sz) := by
  refine vx_ofW (cc := cc) (maxL := nL) (ret := (some .boolean)) hy rfl ?_
  intro p e s m args below meth c s₁ B hml ht hv
  obtain ⟨rfl, ⟨hsz, hP, hK, hD0⟩, hV, hH⟩ := hv
  have hts : ∀ w ∈ wsT, w.before av.toArray s = true := fun w h => atoms_spec (ws := wsA y cc nL (some .boolean)) B.pre w (List.mem_cons_of_mem _ h)
  have hl := lv_entry av (n := nL) hnl
  have hown : s.vm.findClass RX3 = some m.cls := by rw [← hyc]; exact findClass_of_methodNamed B.named
  rw [lg_entry_eq]
  subst hsz
  have F : CallFix p m c cc nL s av.toArray wsT RX3 := ⟨B.exec, B.bytes, hml, hown, hts⟩
  refine body (A := va_A wc s.heap.size) (H := s.heap) (locs := []) B.exec B.bytes F hts hown hK hV hH hP hD0.self va_S.rf (fun q h => Or.inr h) hl (xEnds_of hst F hV hH ht B.notSynchronized hrf hrl hrc hrs) (fun {v u H locs pc ls cells slots} hc1 hs1 hbz hpv hP1 hD1 hS hd => ?_)
  refine W.widen hc1 hs1 (vx_ret ?_)
  exact W.zret B.exec B.bytes B.returns (bz_nar hbz) (fun t ht hW => ⟨⟨v, u, rfl, ⟨hbz, hpv⟩, by rw [ht]; exact hP1, hD1⟩, hS.F ht⟩) hS.2.2 hd B.notSynchronized
theorem mkXv {l : Launch} {y : MethodName} {cc : ByteArray} {nL : Nat} {rm : Room} {D : va_G} {T : List (ClassId × FieldType)} {S : Type} {wc : va_W} {wf : S → va_W} {sz mc ms : Nat} {av : List Value} {post : S → Prop} {xp : Nat → S → Prop} (hst : l.stackTraces = false) (hy : plainName y.cls = true) (hyc : y.cls = RX3) (hnl : (lg_sl av).length ≤ nL) (hrf : 6 ≤ rm.frames) (hrl : 90 ≤ rm.locals) (hrc : rm.cells = mc) (hrs : rm.slots = ms)
    (body : ∀ {p : Program} {e : Env} {s : State} {m : MethodId} {args : Array Value} {below : List Frame} {meth : Method} {c : Code} {Q : State → Prop} {ls : Array Slot} {A : Nat → Prop} {H : Heap} {locs : List Loc}, p.tables.exec = Jvm.exec → c.code = cc → CallFix p m c cc nL s args wsT RX3 → (∀ w ∈ wsT, w.before args s = true) → s.vm.findClass RX3 = some m.cls → KK D T s → XV s → XH A s s.heap → va_P D vwCl wc H → va_D A wc → va_S A s.heap H locs → (∀ q, s.heap.size ≤ q → A q) → lv_has ls nL (lv_args 0 av) → xEnds p l e rm s m args below meth c Q A D xp wf cc nL mc ms →
      (∀ {u : S} {H : Heap} {locs : List Loc} {pc : Nat} {ls : Array Slot} {cells slots : Nat}, cells ≤ mc → slots ≤ ms → post u → va_P D vwCl (wf u) H → va_D A (wf u) → va_S A s.heap H locs → decode cc pc = .ok (.return_, 1) → W p l e rm s m args below meth c H locs cells slots Q (F0 m pc ls [])) → W p l e rm s m args below meth c H locs 0 0 Q (F0 m 0 ls [])) :
    vx_Met l y (wsA y cc nL none) rm (va_Pc av (rwX D T wc sz)) (va_Qv post (xQ D wf wc sz) (va_A wc sz)) (xX D xp wf wc sz) mc ms (va_A wc sz) := by
  refine vx_ofW (cc := cc) (maxL := nL) (ret := none) hy rfl ?_
  intro p e s m args below meth c s₁ B hml ht hv
  obtain ⟨rfl, ⟨hsz, hP, hK, hD0⟩, hV, hH⟩ := hv
  have hts : ∀ w ∈ wsT, w.before av.toArray s = true := fun w h => atoms_spec (ws := wsA y cc nL none) B.pre w (List.mem_cons_of_mem _ h)
  have hl := lv_entry av (n := nL) hnl
  have hown : s.vm.findClass RX3 = some m.cls := by rw [← hyc]; exact findClass_of_methodNamed B.named
  rw [lg_entry_eq]
  subst hsz
  have F : CallFix p m c cc nL s av.toArray wsT RX3 := ⟨B.exec, B.bytes, hml, hown, hts⟩
  refine body (A := va_A wc s.heap.size) (H := s.heap) (locs := []) B.exec B.bytes F hts hown hK hV hH hP hD0.self va_S.rf (fun q h => Or.inr h) hl (xEnds_of hst F hV hH ht B.notSynchronized hrf hrl hrc hrs) (fun {u H locs pc ls cells slots} hc1 hs1 hpv hP1 hD1 hS hd => ?_)
  refine W.widen hc1 hs1 (vx_ret ?_)
  exact W.vret B.exec B.bytes B.returns (fun t ht hW => ⟨⟨u, rfl, hpv, by rw [ht]; exact hP1, hD1⟩, hS.F ht⟩) hS.2.2 hd B.notSynchronized
section
variable {p : Program} {l : Launch} {e : Env} {R : Room} {s : State} {m : MethodId} {args : Array Value} {below : List Frame} {meth : Method} {c : Code} {H : Heap} {locs : List Loc} {cells slots mc ms : Nat} {Q : State → Prop} {A : Nat → Prop} {D : va_G} {T : List (ClassId × FieldType)} {ws wc wr : va_W} {pc : Nat} {ls : Array Slot} {rest st0 : List Value}
variable {y : MethodName} {bytes cc : ByteArray} {maxL nL n index : Nat} {ret : Option FieldType} {rm : Room} {own C : String} {b : Addr} {As : List Value} {W9 : List Cond}
theorem rxSv {S : Type} {post : S → Prop} {xp : Nat → S → Prop} {wf : S → va_W} (hpm : ws.Perm (wc ++ wr)) (F : CallFix p m c cc nL s args wsT own) (hM : vx_Met l y W9 rm (va_Pc As (rwX D T wc H.size)) (va_Qv post (xQ D wf wc H.size) (va_A wc H.size)) (xX D xp wf wc H.size) mc ms (va_A wc H.size)) (cw : CallB R s args own index y bytes maxL ret W9 rm mc ms n ∧ (Cond.static y).before args s = true)
    (hK : KK D T s) (hV : XV s) (hH : XH A s s.heap) (hP : va_P D vwCl ws H) (hD : va_D A ws) (hS : va_S A s.heap H locs) (hA : ∀ q, s.heap.size ≤ q → A q) (hn : As.length = n) (hsz : ls.size = nL) (hst : st0 = As.reverse ++ rest) (hW : (rest.map fun v => v.category).sum ≤ 8) (hdg : decode cc pc = .ok (.invokestatic index, 3)) (hf : cells + mc ≤ R.cells ∧ slots + ms ≤ R.slots)
    (kx : ∀ {k u E ce q9 H1 locs1}, xp k u → E = exE k → va_P D vwCl (wf u ++ wr) H1 → va_D A (wf u ++ wr) → va_S A s.heap H1 locs1 → H1[q9]? = some ce → ce.vm = .none → s.vm.findClass E = some ce.cls → vx_W p l e R s m args below meth c H1 locs1 (cells + mc) (slots + ms) Q (F0 m pc ls rest) q9)
    (kk : ∀ u H1 locs1, post u → va_P D vwCl (wf u ++ wr) H1 → va_D A (wf u ++ wr) → va_S A s.heap H1 locs1 → W p l e R s m args below meth c H1 locs1 (cells + mc) (slots + ms) Q (F0 m (pc + 3) ls rest)) : W p l e R s m args below meth c H locs cells slots Q (F0 m pc ls st0) :=
  rx_kv (vx_runS F hM cw (preX hpm hK hV hH hP hD hS hA) rfl hn hsz hst (lv_room hW) hdg hf) hpm hP hD hS hA kx kk
theorem rxVi {S : Type} {post : Int32 → S → Prop} {xp : Nat → S → Prop} {wf : S → va_W} (hpm : ws.Perm (wc ++ wr)) (F : CallFix p m c cc nL s args wsT own) (hM : vx_Met l y W9 rm (va_Pc (.ref b :: As) (rwX D T wc H.size)) (va_Qi post (xQ D wf wc H.size) (va_A wc H.size)) (xX D xp wf wc H.size) mc ms (va_A wc H.size)) (cw : CallW R s args own C index y bytes maxL ret W9 rm mc ms n)
    (hK : KK D T s) (hV : XV s) (hH : XH A s s.heap) (hP : va_P D vwCl ws H) (hD : va_D A ws) (hS : va_S A s.heap H locs) (hA : ∀ q, s.heap.size ≤ q → A q) (hr : ∃ cell : Cell, H[b]? = some cell ∧ cell.vm.isStatics = false ∧ s.vm.findClass C = some cell.cls) (hn : As.length = n) (hsz : ls.size = nL) (hst : st0 = As.reverse ++ .ref b :: rest) (hW : (rest.map fun v => v.category).sum ≤ 8) (hdg : decode cc pc = .ok (.invokevirtual index, 3)) (hf : cells + mc ≤ R.cells ∧ slots + ms ≤ R.slots)
    (kx : ∀ {k u E ce q9 H1 locs1}, xp k u → E = exE k → va_P D vwCl (wf u ++ wr) H1 → va_D A (wf u ++ wr) → va_S A s.heap H1 locs1 → H1[q9]? = some ce → ce.vm = .none → s.vm.findClass E = some ce.cls → vx_W p l e R s m args below meth c H1 locs1 (cells + mc) (slots + ms) Q (F0 m pc ls rest) q9)
    (kk : ∀ r u H1 locs1, post r u → va_P D vwCl (wf u ++ wr) H1 → va_D A (wf u ++ wr) → va_S A s.heap H1 locs1 → W p l e R s m args below meth c H1 locs1 (cells + mc) (slots + ms) Q (F0 m (pc + 3) ls (.int r :: rest))) : W p l e R s m args below meth c H locs cells slots Q (F0 m pc ls st0) :=
  rx_ki (vx_runV F hM cw ⟨blindX, hr, (preX hpm hK hV hH hP hD hS hA).2⟩ rfl hn hsz hst (lv_room hW) hdg hf) hpm hP hD hS hA kx kk
end
