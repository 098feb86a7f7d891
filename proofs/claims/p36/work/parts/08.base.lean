/-! base: one list of words for every method; how a contract begins, is called, ends -/
def wsT : List Cond := lw_tbl.filter goodWord
theorem wsT_good {w : Cond} (h : w ∈ wsT) : goodWord w = true := (List.mem_filter.mp h).2
theorem wsT_tbl {w : Cond} (h : w ∈ wsT) : w ∈ lw_tbl := (List.mem_filter.mp h).1
theorem tw {w : Cond} (i : Nat) (h : lw_tbl[i]? = some w) (g : goodWord w = true) : w ∈ wsT := List.mem_filter.mpr ⟨List.mem_of_getElem? h, g⟩
abbrev wsA (y : MethodName) (b : ByteArray) (n : Nat) (r : Option FieldType) : List Cond := Cond.code y b n r :: wsT
theorem gA {y : MethodName} {b : ByteArray} {n : Nat} {r : Option FieldType} (h : Cond.code y b n r ∈ wsT) (fr : List Cond) (hf : ∀ w ∈ fr, w ∈ wsT) : GoodIn wsT (fr ++ wsA y b n r) := by
  intro w hw
  have hm : w ∈ wsT := by
    rcases List.mem_append.mp hw with h1 | h1
    · exact hf w h1
    · rcases List.mem_cons.mp h1 with h2 | h2
      · rw [h2]; exact h
      · exact h2
  exact ⟨hm, good_of_word (wsT_good hm)⟩
theorem gA0 {y : MethodName} {b : ByteArray} {n : Nat} {r : Option FieldType} (h : Cond.code y b n r ∈ wsT) : GoodIn wsT (wsA y b n r) := gA h [] (fun _ h => nomatch h)
theorem fc {P : Cond → Prop} {w : Cond} {l : List Cond} (h : P w) (t : ∀ x ∈ l, P x) : ∀ x ∈ w :: l, P x := List.forall_mem_cons.mpr ⟨h, t⟩
theorem fn {P : Cond → Prop} : ∀ x ∈ ([] : List Cond), P x := fun _ h => nomatch h
section
variable {R : Room} {s : State} {args : Array Value} {own C : String} {index maxL mc ms : Nat} {y : MethodName} {bytes : ByteArray} {ret : Option FieldType} {rm : Room}
theorem cwAV (n : Nat) (hts : ∀ w ∈ wsT, w.before args s = true) (hl : Cond.methodLink own index y ∈ wsT) (hi : Cond.instanceMethod y ∈ wsT) (hs : Cond.selects C y y ∈ wsT) (hn : Cond.initialized C ∈ wsT) (hc : Cond.code y bytes maxL ret ∈ wsT) (hrc : rm.cells = mc) (hrs : rm.slots = ms)
    (hd : y.cls = C ∧ y.cls ≠ "java/lang/invoke/MethodHandle" ∧ y.cls ≠ "java/lang/invoke/VarHandle" ∧ (parseMethodDescriptor y.desc).map (fun d => d.parameters.length) = some n) (hR : rm.frames + 1 ≤ R.frames ∧ 8 + (maxL + 11) + rm.locals ≤ R.locals) :
    CallW R s args own C index y bytes maxL ret (wsA y bytes maxL ret) rm mc ms n :=
  cwV n hts (gA hc [.methodLink own index y, .instanceMethod y, .selects C y y, .initialized C] (fc hl (fc hi (fc hs (fc hn fn))))) rfl hrc hrs hd hR
theorem cwAS (n : Nat) (hts : ∀ w ∈ wsT, w.before args s = true) (hl : Cond.methodLink own index y ∈ wsT) (hst : Cond.static y ∈ wsT) (hn : Cond.initialized y.cls ∈ wsT) (hc : Cond.code y bytes maxL ret ∈ wsT) (hrc : rm.cells = mc) (hrs : rm.slots = ms)
    (hd : y.cls ≠ "java/lang/invoke/MethodHandle" ∧ y.cls ≠ "java/lang/invoke/VarHandle" ∧ (parseMethodDescriptor y.desc).map (fun d => d.parameters.length) = some n) (hR : rm.frames + 1 ≤ R.frames ∧ 8 + (maxL + 11) + rm.locals ≤ R.locals) :
    CallB R s args own index y bytes maxL ret (wsA y bytes maxL ret) rm mc ms n ∧ (Cond.static y).before args s = true :=
  va_cwS n hts (gA hc [.methodLink own index y, .static y, .initialized y.cls] (fc hl (fc hst (fc hn fn)))) rfl hrc hrs hd hR
theorem cwAN {host : String} (n : Nat) (hts : ∀ w ∈ wsT, w.before args s = true) (hl : va_Nw (.methodLinkNest own index y host) s) (hst : Cond.static y ∈ wsT) (hn : Cond.initialized y.cls ∈ wsT) (hc : Cond.code y bytes maxL ret ∈ wsT) (hrc : rm.cells = mc) (hrs : rm.slots = ms)
    (hd : y.cls ≠ "java/lang/invoke/MethodHandle" ∧ y.cls ≠ "java/lang/invoke/VarHandle" ∧ (parseMethodDescriptor y.desc).map (fun d => d.parameters.length) = some n) (hR : rm.frames + 1 ≤ R.frames ∧ 8 + (maxL + 11) + rm.locals ≤ R.locals) :
    va_CN R s args own index y host bytes maxL ret (wsA y bytes maxL ret) rm mc ms n ∧ (Cond.static y).before args s = true :=
  ⟨va_cnB n hts (gA0 hc) rfl hrc hrs hl (hts _ hn) hd hR, hts _ hst⟩
end
/-- what the tables say, of any state of this launch: the classes, the arrays' classes, the nest's links -/
def nestL : List (String × Nat × MethodName) := [(RX2, 49, yX3_copyRow), (RX2, 71, yX3_read), (RX2, 97, yX3_isBetween), (RX2, 67, yX3_write), (RX2, 137, yX3_uncovered), (RX2, 107, yX3_covered)]
abbrev tysA (cI cS cJ : ClassId) : List (ClassId × FieldType) := [(cI, .int), (cS, .object RX2)]
def KK (D : va_G) (T : List (ClassId × FieldType)) (U : State) : Prop := va_K D vwCl T U ∧ ∀ q ∈ nestL, va_Nw (.methodLinkNest q.1 q.2.1 q.2.2 RX3) U
theorem KK.k {D : va_G} {T : List (ClassId × FieldType)} {U : State} (h : KK D T U) : va_K D vwCl T U := h.1
theorem KK.n {D : va_G} {T : List (ClassId × FieldType)} {U : State} (h : KK D T U) (i : Nat) {q : String × Nat × MethodName} (hq : nestL[i]? = some q) : va_Nw (.methodLinkNest q.1 q.2.1 q.2.2 RX3) U := h.2 q (List.mem_of_getElem? hq)
theorem KK.warm {D : va_G} {T : List (ClassId × FieldType)} {s U : State} (hW : s.WarmedH U.vm) (h : KK D T s) : KK D T U := ⟨va_K.moved hW.alike h.1, fun q hq => va_Nw.warmM hW (h.2 q hq)⟩
theorem KK.calling {D : va_G} {T : List (ClassId × FieldType)} {U : State} (g : JFrame) (mk : MethodId) (a : Array Value) (h : KK D T U) : KK D T (U.calling g mk a) := ⟨va_K.moved (u := U) (U := U.calling g mk a) (Vm.Alike.refl U.vm) h.1, fun q hq => va_Nw.same (by rfl) (u := U) rfl (h.2 q hq)⟩
/-- the start of a method that changes nothing: its heap is H0 -/
def roP (D : va_G) (T : List (ClassId × FieldType)) (wc : va_W) (H0 : Heap) : State → Prop := fun U => U.heap = H0 ∧ va_P D vwCl wc H0 ∧ KK D T U
/-- the start of a method that changes its world -/
def rwP (D : va_G) (T : List (ClassId × FieldType)) (wc : va_W) (sz : Nat) : State → Prop := fun U => U.heap.size = sz ∧ va_P D vwCl wc U.heap ∧ KK D T U ∧ va_D (fun _ => True) wc
abbrev nF : Nat → Prop := fun _ => False
theorem vP_mem {D : va_G} {cl : List vw_C} {ws : va_W} {H : Heap} : va_P D cl ws H ↔ ∀ q ∈ ws, va_at D cl q H :=
  ⟨fun h q hq => by obtain ⟨i, hi⟩ := List.getElem?_of_mem hq; exact h i q hi, fun h k q hk => h q (List.mem_of_getElem? hk)⟩
theorem vD_mem {A : Nat → Prop} {ws : va_W} : va_D A ws ↔ ws.Pairwise (fun x y => x.1 ≠ y.1) ∧ ∀ q ∈ ws, A q.1 := by
  constructor
  · intro h
    refine ⟨List.pairwise_iff_getElem.mpr (fun i j hi hj hij he => ?_), fun q hq => ?_⟩
    · have := h.1 i j ws[i] ws[j] (List.getElem?_eq_getElem hi) (List.getElem?_eq_getElem hj) he
      omega
    · obtain ⟨i, hi⟩ := List.getElem?_of_mem hq
      exact h.2 i q hi
  · intro h
    refine ⟨fun i j p q hi hj he => ?_, fun k q hk => h.2 q (List.mem_of_getElem? hk)⟩
    obtain ⟨hi', rfl⟩ := List.getElem?_eq_some_iff.mp hi
    obtain ⟨hj', rfl⟩ := List.getElem?_eq_some_iff.mp hj
    have hp := List.pairwise_iff_getElem.mp h.1
    rcases Nat.lt_trichotomy i j with q | q | q
    · exact absurd he (hp i j hi' hj' q)
    · exact q
    · exact absurd he.symm (hp j i hj' hi' q)
theorem vP_perm {D : va_G} {cl : List vw_C} {w1 w2 : va_W} {H : Heap} (hp : w1.Perm w2) (h : va_P D cl w1 H) : va_P D cl w2 H := vP_mem.mpr (fun q hq => vP_mem.mp h q (hp.mem_iff.mpr hq))
theorem vD_perm {A : Nat → Prop} {w1 w2 : va_W} (hp : w1.Perm w2) (h : va_D A w1) : va_D A w2 := by
  obtain ⟨h1, h2⟩ := vD_mem.mp h
  exact vD_mem.mpr ⟨(hp.pairwise_iff (fun h => Ne.symm h)).mp h1, fun q hq => h2 q (hp.mem_iff.mpr hq)⟩
theorem vP_L {D : va_G} {cl : List vw_C} {w1 w2 : va_W} {H : Heap} (h : va_P D cl (w1 ++ w2) H) : va_P D cl w1 H := vP_mem.mpr (fun q hq => vP_mem.mp h q (List.mem_append_left _ hq))
theorem vP_R {D : va_G} {cl : List vw_C} {w1 w2 : va_W} {H : Heap} (h : va_P D cl (w1 ++ w2) H) : va_P D cl w2 H := vP_mem.mpr (fun q hq => vP_mem.mp h q (List.mem_append_right _ hq))
theorem vD_L {A : Nat → Prop} {w1 w2 : va_W} (h : va_D A (w1 ++ w2)) : va_D A w1 := by
  obtain ⟨h1, h2⟩ := vD_mem.mp h
  exact vD_mem.mpr ⟨(List.pairwise_append.mp h1).1, fun q hq => h2 q (List.mem_append_left _ hq)⟩
theorem vP_nil {D : va_G} {cl : List vw_C} {H : Heap} : va_P D cl [] H := fun k q h => by simp at h
theorem vP_one {D : va_G} {cl : List vw_C} {ws : va_W} {H : Heap} (h : va_P D cl ws H) (k : Nat) {q : Nat × va_E} (hk : ws[k]? = some q) : va_P D cl [q] H := vP_mem.mpr (fun q' hq => by rw [List.mem_singleton.mp hq]; exact h k q hk)
/-- behind a call that had the world wc of wc ++ wr -/
theorem vJoin {A0 : Nat → Prop} {D : va_G} {cl : List vw_C} {wc wr w1 : va_W} {H H1 : Heap} (hP : va_P D cl (wc ++ wr) H) (hD : va_D A0 (wc ++ wr)) (hk : ∀ q : Nat, q < H.size → ¬ va_A wc H.size q → H1[q]? = H[q]?) (hF : ∀ q, va_A wc H.size q → A0 q) (hP1 : va_P D cl w1 H1) (hD1 : va_D (va_A wc H.size) w1) : va_P D cl (w1 ++ wr) H1 ∧ va_D A0 (w1 ++ wr) := by
  obtain ⟨d1, d2⟩ := vD_mem.mp hD
  obtain ⟨-, p2, p3⟩ := List.pairwise_append.mp d1
  obtain ⟨e1, e2⟩ := vD_mem.mp hD1
  have apart : ∀ q ∈ wr, q.1 < H.size ∧ ¬ va_A wc H.size q.1 := by
    intro q hq
    have hl : q.1 < H.size := (vP_mem.mp hP q (List.mem_append_right _ hq)).lt
    refine ⟨hl, fun h => ?_⟩
    rcases h with ⟨k, e, h⟩ | h
    · exact p3 (q.1, e) (List.mem_of_getElem? h) q hq rfl
    · omega
  refine ⟨vP_mem.mpr (fun q hq => ?_), vD_mem.mpr ⟨List.pairwise_append.mpr ⟨e1, p2, fun x hx y hy he => ?_⟩, fun q hq => ?_⟩⟩
  · rcases List.mem_append.mp hq with h | h
    · exact vP_mem.mp hP1 q h
    · obtain ⟨g1, g2⟩ := apart q h
      exact (vP_mem.mp hP q (List.mem_append_right _ h)).kept (hk q.1 g1 g2)
  · exact (apart y hy).2 (by rw [← he]; exact e2 x hx)
  · rcases List.mem_append.mp hq with h | h
    · exact hF _ (e2 q h)
    · exact d2 q (List.mem_append_right _ h)
theorem vFree {A0 : Nat → Prop} {ws wc wr : va_W} {H0 H : Heap} {locs : List Loc} (hp : ws.Perm (wc ++ wr)) (hD : va_D A0 ws) (hS : va_S A0 H0 H locs) (hA : ∀ q, H0.size ≤ q → A0 q) : ∀ q, va_A wc H.size q → A0 q := by
  intro q h
  rcases h with ⟨k, e, h⟩ | h
  · exact (vD_mem.mp (vD_perm hp hD)).2 (q, e) (List.mem_append_left _ (List.mem_of_getElem? h))
  · exact hA q (Nat.le_trans hS.1 h)
theorem perm_k {α : Type} : ∀ (ws : List α) (k : Nat) {x : α}, ws[k]? = some x → ws.Perm (x :: ws.eraseIdx k)
  | [], k, x, h => by simp at h
  | a :: l, 0, x, h => by
    rw [List.getElem?_cons_zero] at h
    cases h
    exact List.Perm.refl _
  | a :: l, k + 1, x, h => by
    rw [List.getElem?_cons_succ] at h
    exact ((perm_k l k h).cons a).trans (List.Perm.swap x a _)
theorem perm_set {α : Type} : ∀ (ws : List α) (k : Nat) {x : α} (y : α), ws[k]? = some x → (y :: ws.eraseIdx k).Perm (ws.set k y)
  | [], k, x, y, h => by simp at h
  | a :: l, 0, x, y, h => by
    rw [List.eraseIdx_cons_zero, List.set_cons_zero]
  | a :: l, k + 1, x, y, h => by
    rw [List.getElem?_cons_succ] at h
    rw [List.eraseIdx_cons_succ, List.set_cons_succ]
    exact (List.Perm.swap a y _).trans ((perm_set l k y h).cons a)
section
variable {p : Program} {l : Launch} {e : Env} {R : Room} {s : State} {m : MethodId} {args : Array Value} {below : List Frame} {meth : Method} {c : Code} {H H0 : Heap} {locs : List Loc} {cells slots mc ms : Nat} {Q : State → Prop} {A : Nat → Prop} {D : va_G} {T : List (ClassId × FieldType)} {ws wc wr : va_W} {a : Array Value} {pc : Nat} {ls : Array Slot} {rest st0 : List Value}
/-- behind a call that changed nothing -/
theorem ro_ki {post : Int32 → Prop} (hr : va_Run p l e R s m args below meth c H locs cells slots 0 0 (F0 m pc ls st0) rest (va_Qi (fun r (_ : Unit) => post r) (fun _ t => t.heap = H) nF a) nF)
    (kk : ∀ r, post r → W p l e R s m args below meth c H locs cells slots Q (F0 m (pc + 3) ls (.int r :: rest))) : W p l e R s m args below meth c H locs cells slots Q (F0 m pc ls st0) := by
  intro T hT X
  obtain ⟨v, st₀, t, T', L, h0, X', hL, e1, e2, ⟨⟨r, u, hv, hp, hb⟩, hF⟩, st⟩ := hr T hT X
  cases hv
  have hLn : L = [] := List.eq_nil_iff_forall_not_mem.mpr (fun q hq => hL q hq)
  subst hLn
  rw [List.append_nil, Nat.add_zero, Nat.add_zero] at X'
  obtain ⟨t2, a1, b1⟩ := kk r hp T' (e1.trans hb) X'
  exact ⟨t2, st t2 a1, b1⟩
theorem ro_kl {post : Int64 → Prop} (hr : va_Run p l e R s m args below meth c H locs cells slots 0 0 (F0 m pc ls st0) rest (va_Ql (fun r (_ : Unit) => post r) (fun _ t => t.heap = H) nF a) nF)
    (kk : ∀ r, post r → W p l e R s m args below meth c H locs cells slots Q (F0 m (pc + 3) ls (.long r :: rest))) : W p l e R s m args below meth c H locs cells slots Q (F0 m pc ls st0) := by
  intro T hT X
  obtain ⟨v, st₀, t, T', L, h0, X', hL, e1, e2, ⟨⟨r, u, hv, hp, hb⟩, hF⟩, st⟩ := hr T hT X
  cases hv
  have hLn : L = [] := List.eq_nil_iff_forall_not_mem.mpr (fun q hq => hL q hq)
  subst hLn
  rw [List.append_nil, Nat.add_zero, Nat.add_zero] at X'
  obtain ⟨t2, a1, b1⟩ := kk r hp T' (e1.trans hb) X'
  exact ⟨t2, st t2 a1, b1⟩
theorem rw_ki {S : Type} {post : Int32 → S → Prop} {wf : S → va_W} (hr : va_Run p l e R s m args below meth c H locs cells slots mc ms (F0 m pc ls st0) rest (va_Qi post (fun u t => va_P D vwCl (wf u) t.heap ∧ va_D (va_A wc H.size) (wf u)) (va_A wc H.size) a) (va_A wc H.size))
    (hpm : ws.Perm (wc ++ wr)) (hP : va_P D vwCl ws H) (hD : va_D A ws) (hS : va_S A H0 H locs) (hA : ∀ q, H0.size ≤ q → A q)
    (kk : ∀ r u H1 locs1, post r u → va_P D vwCl (wf u ++ wr) H1 → va_D A (wf u ++ wr) → va_S A H0 H1 locs1 → W p l e R s m args below meth c H1 locs1 (cells + mc) (slots + ms) Q (F0 m (pc + 3) ls (.int r :: rest))) : W p l e R s m args below meth c H locs cells slots Q (F0 m pc ls st0) := by
  have hF := vFree hpm hD hS hA
  refine va_calli hr hS (fun q _ h => hF q h) hF (fun r u t H1 locs1 ht hvm hp hb hz hk hS1 => ?_)
  obtain ⟨b1, b2⟩ := hb
  rw [ht] at b1
  obtain ⟨c1, c2⟩ := vJoin (vP_perm hpm hP) (vD_perm hpm hD) hk hF b1 b2
  exact kk r u H1 locs1 hp c1 c2 hS1
theorem rw_kv {S : Type} {post : S → Prop} {wf : S → va_W} (hr : va_Run p l e R s m args below meth c H locs cells slots mc ms (F0 m pc ls st0) rest (va_Qv post (fun u t => va_P D vwCl (wf u) t.heap ∧ va_D (va_A wc H.size) (wf u)) (va_A wc H.size) a) (va_A wc H.size))
    (hpm : ws.Perm (wc ++ wr)) (hP : va_P D vwCl ws H) (hD : va_D A ws) (hS : va_S A H0 H locs) (hA : ∀ q, H0.size ≤ q → A q)
    (kk : ∀ u H1 locs1, post u → va_P D vwCl (wf u ++ wr) H1 → va_D A (wf u ++ wr) → va_S A H0 H1 locs1 → W p l e R s m args below meth c H1 locs1 (cells + mc) (slots + ms) Q (F0 m (pc + 3) ls rest)) : W p l e R s m args below meth c H locs cells slots Q (F0 m pc ls st0) := by
  have hF := vFree hpm hD hS hA
  refine va_callv hr hS (fun q _ h => hF q h) hF (fun u t H1 locs1 ht hvm hp hb hz hk hS1 => ?_)
  obtain ⟨b1, b2⟩ := hb
  rw [ht] at b1
  obtain ⟨c1, c2⟩ := vJoin (vP_perm hpm hP) (vD_perm hpm hD) hk hF b1 b2
  exact kk u H1 locs1 hp c1 c2 hS1
theorem blindRO {av : List Value} : FrameBlind (va_Pc av (roP D T wc H0)) := fun a U g mk q => ⟨q.1, q.2.1, q.2.2.1, KK.calling g mk a q.2.2.2⟩
theorem blindRW {av : List Value} {sz : Nat} : FrameBlind (va_Pc av (rwP D T wc sz)) := fun a U g mk q => ⟨q.1, q.2.1, q.2.2.1, KK.calling g mk a q.2.2.2.1, q.2.2.2.2⟩
theorem preRO {av : List Value} (hK : KK D T s) (hP : va_P D vwCl wc H) : PreS s H (va_Pc av (roP D T wc H)) av := ⟨blindRO, fun U hU hW => ⟨rfl, hU, hP, KK.warm hW hK⟩⟩
theorem preRW {av : List Value} (hpm : ws.Perm (wc ++ wr)) (hK : KK D T s) (hP : va_P D vwCl ws H) (hD : va_D A ws) : PreS s H (va_Pc av (rwP D T wc H.size)) av :=
  ⟨blindRW, fun U hU hW => ⟨rfl, by rw [hU], by rw [hU]; exact vP_L (vP_perm hpm hP), KK.warm hW hK, vD_L (vD_perm hpm (hD.weaken (fun _ _ _ _ => trivial)))⟩⟩
end
section
variable {p : Program} {l : Launch} {e : Env} {R : Room} {s : State} {m : MethodId} {args : Array Value} {below : List Frame} {meth : Method} {c : Code} {H H0 : Heap} {locs : List Loc} {cells slots : Nat} {Q : State → Prop} {A : Nat → Prop} {D : va_G} {T : List (ClassId × FieldType)} {ws wc wr : va_W} {pc : Nat} {ls : Array Slot} {rest st0 : List Value}
variable {y : MethodName} {bytes cc : ByteArray} {maxL nL n index ci k0 : Nat} {ret : Option FieldType} {rm : Room} {own C host : String} {b : Addr} {As : List Value} {W9 : List Cond}
theorem recv {qc : vw_C} {fs : List Value} (hK : KK D T s) (hP : va_P D vwCl wc H) (hc : vwCl[ci]? = some qc) (he : wc[k0]? = some (b, .inr (ci, fs))) : ∃ cell : Cell, H[b]? = some cell ∧ cell.vm.isStatics = false ∧ s.vm.findClass qc.1 = some cell.cls := va_recv hK.k hP hc he
/-- calls that change nothing: of an object's method, a static one, a static one of the nest -/
theorem roVi {post : Int32 → Prop} (F : CallFix p m c cc nL s args wsT own) (hM : Met l y W9 rm (va_Pc (.ref b :: As) (roP D T wc H)) (va_Qi (fun r (_ : Unit) => post r) (fun _ t => t.heap = H) nF) 0 0 nF) (cw : CallW R s args own C index y bytes maxL ret W9 rm 0 0 n)
    (hK : KK D T s) (hP : va_P D vwCl wc H) (hr : ∃ cell : Cell, H[b]? = some cell ∧ cell.vm.isStatics = false ∧ s.vm.findClass C = some cell.cls) (hn : As.length = n) (hsz : ls.size = nL) (hst : st0 = As.reverse ++ .ref b :: rest) (hW : (rest.map fun v => v.category).sum ≤ 8) (hdg : decode cc pc = .ok (.invokevirtual index, 3)) (hf : cells ≤ R.cells ∧ slots ≤ R.slots)
    (kk : ∀ r, post r → W p l e R s m args below meth c H locs cells slots Q (F0 m (pc + 3) ls (.int r :: rest))) : W p l e R s m args below meth c H locs cells slots Q (F0 m pc ls st0) :=
  ro_ki (va_runV F hM cw ⟨blindRO, hr, (preRO hK hP).2⟩ rfl hn hsz hst (lv_room hW) hdg hf) kk
theorem roVl {post : Int64 → Prop} (F : CallFix p m c cc nL s args wsT own) (hM : Met l y W9 rm (va_Pc (.ref b :: As) (roP D T wc H)) (va_Ql (fun r (_ : Unit) => post r) (fun _ t => t.heap = H) nF) 0 0 nF) (cw : CallW R s args own C index y bytes maxL ret W9 rm 0 0 n)
    (hK : KK D T s) (hP : va_P D vwCl wc H) (hr : ∃ cell : Cell, H[b]? = some cell ∧ cell.vm.isStatics = false ∧ s.vm.findClass C = some cell.cls) (hn : As.length = n) (hsz : ls.size = nL) (hst : st0 = As.reverse ++ .ref b :: rest) (hW : (rest.map fun v => v.category).sum ≤ 8) (hdg : decode cc pc = .ok (.invokevirtual index, 3)) (hf : cells ≤ R.cells ∧ slots ≤ R.slots)
    (kk : ∀ r, post r → W p l e R s m args below meth c H locs cells slots Q (F0 m (pc + 3) ls (.long r :: rest))) : W p l e R s m args below meth c H locs cells slots Q (F0 m pc ls st0) :=
  ro_kl (va_runV F hM cw ⟨blindRO, hr, (preRO hK hP).2⟩ rfl hn hsz hst (lv_room hW) hdg hf) kk
theorem roSi {post : Int32 → Prop} (F : CallFix p m c cc nL s args wsT own) (hM : Met l y W9 rm (va_Pc As (roP D T wc H)) (va_Qi (fun r (_ : Unit) => post r) (fun _ t => t.heap = H) nF) 0 0 nF) (cw : CallB R s args own index y bytes maxL ret W9 rm 0 0 n ∧ (Cond.static y).before args s = true)
    (hK : KK D T s) (hP : va_P D vwCl wc H) (hn : As.length = n) (hsz : ls.size = nL) (hst : st0 = As.reverse ++ rest) (hW : (rest.map fun v => v.category).sum ≤ 8) (hdg : decode cc pc = .ok (.invokestatic index, 3)) (hf : cells ≤ R.cells ∧ slots ≤ R.slots)
    (kk : ∀ r, post r → W p l e R s m args below meth c H locs cells slots Q (F0 m (pc + 3) ls (.int r :: rest))) : W p l e R s m args below meth c H locs cells slots Q (F0 m pc ls st0) :=
  ro_ki (va_runS F hM cw (preRO hK hP) rfl hn hsz hst (lv_room hW) hdg hf) kk
theorem roSl {post : Int64 → Prop} (F : CallFix p m c cc nL s args wsT own) (hM : Met l y W9 rm (va_Pc As (roP D T wc H)) (va_Ql (fun r (_ : Unit) => post r) (fun _ t => t.heap = H) nF) 0 0 nF) (cw : CallB R s args own index y bytes maxL ret W9 rm 0 0 n ∧ (Cond.static y).before args s = true)
    (hK : KK D T s) (hP : va_P D vwCl wc H) (hn : As.length = n) (hsz : ls.size = nL) (hst : st0 = As.reverse ++ rest) (hW : (rest.map fun v => v.category).sum ≤ 8) (hdg : decode cc pc = .ok (.invokestatic index, 3)) (hf : cells ≤ R.cells ∧ slots ≤ R.slots)
    (kk : ∀ r, post r → W p l e R s m args below meth c H locs cells slots Q (F0 m (pc + 3) ls (.long r :: rest))) : W p l e R s m args below meth c H locs cells slots Q (F0 m pc ls st0) :=
  ro_kl (va_runS F hM cw (preRO hK hP) rfl hn hsz hst (lv_room hW) hdg hf) kk
theorem roNi {post : Int32 → Prop} (F : CallFix p m c cc nL s args wsT own) (hM : Met l y W9 rm (va_Pc As (roP D T wc H)) (va_Qi (fun r (_ : Unit) => post r) (fun _ t => t.heap = H) nF) 0 0 nF) (cw : va_CN R s args own index y host bytes maxL ret W9 rm 0 0 n ∧ (Cond.static y).before args s = true)
    (hK : KK D T s) (hP : va_P D vwCl wc H) (hn : As.length = n) (hsz : ls.size = nL) (hst : st0 = As.reverse ++ rest) (hW : (rest.map fun v => v.category).sum ≤ 8) (hdg : decode cc pc = .ok (.invokestatic index, 3)) (hf : cells ≤ R.cells ∧ slots ≤ R.slots)
    (kk : ∀ r, post r → W p l e R s m args below meth c H locs cells slots Q (F0 m (pc + 3) ls (.int r :: rest))) : W p l e R s m args below meth c H locs cells slots Q (F0 m pc ls st0) :=
  ro_ki (va_runSN F hM ⟨cw.1, cw.2, trivial⟩ (preRO hK hP) rfl hn hsz hst (lv_room hW) hdg hf) kk
/-- calls that change their world wc -/
theorem rwVi {S : Type} {post : Int32 → S → Prop} {wf : S → va_W} {mc ms : Nat} (hpm : ws.Perm (wc ++ wr)) (F : CallFix p m c cc nL s args wsT own) (hM : Met l y W9 rm (va_Pc (.ref b :: As) (rwP D T wc H.size)) (va_Qi post (fun u t => va_P D vwCl (wf u) t.heap ∧ va_D (va_A wc H.size) (wf u)) (va_A wc H.size)) mc ms (va_A wc H.size)) (cw : CallW R s args own C index y bytes maxL ret W9 rm mc ms n)
    (hK : KK D T s) (hP : va_P D vwCl ws H) (hD : va_D A ws) (hS : va_S A H0 H locs) (hA : ∀ q, H0.size ≤ q → A q) (hr : ∃ cell : Cell, H[b]? = some cell ∧ cell.vm.isStatics = false ∧ s.vm.findClass C = some cell.cls) (hn : As.length = n) (hsz : ls.size = nL) (hst : st0 = As.reverse ++ .ref b :: rest) (hW : (rest.map fun v => v.category).sum ≤ 8) (hdg : decode cc pc = .ok (.invokevirtual index, 3)) (hf : cells + mc ≤ R.cells ∧ slots + ms ≤ R.slots)
    (kk : ∀ r u H1 locs1, post r u → va_P D vwCl (wf u ++ wr) H1 → va_D A (wf u ++ wr) → va_S A H0 H1 locs1 → W p l e R s m args below meth c H1 locs1 (cells + mc) (slots + ms) Q (F0 m (pc + 3) ls (.int r :: rest))) : W p l e R s m args below meth c H locs cells slots Q (F0 m pc ls st0) :=
  rw_ki (va_runV F hM cw ⟨blindRW, hr, (preRW hpm hK hP hD).2⟩ rfl hn hsz hst (lv_room hW) hdg hf) hpm hP hD hS hA kk
theorem rwVv {S : Type} {post : S → Prop} {wf : S → va_W} {mc ms : Nat} (hpm : ws.Perm (wc ++ wr)) (F : CallFix p m c cc nL s args wsT own) (hM : Met l y W9 rm (va_Pc (.ref b :: As) (rwP D T wc H.size)) (va_Qv post (fun u t => va_P D vwCl (wf u) t.heap ∧ va_D (va_A wc H.size) (wf u)) (va_A wc H.size)) mc ms (va_A wc H.size)) (cw : CallW R s args own C index y bytes maxL ret W9 rm mc ms n)
    (hK : KK D T s) (hP : va_P D vwCl ws H) (hD : va_D A ws) (hS : va_S A H0 H locs) (hA : ∀ q, H0.size ≤ q → A q) (hr : ∃ cell : Cell, H[b]? = some cell ∧ cell.vm.isStatics = false ∧ s.vm.findClass C = some cell.cls) (hn : As.length = n) (hsz : ls.size = nL) (hst : st0 = As.reverse ++ .ref b :: rest) (hW : (rest.map fun v => v.category).sum ≤ 8) (hdg : decode cc pc = .ok (.invokevirtual index, 3)) (hf : cells + mc ≤ R.cells ∧ slots + ms ≤ R.slots)
    (kk : ∀ u H1 locs1, post u → va_P D vwCl (wf u ++ wr) H1 → va_D A (wf u ++ wr) → va_S A H0 H1 locs1 → W p l e R s m args below meth c H1 locs1 (cells + mc) (slots + ms) Q (F0 m (pc + 3) ls rest)) : W p l e R s m args below meth c H locs cells slots Q (F0 m pc ls st0) :=
  rw_kv (va_runV F hM cw ⟨blindRW, hr, (preRW hpm hK hP hD).2⟩ rfl hn hsz hst (lv_room hW) hdg hf) hpm hP hD hS hA kk
theorem rwSv {S : Type} {post : S → Prop} {wf : S → va_W} {mc ms : Nat} (hpm : ws.Perm (wc ++ wr)) (F : CallFix p m c cc nL s args wsT own) (hM : Met l y W9 rm (va_Pc As (rwP D T wc H.size)) (va_Qv post (fun u t => va_P D vwCl (wf u) t.heap ∧ va_D (va_A wc H.size) (wf u)) (va_A wc H.size)) mc ms (va_A wc H.size)) (cw : CallB R s args own index y bytes maxL ret W9 rm mc ms n ∧ (Cond.static y).before args s = true)
    (hK : KK D T s) (hP : va_P D vwCl ws H) (hD : va_D A ws) (hS : va_S A H0 H locs) (hA : ∀ q, H0.size ≤ q → A q) (hn : As.length = n) (hsz : ls.size = nL) (hst : st0 = As.reverse ++ rest) (hW : (rest.map fun v => v.category).sum ≤ 8) (hdg : decode cc pc = .ok (.invokestatic index, 3)) (hf : cells + mc ≤ R.cells ∧ slots + ms ≤ R.slots)
    (kk : ∀ u H1 locs1, post u → va_P D vwCl (wf u ++ wr) H1 → va_D A (wf u ++ wr) → va_S A H0 H1 locs1 → W p l e R s m args below meth c H1 locs1 (cells + mc) (slots + ms) Q (F0 m (pc + 3) ls rest)) : W p l e R s m args below meth c H locs cells slots Q (F0 m pc ls st0) :=
  rw_kv (va_runS F hM cw (preRW hpm hK hP hD) rfl hn hsz hst (lv_room hW) hdg hf) hpm hP hD hS hA kk
theorem rwNv {S : Type} {post : S → Prop} {wf : S → va_W} {mc ms : Nat} (hpm : ws.Perm (wc ++ wr)) (F : CallFix p m c cc nL s args wsT own) (hM : Met l y W9 rm (va_Pc As (rwP D T wc H.size)) (va_Qv post (fun u t => va_P D vwCl (wf u) t.heap ∧ va_D (va_A wc H.size) (wf u)) (va_A wc H.size)) mc ms (va_A wc H.size)) (cw : va_CN R s args own index y host bytes maxL ret W9 rm mc ms n ∧ (Cond.static y).before args s = true)
    (hK : KK D T s) (hP : va_P D vwCl ws H) (hD : va_D A ws) (hS : va_S A H0 H locs) (hA : ∀ q, H0.size ≤ q → A q) (hn : As.length = n) (hsz : ls.size = nL) (hst : st0 = As.reverse ++ rest) (hW : (rest.map fun v => v.category).sum ≤ 8) (hdg : decode cc pc = .ok (.invokestatic index, 3)) (hf : cells + mc ≤ R.cells ∧ slots + ms ≤ R.slots)
    (kk : ∀ u H1 locs1, post u → va_P D vwCl (wf u ++ wr) H1 → va_D A (wf u ++ wr) → va_S A H0 H1 locs1 → W p l e R s m args below meth c H1 locs1 (cells + mc) (slots + ms) Q (F0 m (pc + 3) ls rest)) : W p l e R s m args below meth c H locs cells slots Q (F0 m pc ls st0) :=
  rw_kv (va_runSN F hM ⟨cw.1, cw.2, trivial⟩ (preRW hpm hK hP hD) rfl hn hsz hst (lv_room hW) hdg hf) hpm hP hD hS hA kk
end
/-- one cell of a world written by a callee -/
theorem vP_set1 {D : va_G} {ws : va_W} {k : Nat} {x y : Nat × va_E} {H : Heap} (hk : ws[k]? = some x) (h : va_P D vwCl ([y] ++ ws.eraseIdx k) H) : va_P D vwCl (ws.set k y) H := vP_perm (perm_set ws k y hk) h
theorem vD_set1 {A : Nat → Prop} {ws : va_W} {k : Nat} {x y : Nat × va_E} (hk : ws[k]? = some x) (h : va_D A ([y] ++ ws.eraseIdx k)) : va_D A (ws.set k y) := vD_perm (perm_set ws k y hk) h
/-- contracts: the start and the ends -/
theorem mkROi {l : Launch} {y : MethodName} {cc : ByteArray} {nL : Nat} {rm : Room} {D : va_G} {T : List (ClassId × FieldType)} {wc : va_W} {H0 : Heap} {av : List Value} {post : Int32 → Prop} (hy : plainFor y = true) (hnl : (lg_sl av).length ≤ nL)
    (body : ∀ {p : Program} {e : Env} {s : State} {m : MethodId} {args : Array Value} {below : List Frame} {meth : Method} {c : Code} {Q : State → Prop} {ls : Array Slot}, p.tables.exec = Jvm.exec → c.code = cc → CallFix p m c cc nL s args wsT y.cls → (∀ w ∈ wsT, w.before args s = true) → s.vm.findClass y.cls = some m.cls → KK D T s → va_P D vwCl wc H0 → lv_has ls nL (lv_args 0 av) →
      (∀ {v : Int32} {pc : Nat} {ls : Array Slot}, post v → decode cc pc = .ok (.ireturn, 1) → W p l e rm s m args below meth c H0 [] 0 0 Q (F0 m pc ls [.int v])) → W p l e rm s m args below meth c H0 [] 0 0 Q (F0 m 0 ls [])) :
    Met l y (wsA y cc nL (some .int)) rm (va_Pc av (roP D T wc H0)) (va_Qi (fun r (_ : Unit) => post r) (fun _ t => t.heap = H0) nF) 0 0 nF := by
  refine va_MetF (cc := cc) (maxL := nL) (ret := some .int) hy rfl ?_
  intro p e s m args below meth c s₁ B hml hv
  obtain ⟨rfl, hH, hP, hK⟩ := hv
  have hts : ∀ w ∈ wsT, w.before av.toArray s = true := fun w h => atoms_spec (ws := wsA y cc nL (some .int)) B.pre w (List.mem_cons_of_mem _ h)
  have hl := lv_entry av (n := nL) hnl
  rw [lg_entry_eq]
  subst hH
  refine body B.exec B.bytes ⟨B.exec, B.bytes, hml, findClass_of_methodNamed B.named, hts⟩ hts (findClass_of_methodNamed B.named) hK hP hl (fun {v pc ls} hpv hd => ?_)
  exact W.iret B.exec B.bytes B.returns (fun t ht hW => ⟨⟨v, (), rfl, hpv, ht⟩, (va_S.rf (A := nF) (H0 := s.heap)).F ht⟩) (fun q h => nomatch h) hd B.notSynchronized
theorem mkROl {l : Launch} {y : MethodName} {cc : ByteArray} {nL : Nat} {rm : Room} {D : va_G} {T : List (ClassId × FieldType)} {wc : va_W} {H0 : Heap} {av : List Value} {post : Int64 → Prop} (hy : plainFor y = true) (hnl : (lg_sl av).length ≤ nL)
    (body : ∀ {p : Program} {e : Env} {s : State} {m : MethodId} {args : Array Value} {below : List Frame} {meth : Method} {c : Code} {Q : State → Prop} {ls : Array Slot}, p.tables.exec = Jvm.exec → c.code = cc → CallFix p m c cc nL s args wsT y.cls → (∀ w ∈ wsT, w.before args s = true) → s.vm.findClass y.cls = some m.cls → KK D T s → va_P D vwCl wc H0 → lv_has ls nL (lv_args 0 av) →
      (∀ {v : Int64} {pc : Nat} {ls : Array Slot}, post v → decode cc pc = .ok (.lreturn, 1) → W p l e rm s m args below meth c H0 [] 0 0 Q (F0 m pc ls [.long v])) → W p l e rm s m args below meth c H0 [] 0 0 Q (F0 m 0 ls [])) :
    Met l y (wsA y cc nL (some .long)) rm (va_Pc av (roP D T wc H0)) (va_Ql (fun r (_ : Unit) => post r) (fun _ t => t.heap = H0) nF) 0 0 nF := by
  refine va_MetF (cc := cc) (maxL := nL) (ret := some .long) hy rfl ?_
  intro p e s m args below meth c s₁ B hml hv
  obtain ⟨rfl, hH, hP, hK⟩ := hv
  have hts : ∀ w ∈ wsT, w.before av.toArray s = true := fun w h => atoms_spec (ws := wsA y cc nL (some .long)) B.pre w (List.mem_cons_of_mem _ h)
  have hl := lv_entry av (n := nL) hnl
  rw [lg_entry_eq]
  subst hH
  refine body B.exec B.bytes ⟨B.exec, B.bytes, hml, findClass_of_methodNamed B.named, hts⟩ hts (findClass_of_methodNamed B.named) hK hP hl (fun {v pc ls} hpv hd => ?_)
  exact W.lret B.exec B.bytes B.returns (fun t ht hW => ⟨⟨v, (), rfl, hpv, ht⟩, (va_S.rf (A := nF) (H0 := s.heap)).F ht⟩) (fun q h => nomatch h) hd B.notSynchronized
def bz (v : Int32) : Prop := v = 0 ∨ v = 1
theorem bz0 : bz 0 := Or.inl rfl
theorem bz1 : bz 1 := Or.inr rfl
theorem bz_nar {v : Int32} (h : bz v) : narrow .boolean (.int v) = .int v := by rcases h with rfl | rfl <;> rfl
theorem mkROz {l : Launch} {y : MethodName} {cc : ByteArray} {nL : Nat} {rm : Room} {D : va_G} {T : List (ClassId × FieldType)} {wc : va_W} {H0 : Heap} {av : List Value} {post : Int32 → Prop} (hy : plainFor y = true) (hnl : (lg_sl av).length ≤ nL)
    (body : ∀ {p : Program} {e : Env} {s : State} {m : MethodId} {args : Array Value} {below : List Frame} {meth : Method} {c : Code} {Q : State → Prop} {ls : Array Slot}, p.tables.exec = Jvm.exec → c.code = cc → CallFix p m c cc nL s args wsT y.cls → (∀ w ∈ wsT, w.before args s = true) → s.vm.findClass y.cls = some m.cls → KK D T s → va_P D vwCl wc H0 → lv_has ls nL (lv_args 0 av) →
      (∀ {v : Int32} {pc : Nat} {ls : Array Slot}, bz v → post v → decode cc pc = .ok (.ireturn, 1) → W p l e rm s m args below meth c H0 [] 0 0 Q (F0 m pc ls [.int v])) → W p l e rm s m args below meth c H0 [] 0 0 Q (F0 m 0 ls [])) :
    Met l y (wsA y cc nL (some .boolean)) rm (va_Pc av (roP D T wc H0)) (va_Qi (fun r (_ : Unit) => bz r ∧ post r) (fun _ t => t.heap = H0) nF) 0 0 nF := by
  refine va_MetF (cc := cc) (maxL := nL) (ret := some .boolean) hy rfl ?_
  intro p e s m args below meth c s₁ B hml hv
  obtain ⟨rfl, hH, hP, hK⟩ := hv
  have hts : ∀ w ∈ wsT, w.before av.toArray s = true := fun w h => atoms_spec (ws := wsA y cc nL (some .boolean)) B.pre w (List.mem_cons_of_mem _ h)
  have hl := lv_entry av (n := nL) hnl
  rw [lg_entry_eq]
  subst hH
  refine body B.exec B.bytes ⟨B.exec, B.bytes, hml, findClass_of_methodNamed B.named, hts⟩ hts (findClass_of_methodNamed B.named) hK hP hl (fun {v pc ls} hbz hpv hd => ?_)
  exact W.zret B.exec B.bytes B.returns (bz_nar hbz) (fun t ht hW => ⟨⟨v, (), rfl, ⟨hbz, hpv⟩, ht⟩, (va_S.rf (A := nF) (H0 := s.heap)).F ht⟩) (fun q h => nomatch h) hd B.notSynchronized
theorem mkRWi {l : Launch} {y : MethodName} {cc : ByteArray} {nL : Nat} {rm : Room} {D : va_G} {T : List (ClassId × FieldType)} {S : Type} {wc : va_W} {wf : S → va_W} {sz mc ms : Nat} {av : List Value} {post : Int32 → S → Prop} (hy : plainFor y = true) (hnl : (lg_sl av).length ≤ nL)
    (body : ∀ {p : Program} {e : Env} {s : State} {m : MethodId} {args : Array Value} {below : List Frame} {meth : Method} {c : Code} {Q : State → Prop} {ls : Array Slot} {A : Nat → Prop} {H0 H : Heap} {locs : List Loc}, p.tables.exec = Jvm.exec → c.code = cc → CallFix p m c cc nL s args wsT y.cls → (∀ w ∈ wsT, w.before args s = true) → s.vm.findClass y.cls = some m.cls → KK D T s → va_P D vwCl wc H → va_D A wc → va_S A H0 H locs → (∀ q, H0.size ≤ q → A q) → lv_has ls nL (lv_args 0 av) →
      (∀ {v : Int32} {u : S} {H : Heap} {locs : List Loc} {pc : Nat} {ls : Array Slot}, post v u → va_P D vwCl (wf u) H → va_D A (wf u) → va_S A H0 H locs → decode cc pc = .ok (.ireturn, 1) → W p l e rm s m args below meth c H locs mc ms Q (F0 m pc ls [.int v])) → W p l e rm s m args below meth c H locs 0 0 Q (F0 m 0 ls [])) :
    Met l y (wsA y cc nL (some .int)) rm (va_Pc av (rwP D T wc sz)) (va_Qi post (fun u t => va_P D vwCl (wf u) t.heap ∧ va_D (va_A wc sz) (wf u)) (va_A wc sz)) mc ms (va_A wc sz) := by
  refine va_MetF (cc := cc) (maxL := nL) (ret := some .int) hy rfl ?_
  intro p e s m args below meth c s₁ B hml hv
  obtain ⟨rfl, hsz, hP, hK, hD0⟩ := hv
  have hts : ∀ w ∈ wsT, w.before av.toArray s = true := fun w h => atoms_spec (ws := wsA y cc nL (some .int)) B.pre w (List.mem_cons_of_mem _ h)
  have hl := lv_entry av (n := nL) hnl
  rw [lg_entry_eq]
  subst hsz
  refine body (A := va_A wc s.heap.size) (H0 := s.heap) (H := s.heap) (locs := []) B.exec B.bytes ⟨B.exec, B.bytes, hml, findClass_of_methodNamed B.named, hts⟩ hts (findClass_of_methodNamed B.named) hK hP hD0.self va_S.rf (fun q h => Or.inr h) hl (fun {v u H locs pc ls} hpv hP1 hD1 hS hd => ?_)
  exact W.iret B.exec B.bytes B.returns (fun t ht hW => ⟨⟨v, u, rfl, hpv, by rw [ht]; exact hP1, hD1⟩, hS.F ht⟩) hS.2.2 hd B.notSynchronized
theorem mkRWz {l : Launch} {y : MethodName} {cc : ByteArray} {nL : Nat} {rm : Room} {D : va_G} {T : List (ClassId × FieldType)} {S : Type} {wc : va_W} {wf : S → va_W} {sz mc ms : Nat} {av : List Value} {post : Int32 → S → Prop} (hy : plainFor y = true) (hnl : (lg_sl av).length ≤ nL)
    (body : ∀ {p : Program} {e : Env} {s : State} {m : MethodId} {args : Array Value} {below : List Frame} {meth : Method} {c : Code} {Q : State → Prop} {ls : Array Slot} {A : Nat → Prop} {H0 H : Heap} {locs : List Loc}, p.tables.exec = Jvm.exec → c.code = cc → CallFix p m c cc nL s args wsT y.cls → (∀ w ∈ wsT, w.before args s = true) → s.vm.findClass y.cls = some m.cls → KK D T s → va_P D vwCl wc H → va_D A wc → va_S A H0 H locs → (∀ q, H0.size ≤ q → A q) → lv_has ls nL (lv_args 0 av) →
      (∀ {v : Int32} {u : S} {H : Heap} {locs : List Loc} {pc : Nat} {ls : Array Slot}, bz v → post v u → va_P D vwCl (wf u) H → va_D A (wf u) → va_S A H0 H locs → decode cc pc = .ok (.ireturn, 1) → W p l e rm s m args below meth c H locs mc ms Q (F0 m pc ls [.int v])) → W p l e rm s m args below meth c H locs 0 0 Q (F0 m 0 ls [])) :
    Met l y (wsA y cc nL (some .boolean)) rm (va_Pc av (rwP D T wc sz)) (va_Qi (fun r u => bz r ∧ post r u) (fun u t => va_P D vwCl (wf u) t.heap ∧ va_D (va_A wc sz) (wf u)) (va_A wc sz)) mc ms (va_A wc sz) := by
  refine va_MetF (cc := cc) (maxL := nL) (ret := some .boolean) hy rfl ?_
  intro p e s m args below meth c s₁ B hml hv
  obtain ⟨rfl, hsz, hP, hK, hD0⟩ := hv
  have hts : ∀ w ∈ wsT, w.before av.toArray s = true := fun w h => atoms_spec (ws := wsA y cc nL (some .boolean)) B.pre w (List.mem_cons_of_mem _ h)
  have hl := lv_entry av (n := nL) hnl
  rw [lg_entry_eq]
  subst hsz
  refine body (A := va_A wc s.heap.size) (H0 := s.heap) (H := s.heap) (locs := []) B.exec B.bytes ⟨B.exec, B.bytes, hml, findClass_of_methodNamed B.named, hts⟩ hts (findClass_of_methodNamed B.named) hK hP hD0.self va_S.rf (fun q h => Or.inr h) hl (fun {v u H locs pc ls} hbz hpv hP1 hD1 hS hd => ?_)
  exact W.zret B.exec B.bytes B.returns (bz_nar hbz) (fun t ht hW => ⟨⟨v, u, rfl, ⟨hbz, hpv⟩, by rw [ht]; exact hP1, hD1⟩, hS.F ht⟩) hS.2.2 hd B.notSynchronized
theorem mkRWv {l : Launch} {y : MethodName} {cc : ByteArray} {nL : Nat} {rm : Room} {D : va_G} {T : List (ClassId × FieldType)} {S : Type} {wc : va_W} {wf : S → va_W} {sz mc ms : Nat} {av : List Value} {post : S → Prop} (hy : plainFor y = true) (hnl : (lg_sl av).length ≤ nL)
    (body : ∀ {p : Program} {e : Env} {s : State} {m : MethodId} {args : Array Value} {below : List Frame} {meth : Method} {c : Code} {Q : State → Prop} {ls : Array Slot} {A : Nat → Prop} {H0 H : Heap} {locs : List Loc}, p.tables.exec = Jvm.exec → c.code = cc → CallFix p m c cc nL s args wsT y.cls → (∀ w ∈ wsT, w.before args s = true) → s.vm.findClass y.cls = some m.cls → (y.name = "<init>" → meth.name = "<init>") → KK D T s → va_P D vwCl wc H → va_D A wc → va_S A H0 H locs → (∀ q, H0.size ≤ q → A q) → lv_has ls nL (lv_args 0 av) →
      (∀ {u : S} {H : Heap} {locs : List Loc} {pc : Nat} {ls : Array Slot}, post u → va_P D vwCl (wf u) H → va_D A (wf u) → va_S A H0 H locs → decode cc pc = .ok (.return_, 1) → W p l e rm s m args below meth c H locs mc ms Q (F0 m pc ls [])) → W p l e rm s m args below meth c H locs 0 0 Q (F0 m 0 ls [])) :
    Met l y (wsA y cc nL none) rm (va_Pc av (rwP D T wc sz)) (va_Qv post (fun u t => va_P D vwCl (wf u) t.heap ∧ va_D (va_A wc sz) (wf u)) (va_A wc sz)) mc ms (va_A wc sz) := by
  refine va_MetF (cc := cc) (maxL := nL) (ret := none) hy rfl ?_
  intro p e s m args below meth c s₁ B hml hv
  obtain ⟨rfl, hsz, hP, hK, hD0⟩ := hv
  have hts : ∀ w ∈ wsT, w.before av.toArray s = true := fun w h => atoms_spec (ws := wsA y cc nL none) B.pre w (List.mem_cons_of_mem _ h)
  have hl := lv_entry av (n := nL) hnl
  rw [lg_entry_eq]
  subst hsz
  refine body (A := va_A wc s.heap.size) (H0 := s.heap) (H := s.heap) (locs := []) B.exec B.bytes ⟨B.exec, B.bytes, hml, findClass_of_methodNamed B.named, hts⟩ hts (findClass_of_methodNamed B.named) (fun hi => (name_of_methodNamed B.named B.method).1.trans hi) hK hP hD0.self va_S.rf (fun q h => Or.inr h) hl (fun {u H locs pc ls} hpv hP1 hD1 hS hd => ?_)
  exact W.vret B.exec B.bytes B.returns (fun t ht hW => ⟨⟨u, rfl, hpv, by rw [ht]; exact hP1, hD1⟩, hS.F ht⟩) hS.2.2 hd B.notSynchronized
theorem nw0 {D : va_G} {T : List (ClassId × FieldType)} {U : State} (h : KK D T U) : va_Nw (.methodLinkNest RX2 49 yX3_copyRow RX3) U := h.n 0 (q := (RX2, 49, yX3_copyRow)) rfl
theorem nw1 {D : va_G} {T : List (ClassId × FieldType)} {U : State} (h : KK D T U) : va_Nw (.methodLinkNest RX2 71 yX3_read RX3) U := h.n 1 (q := (RX2, 71, yX3_read)) rfl
theorem nw2 {D : va_G} {T : List (ClassId × FieldType)} {U : State} (h : KK D T U) : va_Nw (.methodLinkNest RX2 97 yX3_isBetween RX3) U := h.n 2 (q := (RX2, 97, yX3_isBetween)) rfl
theorem nw3 {D : va_G} {T : List (ClassId × FieldType)} {U : State} (h : KK D T U) : va_Nw (.methodLinkNest RX2 67 yX3_write RX3) U := h.n 3 (q := (RX2, 67, yX3_write)) rfl
theorem nw4 {D : va_G} {T : List (ClassId × FieldType)} {U : State} (h : KK D T U) : va_Nw (.methodLinkNest RX2 137 yX3_uncovered RX3) U := h.n 4 (q := (RX2, 137, yX3_uncovered)) rfl
theorem nw5 {D : va_G} {T : List (ClassId × FieldType)} {U : State} (h : KK D T U) : va_Nw (.methodLinkNest RX2 107 yX3_covered RX3) U := h.n 5 (q := (RX2, 107, yX3_covered)) rfl
