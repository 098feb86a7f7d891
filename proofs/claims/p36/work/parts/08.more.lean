/-! more ways to call and to end: a static method that answers nothing, one that answers a double; nothing is changed -/
section
variable {p : Program} {l : Launch} {e : Env} {R : Room} {s : State} {m : MethodId} {args : Array Value} {below : List Frame} {meth : Method} {c : Code} {H : Heap} {locs : List Loc} {cells slots : Nat} {Q : State → Prop} {D : va_G} {T : List (ClassId × FieldType)} {wc : va_W} {a : Array Value} {pc : Nat} {ls : Array Slot} {rest st0 : List Value}
variable {y : MethodName} {bytes cc : ByteArray} {maxL nL n index : Nat} {ret : Option FieldType} {rm : Room} {own C : String} {b : Addr} {As : List Value} {W9 : List Cond}
theorem ro_kv {post : Prop} (hr : va_Run p l e R s m args below meth c H locs cells slots 0 0 (F0 m pc ls st0) rest (va_Qv (fun (_ : Unit) => post) (fun _ t => t.heap = H) nF a) nF)
    (kk : post → W p l e R s m args below meth c H locs cells slots Q (F0 m (pc + 3) ls rest)) : W p l e R s m args below meth c H locs cells slots Q (F0 m pc ls st0) := by
  intro T hT X
  obtain ⟨v, st₀, t, T', L, h0, X', hL, e1, e2, ⟨⟨u, hv, hp, hb⟩, hF⟩, st⟩ := hr T hT X
  cases hv
  have hLn : L = [] := List.eq_nil_iff_forall_not_mem.mpr (fun q hq => hL q hq)
  subst hLn
  rw [List.append_nil, Nat.add_zero, Nat.add_zero] at X'
  obtain ⟨t2, a1, b1⟩ := kk hp T' (e1.trans hb) X'
  exact ⟨t2, st t2 a1, b1⟩
theorem ro_kd {post : UInt64 → Prop} (hr : va_Run p l e R s m args below meth c H locs cells slots 0 0 (F0 m pc ls st0) rest (va_Qd (fun r (_ : Unit) => post r) (fun _ t => t.heap = H) nF a) nF)
    (kk : ∀ r, post r → W p l e R s m args below meth c H locs cells slots Q (F0 m (pc + 3) ls (.double r :: rest))) : W p l e R s m args below meth c H locs cells slots Q (F0 m pc ls st0) := by
  intro T hT X
  obtain ⟨v, st₀, t, T', L, h0, X', hL, e1, e2, ⟨⟨r, u, hv, hp, hb⟩, hF⟩, st⟩ := hr T hT X
  cases hv
  have hLn : L = [] := List.eq_nil_iff_forall_not_mem.mpr (fun q hq => hL q hq)
  subst hLn
  rw [List.append_nil, Nat.add_zero, Nat.add_zero] at X'
  obtain ⟨t2, a1, b1⟩ := kk r hp T' (e1.trans hb) X'
  exact ⟨t2, st t2 a1, b1⟩
theorem roSv {post : Prop} (F : CallFix p m c cc nL s args wsT own) (hM : Met l y W9 rm (va_Pc As (roP D T wc H)) (va_Qv (fun (_ : Unit) => post) (fun _ t => t.heap = H) nF) 0 0 nF) (cw : CallB R s args own index y bytes maxL ret W9 rm 0 0 n ∧ (Cond.static y).before args s = true)
    (hK : KK D T s) (hP : va_P D vwCl wc H) (hn : As.length = n) (hsz : ls.size = nL) (hst : st0 = As.reverse ++ rest) (hW : (rest.map fun v => v.category).sum ≤ 8) (hdg : decode cc pc = .ok (.invokestatic index, 3)) (hf : cells ≤ R.cells ∧ slots ≤ R.slots)
    (kk : post → W p l e R s m args below meth c H locs cells slots Q (F0 m (pc + 3) ls rest)) : W p l e R s m args below meth c H locs cells slots Q (F0 m pc ls st0) :=
  ro_kv (va_runS F hM cw (preRO hK hP) rfl hn hsz hst (lv_room hW) hdg hf) kk
theorem roVd {post : UInt64 → Prop} (F : CallFix p m c cc nL s args wsT own) (hM : Met l y W9 rm (va_Pc (.ref b :: As) (roP D T wc H)) (va_Qd (fun r (_ : Unit) => post r) (fun _ t => t.heap = H) nF) 0 0 nF) (cw : CallW R s args own C index y bytes maxL ret W9 rm 0 0 n)
    (hK : KK D T s) (hP : va_P D vwCl wc H) (hr : ∃ cell : Cell, H[b]? = some cell ∧ cell.vm.isStatics = false ∧ s.vm.findClass C = some cell.cls) (hn : As.length = n) (hsz : ls.size = nL) (hst : st0 = As.reverse ++ .ref b :: rest) (hW : (rest.map fun v => v.category).sum ≤ 8) (hdg : decode cc pc = .ok (.invokevirtual index, 3)) (hf : cells ≤ R.cells ∧ slots ≤ R.slots)
    (kk : ∀ r, post r → W p l e R s m args below meth c H locs cells slots Q (F0 m (pc + 3) ls (.double r :: rest))) : W p l e R s m args below meth c H locs cells slots Q (F0 m pc ls st0) :=
  ro_kd (va_runV F hM cw ⟨blindRO, hr, (preRO hK hP).2⟩ rfl hn hsz hst (lv_room hW) hdg hf) kk
end
theorem mkROv {l : Launch} {y : MethodName} {cc : ByteArray} {nL : Nat} {rm : Room} {D : va_G} {T : List (ClassId × FieldType)} {wc : va_W} {H0 : Heap} {av : List Value} {post : Prop} (hy : plainFor y = true) (hnl : (lg_sl av).length ≤ nL)
    (body : ∀ {p : Program} {e : Env} {s : State} {m : MethodId} {args : Array Value} {below : List Frame} {meth : Method} {c : Code} {Q : State → Prop} {ls : Array Slot}, p.tables.exec = Jvm.exec → c.code = cc → CallFix p m c cc nL s args wsT y.cls → (∀ w ∈ wsT, w.before args s = true) → s.vm.findClass y.cls = some m.cls → KK D T s → va_P D vwCl wc H0 → lv_has ls nL (lv_args 0 av) →
      (∀ {pc : Nat} {ls : Array Slot}, post → decode cc pc = .ok (.return_, 1) → W p l e rm s m args below meth c H0 [] 0 0 Q (F0 m pc ls [])) → W p l e rm s m args below meth c H0 [] 0 0 Q (F0 m 0 ls [])) :
    Met l y (wsA y cc nL none) rm (va_Pc av (roP D T wc H0)) (va_Qv (fun (_ : Unit) => post) (fun _ t => t.heap = H0) nF) 0 0 nF := by
  refine va_MetF (cc := cc) (maxL := nL) (ret := none) hy rfl ?_
  intro p e s m args below meth c s₁ B hml hv
  obtain ⟨rfl, hH, hP, hK⟩ := hv
  have hts : ∀ w ∈ wsT, w.before av.toArray s = true := fun w h => atoms_spec (ws := wsA y cc nL none) B.pre w (List.mem_cons_of_mem _ h)
  have hl := lv_entry av (n := nL) hnl
  rw [lg_entry_eq]
  subst hH
  refine body B.exec B.bytes ⟨B.exec, B.bytes, hml, findClass_of_methodNamed B.named, hts⟩ hts (findClass_of_methodNamed B.named) hK hP hl (fun {pc ls} hpv hd => ?_)
  exact W.vret B.exec B.bytes B.returns (fun t ht hW => ⟨⟨(), rfl, hpv, ht⟩, (va_S.rf (A := nF) (H0 := s.heap)).F ht⟩) (fun q h => nomatch h) hd B.notSynchronized
theorem mkROd {l : Launch} {y : MethodName} {cc : ByteArray} {nL : Nat} {rm : Room} {D : va_G} {T : List (ClassId × FieldType)} {wc : va_W} {H0 : Heap} {av : List Value} {post : UInt64 → Prop} (hy : plainFor y = true) (hnl : (lg_sl av).length ≤ nL)
    (body : ∀ {p : Program} {e : Env} {s : State} {m : MethodId} {args : Array Value} {below : List Frame} {meth : Method} {c : Code} {Q : State → Prop} {ls : Array Slot}, p.tables.exec = Jvm.exec → c.code = cc → CallFix p m c cc nL s args wsT y.cls → (∀ w ∈ wsT, w.before args s = true) → s.vm.findClass y.cls = some m.cls → KK D T s → va_P D vwCl wc H0 → lv_has ls nL (lv_args 0 av) →
      (∀ {v : UInt64} {pc : Nat} {ls : Array Slot}, post v → decode cc pc = .ok (.dreturn, 1) → W p l e rm s m args below meth c H0 [] 0 0 Q (F0 m pc ls [.double v])) → W p l e rm s m args below meth c H0 [] 0 0 Q (F0 m 0 ls [])) :
    Met l y (wsA y cc nL (some .double)) rm (va_Pc av (roP D T wc H0)) (va_Qd (fun r (_ : Unit) => post r) (fun _ t => t.heap = H0) nF) 0 0 nF := by
  refine va_MetF (cc := cc) (maxL := nL) (ret := some .double) hy rfl ?_
  intro p e s m args below meth c s₁ B hml hv
  obtain ⟨rfl, hH, hP, hK⟩ := hv
  have hts : ∀ w ∈ wsT, w.before av.toArray s = true := fun w h => atoms_spec (ws := wsA y cc nL (some .double)) B.pre w (List.mem_cons_of_mem _ h)
  have hl := lv_entry av (n := nL) hnl
  rw [lg_entry_eq]
  subst hH
  refine body B.exec B.bytes ⟨B.exec, B.bytes, hml, findClass_of_methodNamed B.named, hts⟩ hts (findClass_of_methodNamed B.named) hK hP hl (fun {v pc ls} hpv hd => ?_)
  exact W.dret B.exec B.bytes B.returns (fun t ht hW => ⟨⟨v, (), rfl, hpv, ht⟩, (va_S.rf (A := nF) (H0 := s.heap)).F ht⟩) (fun q h => nomatch h) hd B.notSynchronized
