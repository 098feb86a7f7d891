/-! the law's body: worlds, calls -/
def lwW (cI cS cJ : ClassId) (G : Nat → Nat → Nat) (o : Nat) (bm : Nat → Nat) (q : Ne × (Nat → Int64) × Md) : va_W := [(o, .inl (cJ, 1, .inr (.inl q.2.1)))] ++ (neW cI cS G q.1 ++ mdW cI bm q.2.2)
def lwNr (cI cJ : ClassId) (o : Nat) (bm : Nat → Nat) (q : (Nat → Int64) × Md) : va_W := [(o, .inl (cJ, 1, .inr (.inl q.1)))] ++ mdW cI bm q.2
def lwMr (cI cS cJ : ClassId) (G : Nat → Nat → Nat) (o : Nat) (q : Ne × (Nat → Int64)) : va_W := [(o, .inl (cJ, 1, .inr (.inl q.2)))] ++ neW cI cS G q.1
section
variable {cI cS cJ : ClassId} {G : Nat → Nat → Nat} {o : Nat} {bm : Nat → Nat} {N : Ne} {O : Nat → Int64} {M : Md}
theorem lwH_f : (lwW cI cS cJ G o bm (N, O, M)).Perm (hW cI cS cJ G o (N, O) ++ mdW cI bm M) := by
  show List.Perm (_ ++ (_ ++ _)) ((_ ++ _) ++ _)
  rw [List.append_assoc]
theorem lwH_b {u : Ne × (Nat → Int64)} : (hW cI cS cJ G o u ++ mdW cI bm M).Perm (lwW cI cS cJ G o bm (u.1, u.2, M)) := by
  show List.Perm ((_ ++ _) ++ _) (_ ++ (_ ++ _))
  rw [List.append_assoc]
theorem lwN_f : (lwW cI cS cJ G o bm (N, O, M)).Perm (neW cI cS G N ++ lwNr cI cJ o bm (O, M)) := pm1 _ _ _
theorem lwN_b (u : Ne) : (neW cI cS G u ++ lwNr cI cJ o bm (O, M)).Perm (lwW cI cS cJ G o bm (u, O, M)) := pm1 _ _ _
theorem lwM_f : (lwW cI cS cJ G o bm (N, O, M)).Perm (mdW cI bm M ++ lwMr cI cS cJ G o (N, O)) := (List.Perm.append_left _ List.perm_append_comm).trans (pm1 _ _ _)
theorem lwM_b (u : Md) : (mdW cI bm u ++ lwMr cI cS cJ G o (N, O)).Perm (lwW cI cS cJ G o bm (N, O, u)) := (pm1 _ _ _).trans (List.Perm.append_left _ List.perm_append_comm)
end
theorem KK.drawn {D : va_G} {T : List (ClassId × FieldType)} {s : State} (h : KK D T s) (d : Drawn) : KK D T (s.setDrawn d) := ⟨va_K.moved (u := s) (U := s.setDrawn d) (Vm.Alike.refl s.vm) h.1, fun q hq => va_Nw.same (by rfl) (u := s) rfl (h.2 q hq)⟩
theorem XV.drawn {s : State} (h : XV s) (d : Drawn) : XV (s.setDrawn d) := ⟨fun k hk => va_Nw.same rfl (u := s) rfl (h.1 k hk), fun x hx => va_Nw.same rfl (u := s) rfl (h.2.1 x hx), fun q hq => by obtain ⟨b, hb⟩ := h.2.2.1 q hq; exact ⟨b, vk_R.same (u := s) rfl hb⟩, fun j k hj hk hn => va_Nc.moved (u := s) (U := s.setDrawn d) (Vm.Alike.refl s.vm) (h.2.2.2 j k hj hk hn)⟩
theorem XH.drawn {A : Nat → Prop} {s : State} (h : XH A s s.heap) (d : Drawn) : XH A (s.setDrawn d) (s.setDrawn d).heap := ⟨vx_Zq.moved (u := s) (U := s.setDrawn d) (Vm.Alike.refl s.vm) h.1, vx_Zq.moved (u := s) (U := s.setDrawn d) (Vm.Alike.refl s.vm) h.2⟩
theorem gAH {y : MethodName} {b : ByteArray} {n : Nat} {r : Option FieldType} {hh : List (Nat × Nat × Nat × Nat)} (h : Cond.codeWith y b n r hh ∈ wsT) (fr : List Cond) (hf : ∀ w ∈ fr, w ∈ wsT) : GoodIn wsT (fr ++ (Cond.codeWith y b n r hh :: wsT)) := by
  intro w hw
  have hm : w ∈ wsT := by
    rcases List.mem_append.mp hw with h1 | h1
    · exact hf w h1
    · rcases List.mem_cons.mp h1 with h2 | h2
      · rw [h2]; exact h
      · exact h2
  exact ⟨hm, good_of_word (wsT_good hm)⟩
/-- what holds all along the law's body -/
def lwC (p : Program) (l : Launch) (s : State) (m : MethodId) (args : Array Value) (c : Code) (A : Nat → Prop) (D : va_G) (cI cS cJ : ClassId) (b L : Nat) (xs : Nat → Int32) : Prop :=
  l.stackTraces = false ∧ CallFix p m c code 9 s args wsT RL ∧ KK D (tysA cI cS cJ) s ∧ XV s ∧ XH A s s.heap ∧ va_X b L xs s s.heap ∧ b < s.heap.size ∧ ¬ A b ∧ (∀ q, s.heap.size ≤ q → A q)
theorem lwC.drawn {p : Program} {l : Launch} {s : State} {m : MethodId} {args : Array Value} {c : Code} {A : Nat → Prop} {D : va_G} {cI cS cJ : ClassId} {b L : Nat} {xs : Nat → Int32} (h : lwC p l s m args c A D cI cS cJ b L xs) (d : Drawn) : lwC p l (s.setDrawn d) m args c A D cI cS cJ b L xs := by
  obtain ⟨h1, h2, h3, h4, h5, h6, h7, h8, h9⟩ := h
  exact ⟨h1, ⟨h2.1, h2.2.1, h2.2.2.1, h2.2.2.2.1, dr_words h2.2.2.2.2 d⟩, h3.drawn d, h4.drawn d, h5.drawn d, va_X.moved (u := s) (U := s.setDrawn d) (Vm.Alike.refl s.vm) h6, h7, h8, h9⟩
section
variable {p : Program} {l : Launch} {e : Env} {R : Room} {s : State} {m : MethodId} {args : Array Value} {below : List Frame} {meth : Method} {c : Code} {H H0 : Heap} {locs : List Loc} {cells slots mc ms : Nat} {Q : State → Prop} {A : Nat → Prop} {D : va_G} {T : List (ClassId × FieldType)} {ws wc wr : va_W} {pc : Nat} {ls : Array Slot} {rest st0 : List Value}
variable {y : MethodName} {bytes cc : ByteArray} {maxL nL n index : Nat} {ret : Option FieldType} {rm : Room} {own C : String} {b : Addr} {As : List Value} {W9 : List Cond} {hh : List (Nat × Nat × Nat × Nat)}
theorem rwHi {S : Type} {post : Int32 → S → Prop} {wf : S → va_W} (hpm : ws.Perm (wc ++ wr)) (F : CallFix p m c cc nL s args wsT own) (hM : Met l y W9 rm (va_Pc As (rwX D T wc H.size)) (va_Qi post (xQ D wf wc H.size) (va_A wc H.size)) mc ms (va_A wc H.size)) (cw : vx_CSW R s args own index y bytes maxL ret hh W9 rm mc ms n)
    (hK : KK D T s) (hV : XV s) (hH : XH A s s.heap) (hP : va_P D vwCl ws H) (hD : va_D A ws) (hS : va_S A s.heap H locs) (hA : ∀ q, s.heap.size ≤ q → A q) (hn : As.length = n) (hsz : ls.size = nL) (hst : st0 = As.reverse ++ rest) (hW : (rest.map fun v => v.category).sum ≤ 8) (hdg : decode cc pc = .ok (.invokestatic index, 3)) (hf : cells + mc ≤ R.cells ∧ slots + ms ≤ R.slots)
    (kk : ∀ r u H1 locs1, post r u → va_P D vwCl (wf u ++ wr) H1 → va_D A (wf u ++ wr) → va_S A s.heap H1 locs1 → W p l e R s m args below meth c H1 locs1 (cells + mc) (slots + ms) Q (F0 m (pc + 3) ls (.int r :: rest))) : W p l e R s m args below meth c H locs cells slots Q (F0 m pc ls st0) :=
  rw_ki (vx_runSW F hM cw (preX hpm hK hV hH hP hD hS hA) rfl hn hsz hst (lv_room hW) hdg hf) hpm hP hD hS hA kk
theorem rwVl {S : Type} {post : Int64 → S → Prop} {wf : S → va_W} (hpm : ws.Perm (wc ++ wr)) (F : CallFix p m c cc nL s args wsT own) (hM : Met l y W9 rm (va_Pc (.ref b :: As) (rwP D T wc H.size)) (va_Ql post (xQ D wf wc H.size) (va_A wc H.size)) mc ms (va_A wc H.size)) (cw : CallW R s args own C index y bytes maxL ret W9 rm mc ms n)
    (hK : KK D T s) (hP : va_P D vwCl ws H) (hD : va_D A ws) (hS : va_S A H0 H locs) (hA : ∀ q, H0.size ≤ q → A q) (hr : ∃ cell : Cell, H[b]? = some cell ∧ cell.vm.isStatics = false ∧ s.vm.findClass C = some cell.cls) (hn : As.length = n) (hsz : ls.size = nL) (hst : st0 = As.reverse ++ .ref b :: rest) (hW : (rest.map fun v => v.category).sum ≤ 8) (hdg : decode cc pc = .ok (.invokevirtual index, 3)) (hf : cells + mc ≤ R.cells ∧ slots + ms ≤ R.slots)
    (kk : ∀ r u H1 locs1, post r u → va_P D vwCl (wf u ++ wr) H1 → va_D A (wf u ++ wr) → va_S A H0 H1 locs1 → W p l e R s m args below meth c H1 locs1 (cells + mc) (slots + ms) Q (F0 m (pc + 3) ls (.long r :: rest))) : W p l e R s m args below meth c H locs cells slots Q (F0 m pc ls st0) := by
  have hF := vFree hpm hD hS hA
  refine va_calll (va_runV F hM cw ⟨blindRW, hr, (preRW hpm hK hP hD).2⟩ rfl hn hsz hst (lv_room hW) hdg hf) hS (fun q _ h => hF q h) hF (fun r u t H1 locs1 ht hvm hp hb hz hk hS1 => ?_)
  obtain ⟨b1, b2⟩ := hb
  rw [ht] at b1
  obtain ⟨c1, c2⟩ := vJoin (vP_perm hpm hP) (vD_perm hpm hD) hk hF b1 b2
  exact kk r u H1 locs1 hp c1 c2 hS1
theorem rwVd {S : Type} {post : UInt64 → S → Prop} {wf : S → va_W} {d0 : Drawn} (hd0 : s.drawn.sameBut d0 lw_cs) (hpm : ws.Perm (wc ++ wr)) (F : CallFix p m c cc nL (s.setDrawn d0) args wsT own) (hM : MetD lw_cs l y W9 rm (va_Pc (.ref b :: As) (rwP D T wc H.size)) (va_Qd post (xQ D wf wc H.size) (va_A wc H.size)) mc ms (va_A wc H.size)) (cw : CallW R (s.setDrawn d0) args own C index y bytes maxL ret W9 rm mc ms n)
    (hK : KK D T (s.setDrawn d0)) (hP : va_P D vwCl ws H) (hD : va_D A ws) (hS : va_S A H0 H locs) (hA : ∀ q, H0.size ≤ q → A q) (hr : ∃ cell : Cell, H[b]? = some cell ∧ cell.vm.isStatics = false ∧ (s.setDrawn d0).vm.findClass C = some cell.cls) (hn : As.length = n) (hsz : ls.size = nL) (hst : st0 = As.reverse ++ .ref b :: rest) (hW : (rest.map fun v => v.category).sum ≤ 8) (hdg : decode cc pc = .ok (.invokevirtual index, 3)) (hf : cells + mc ≤ R.cells ∧ slots + ms ≤ R.slots)
    (kk : ∀ r u H1 locs1 d', s.drawn.sameBut d' lw_cs → post r u → va_P D vwCl (wf u ++ wr) H1 → va_D A (wf u ++ wr) → va_S A H0 H1 locs1 → W p l e R (s.setDrawn d') m args below meth c H1 locs1 (cells + mc) (slots + ms) Q (F0 m (pc + 3) ls (.double r :: rest))) : W p l e R (s.setDrawn d0) m args below meth c H locs cells slots Q (F0 m pc ls st0) := by
  have hF := vFree hpm hD hS hA
  refine va_calldD hd0 (va_runV_D F hM cw ⟨blindRW, hr, (preRW hpm hK hP hD).2⟩ rfl hn hsz hst (lv_room hW) hdg hf) hS (fun q _ h => hF q h) hF (fun r u t H1 locs1 ht hvm hp hb hz hk hS1 d' hd' => ?_)
  obtain ⟨b1, b2⟩ := hb
  rw [ht] at b1
  obtain ⟨c1, c2⟩ := vJoin (vP_perm hpm hP) (vD_perm hpm hD) hk hF b1 b2
  exact kk r u H1 locs1 d' hd' hp c1 c2 hS1
end
theorem q_75 : Cond.initialized RL ∈ wsT := tw 75 (by decide +kernel) rfl
theorem q_198 : Cond.methodLink RL 135 yX3_roads ∈ wsT := tw 198 (by decide +kernel) rfl
theorem q_199 : Cond.instanceMethod yX3_roads ∈ wsT := tw 199 (by decide +kernel) rfl
theorem q_200 : Cond.selects RX3 yX3_roads yX3_roads ∈ wsT := tw 200 (by decide +kernel) rfl
theorem q_201 : Cond.code yX3_roads cX3_roads 1 (some .int) ∈ wsT := tw 201 (by decide +kernel) rfl
theorem q_202 : Cond.methodLink RL 164 yX3_envelopes ∈ wsT := tw 202 (by decide +kernel) rfl
theorem q_203 : Cond.instanceMethod yX3_envelopes ∈ wsT := tw 203 (by decide +kernel) rfl
theorem q_204 : Cond.selects RX3 yX3_envelopes yX3_envelopes ∈ wsT := tw 204 (by decide +kernel) rfl
theorem q_205 : Cond.code yX3_envelopes cX3_envelopes 1 (some .int) ∈ wsT := tw 205 (by decide +kernel) rfl
theorem q_206 : Cond.methodLink RL 174 yX3_lastAnswer ∈ wsT := tw 206 (by decide +kernel) rfl
theorem q_207 : Cond.instanceMethod yX3_lastAnswer ∈ wsT := tw 207 (by decide +kernel) rfl
theorem q_208 : Cond.selects RX3 yX3_lastAnswer yX3_lastAnswer ∈ wsT := tw 208 (by decide +kernel) rfl
theorem q_209 : Cond.code yX3_lastAnswer cX3_lastAnswer 1 (some .int) ∈ wsT := tw 209 (by decide +kernel) rfl
theorem q_210 : Cond.methodLink RL 181 yX3_deliveredShare ∈ wsT := tw 210 (by decide +kernel) rfl
theorem q_211 : Cond.instanceMethod yX3_deliveredShare ∈ wsT := tw 211 (by decide +kernel) rfl
theorem q_212 : Cond.selects RX3 yX3_deliveredShare yX3_deliveredShare ∈ wsT := tw 212 (by decide +kernel) rfl
theorem q_213 : Cond.code yX3_deliveredShare cX3_deliveredShare 2 (some .double) ∈ wsT := tw 213 (by decide +kernel) rfl
theorem q_217 : Cond.methodLink RL 198 yX3_clearText ∈ wsT := tw 217 (by decide +kernel) rfl
theorem q_218 : Cond.instanceMethod yX3_clearText ∈ wsT := tw 218 (by decide +kernel) rfl
theorem q_219 : Cond.selects RX3 yX3_clearText yX3_clearText ∈ wsT := tw 219 (by decide +kernel) rfl
theorem q_220 : Cond.code yX3_clearText cX3_clearText 1 (some .int) ∈ wsT := tw 220 (by decide +kernel) rfl
theorem q_225 : Cond.methodLink RL 202 yX3_firstError ∈ wsT := tw 225 (by decide +kernel) rfl
theorem q_226 : Cond.instanceMethod yX3_firstError ∈ wsT := tw 226 (by decide +kernel) rfl
theorem q_227 : Cond.selects RX3 yX3_firstError yX3_firstError ∈ wsT := tw 227 (by decide +kernel) rfl
theorem q_228 : Cond.code yX3_firstError cX3_firstError 1 (some .int) ∈ wsT := tw 228 (by decide +kernel) rfl
theorem q_259 : Cond.methodLink RL 212 yX3_savedStates ∈ wsT := tw 259 (by decide +kernel) rfl
theorem q_260 : Cond.instanceMethod yX3_savedStates ∈ wsT := tw 260 (by decide +kernel) rfl
theorem q_261 : Cond.selects RX3 yX3_savedStates yX3_savedStates ∈ wsT := tw 261 (by decide +kernel) rfl
theorem q_262 : Cond.code yX3_savedStates cX3_savedStates 1 (some .int) ∈ wsT := tw 262 (by decide +kernel) rfl
theorem q_263 : Cond.methodLink RL 216 yX3_digest ∈ wsT := tw 263 (by decide +kernel) rfl
theorem q_264 : Cond.instanceMethod yX3_digest ∈ wsT := tw 264 (by decide +kernel) rfl
theorem q_265 : Cond.selects RX3 yX3_digest yX3_digest ∈ wsT := tw 265 (by decide +kernel) rfl
theorem q_266 : Cond.code yX3_digest cX3_digest 4 (some .long) ∈ wsT := tw 266 (by decide +kernel) rfl
theorem q_343 : Cond.methodLink RL 101 yL_setOpen ∈ wsT := tw 343 (by decide +kernel) rfl
theorem q_344 : Cond.static yL_setOpen ∈ wsT := tw 344 (by decide +kernel) rfl
theorem q_345 : Cond.codeWith yL_setOpen cL_setOpen 5 (some .int) [(0, 17, 20, 13)] ∈ wsT := tw 345 (by decide +kernel) rfl
theorem q_484 : Cond.methodLink RL 110 yL_setKey ∈ wsT := tw 484 (by decide +kernel) rfl
theorem q_485 : Cond.static yL_setKey ∈ wsT := tw 485 (by decide +kernel) rfl
theorem q_486 : Cond.codeWith yL_setKey cL_setKey 5 (some .int) [(0, 10, 13, 13), (0, 10, 17, 19)] ∈ wsT := tw 486 (by decide +kernel) rfl
theorem q_501 : Cond.methodLink RL 114 yL_isOpen ∈ wsT := tw 501 (by decide +kernel) rfl
theorem q_502 : Cond.static yL_isOpen ∈ wsT := tw 502 (by decide +kernel) rfl
theorem q_503 : Cond.codeWith yL_isOpen cL_isOpen 4 (some .int) [(0, 16, 19, 13)] ∈ wsT := tw 503 (by decide +kernel) rfl
theorem q_508 : Cond.methodLink RL 118 yL_key ∈ wsT := tw 508 (by decide +kernel) rfl
theorem q_509 : Cond.static yL_key ∈ wsT := tw 509 (by decide +kernel) rfl
theorem q_510 : Cond.codeWith yL_key cL_key 4 (some .int) [(0, 9, 12, 13)] ∈ wsT := tw 510 (by decide +kernel) rfl
theorem q_515 : Cond.methodLink RL 121 yL_cover ∈ wsT := tw 515 (by decide +kernel) rfl
theorem q_516 : Cond.static yL_cover ∈ wsT := tw 516 (by decide +kernel) rfl
theorem q_517 : Cond.codeWith yL_cover cL_cover 5 (some .int) [(0, 10, 13, 13), (0, 10, 17, 19)] ∈ wsT := tw 517 (by decide +kernel) rfl
theorem q_528 : Cond.methodLink RL 124 yL_uncover ∈ wsT := tw 528 (by decide +kernel) rfl
theorem q_529 : Cond.static yL_uncover ∈ wsT := tw 529 (by decide +kernel) rfl
theorem q_530 : Cond.codeWith yL_uncover cL_uncover 5 (some .int) [(0, 10, 13, 13), (0, 10, 17, 19)] ∈ wsT := tw 530 (by decide +kernel) rfl
theorem q_538 : Cond.methodLink RL 127 yL_lay ∈ wsT := tw 538 (by decide +kernel) rfl
theorem q_539 : Cond.static yL_lay ∈ wsT := tw 539 (by decide +kernel) rfl
theorem q_540 : Cond.codeWith yL_lay cL_lay 7 (some .int) [(0, 14, 17, 13), (0, 14, 21, 19), (0, 14, 25, 39)] ∈ wsT := tw 540 (by decide +kernel) rfl
theorem q_562 : Cond.methodLink RL 131 yL_takeUp ∈ wsT := tw 562 (by decide +kernel) rfl
theorem q_563 : Cond.static yL_takeUp ∈ wsT := tw 563 (by decide +kernel) rfl
theorem q_564 : Cond.codeWith yL_takeUp cL_takeUp 3 (some .int) [(0, 8, 11, 39)] ∈ wsT := tw 564 (by decide +kernel) rfl
theorem q_578 : Cond.methodLink RL 139 yL_inn ∈ wsT := tw 578 (by decide +kernel) rfl
theorem q_579 : Cond.static yL_inn ∈ wsT := tw 579 (by decide +kernel) rfl
theorem q_580 : Cond.codeWith yL_inn cL_inn 5 (some .int) [(0, 10, 13, 13)] ∈ wsT := tw 580 (by decide +kernel) rfl
theorem q_589 : Cond.methodLink RL 142 yL_hall ∈ wsT := tw 589 (by decide +kernel) rfl
theorem q_590 : Cond.static yL_hall ∈ wsT := tw 590 (by decide +kernel) rfl
theorem q_591 : Cond.codeWith yL_hall cL_hall 4 (some .int) [(0, 9, 12, 13)] ∈ wsT := tw 591 (by decide +kernel) rfl
theorem q_596 : Cond.methodLink RL 145 yL_stands ∈ wsT := tw 596 (by decide +kernel) rfl
theorem q_597 : Cond.static yL_stands ∈ wsT := tw 597 (by decide +kernel) rfl
theorem q_598 : Cond.codeWith yL_stands cL_stands 4 (some .int) [(0, 16, 19, 13)] ∈ wsT := tw 598 (by decide +kernel) rfl
theorem q_603 : Cond.methodLink RL 148 yL_see ∈ wsT := tw 603 (by decide +kernel) rfl
theorem q_604 : Cond.static yL_see ∈ wsT := tw 604 (by decide +kernel) rfl
theorem q_605 : Cond.codeWith yL_see cL_see 6 (some .int) [(0, 12, 15, 13)] ∈ wsT := tw 605 (by decide +kernel) rfl
theorem q_611 : Cond.methodLink RL 152 yL_known ∈ wsT := tw 611 (by decide +kernel) rfl
theorem q_612 : Cond.static yL_known ∈ wsT := tw 612 (by decide +kernel) rfl
theorem q_613 : Cond.codeWith yL_known cL_known 4 (some .int) [(0, 9, 12, 13)] ∈ wsT := tw 613 (by decide +kernel) rfl
theorem q_618 : Cond.methodLink RL 155 yL_send ∈ wsT := tw 618 (by decide +kernel) rfl
theorem q_619 : Cond.static yL_send ∈ wsT := tw 619 (by decide +kernel) rfl
theorem q_620 : Cond.codeWith yL_send cL_send 5 (some .int) [(0, 10, 13, 13), (0, 10, 17, 19), (0, 10, 21, 39)] ∈ wsT := tw 620 (by decide +kernel) rfl
theorem q_650 : Cond.methodLink RL 158 yL_answer ∈ wsT := tw 650 (by decide +kernel) rfl
theorem q_651 : Cond.static yL_answer ∈ wsT := tw 651 (by decide +kernel) rfl
theorem q_652 : Cond.codeWith yL_answer cL_answer 5 (some .int) [(0, 10, 13, 13), (0, 10, 17, 19), (0, 10, 21, 39)] ∈ wsT := tw 652 (by decide +kernel) rfl
theorem q_665 : Cond.methodLink RL 161 yL_pass ∈ wsT := tw 665 (by decide +kernel) rfl
theorem q_666 : Cond.static yL_pass ∈ wsT := tw 666 (by decide +kernel) rfl
theorem q_667 : Cond.codeWith yL_pass cL_pass 4 (some .int) [(0, 9, 12, 19)] ∈ wsT := tw 667 (by decide +kernel) rfl
theorem q_698 : Cond.methodLink RL 168 yL_envelope ∈ wsT := tw 698 (by decide +kernel) rfl
theorem q_699 : Cond.static yL_envelope ∈ wsT := tw 699 (by decide +kernel) rfl
theorem q_700 : Cond.codeWith yL_envelope cL_envelope 5 (some .int) [(0, 10, 13, 13)] ∈ wsT := tw 700 (by decide +kernel) rfl
theorem q_709 : Cond.methodLink RL 171 yL_letter ∈ wsT := tw 709 (by decide +kernel) rfl
theorem q_710 : Cond.static yL_letter ∈ wsT := tw 710 (by decide +kernel) rfl
theorem q_711 : Cond.codeWith yL_letter cL_letter 4 (some .int) [(0, 9, 12, 13)] ∈ wsT := tw 711 (by decide +kernel) rfl
theorem q_716 : Cond.methodLink RL 178 yL_count ∈ wsT := tw 716 (by decide +kernel) rfl
theorem q_717 : Cond.static yL_count ∈ wsT := tw 717 (by decide +kernel) rfl
theorem q_718 : Cond.codeWith yL_count cL_count 4 (some .int) [(0, 9, 12, 13)] ∈ wsT := tw 718 (by decide +kernel) rfl
theorem q_723 : Cond.methodLink RL 186 yL_lostIfClosed ∈ wsT := tw 723 (by decide +kernel) rfl
theorem q_724 : Cond.static yL_lostIfClosed ∈ wsT := tw 724 (by decide +kernel) rfl
theorem q_725 : Cond.codeWith yL_lostIfClosed cL_lostIfClosed 4 (some .int) [(0, 9, 12, 13)] ∈ wsT := tw 725 (by decide +kernel) rfl
theorem q_730 : Cond.methodLink RL 189 yL_ticksTo ∈ wsT := tw 730 (by decide +kernel) rfl
theorem q_731 : Cond.static yL_ticksTo ∈ wsT := tw 731 (by decide +kernel) rfl
theorem q_732 : Cond.codeWith yL_ticksTo cL_ticksTo 4 (some .int) [(0, 9, 12, 13)] ∈ wsT := tw 732 (by decide +kernel) rfl
theorem q_737 : Cond.methodLink RL 192 yL_leastWork ∈ wsT := tw 737 (by decide +kernel) rfl
theorem q_738 : Cond.static yL_leastWork ∈ wsT := tw 738 (by decide +kernel) rfl
theorem q_739 : Cond.codeWith yL_leastWork cL_leastWork 4 (some .int) [(0, 9, 12, 13)] ∈ wsT := tw 739 (by decide +kernel) rfl
theorem q_744 : Cond.methodLink RL 195 yL_append ∈ wsT := tw 744 (by decide +kernel) rfl
theorem q_745 : Cond.static yL_append ∈ wsT := tw 745 (by decide +kernel) rfl
theorem q_746 : Cond.codeWith yL_append cL_append 4 (some .int) [(0, 9, 12, 19), (0, 9, 15, 39)] ∈ wsT := tw 746 (by decide +kernel) rfl
theorem q_758 : Cond.methodLink RL 206 yL_run ∈ wsT := tw 758 (by decide +kernel) rfl
theorem q_759 : Cond.static yL_run ∈ wsT := tw 759 (by decide +kernel) rfl
theorem q_760 : Cond.codeWith yL_run cL_run 3 (some .int) [(0, 8, 11, 19)] ∈ wsT := tw 760 (by decide +kernel) rfl
theorem q_801 : Cond.methodLink RL 209 yL_undo ∈ wsT := tw 801 (by decide +kernel) rfl
theorem q_802 : Cond.static yL_undo ∈ wsT := tw 802 (by decide +kernel) rfl
theorem q_803 : Cond.codeWith yL_undo cL_undo 3 (some .int) [(0, 8, 11, 39)] ∈ wsT := tw 803 (by decide +kernel) rfl
theorem q_856 : Cond.methodLink RL 107 yX4_thrown ∈ wsT := tw 856 (by decide +kernel) rfl
theorem q_857 : Cond.instanceMethod yX4_thrown ∈ wsT := tw 857 (by decide +kernel) rfl
theorem q_858 : Cond.selects RX4 yX4_thrown yX4_thrown ∈ wsT := tw 858 (by decide +kernel) rfl
theorem q_859 : Cond.code yX4_thrown cX4_thrown 1 (some .int) ∈ wsT := tw 859 (by decide +kernel) rfl
theorem q_860 : Cond.methodLink RL 106 yX4_setOpen ∈ wsT := tw 860 (by decide +kernel) rfl
theorem q_861 : Cond.instanceMethod yX4_setOpen ∈ wsT := tw 861 (by decide +kernel) rfl
theorem q_862 : Cond.selects RX4 yX4_setOpen yX4_setOpen ∈ wsT := tw 862 (by decide +kernel) rfl
theorem q_863 : Cond.code yX4_setOpen cX4_setOpen 3 (some .boolean) ∈ wsT := tw 863 (by decide +kernel) rfl
theorem q_886 : Cond.methodLink RL 113 yX4_setKey ∈ wsT := tw 886 (by decide +kernel) rfl
theorem q_887 : Cond.instanceMethod yX4_setKey ∈ wsT := tw 887 (by decide +kernel) rfl
theorem q_888 : Cond.selects RX4 yX4_setKey yX4_setKey ∈ wsT := tw 888 (by decide +kernel) rfl
theorem q_889 : Cond.code yX4_setKey cX4_setKey 3 (some .int) ∈ wsT := tw 889 (by decide +kernel) rfl
theorem q_893 : Cond.methodLink RL 117 yX4_isOpen ∈ wsT := tw 893 (by decide +kernel) rfl
theorem q_894 : Cond.instanceMethod yX4_isOpen ∈ wsT := tw 894 (by decide +kernel) rfl
theorem q_895 : Cond.selects RX4 yX4_isOpen yX4_isOpen ∈ wsT := tw 895 (by decide +kernel) rfl
theorem q_896 : Cond.code yX4_isOpen cX4_isOpen 2 (some .boolean) ∈ wsT := tw 896 (by decide +kernel) rfl
theorem q_901 : Cond.methodLink RL 120 yX4_key ∈ wsT := tw 901 (by decide +kernel) rfl
theorem q_902 : Cond.instanceMethod yX4_key ∈ wsT := tw 902 (by decide +kernel) rfl
theorem q_903 : Cond.selects RX4 yX4_key yX4_key ∈ wsT := tw 903 (by decide +kernel) rfl
theorem q_904 : Cond.code yX4_key cX4_key 2 (some .int) ∈ wsT := tw 904 (by decide +kernel) rfl
theorem q_905 : Cond.methodLink RL 123 yX4_cover ∈ wsT := tw 905 (by decide +kernel) rfl
theorem q_906 : Cond.instanceMethod yX4_cover ∈ wsT := tw 906 (by decide +kernel) rfl
theorem q_907 : Cond.selects RX4 yX4_cover yX4_cover ∈ wsT := tw 907 (by decide +kernel) rfl
theorem q_908 : Cond.code yX4_cover cX4_cover 3 (some .int) ∈ wsT := tw 908 (by decide +kernel) rfl
theorem q_912 : Cond.methodLink RL 126 yX4_uncover ∈ wsT := tw 912 (by decide +kernel) rfl
theorem q_913 : Cond.instanceMethod yX4_uncover ∈ wsT := tw 913 (by decide +kernel) rfl
theorem q_914 : Cond.selects RX4 yX4_uncover yX4_uncover ∈ wsT := tw 914 (by decide +kernel) rfl
theorem q_915 : Cond.code yX4_uncover cX4_uncover 3 (some .int) ∈ wsT := tw 915 (by decide +kernel) rfl
theorem q_919 : Cond.methodLink RL 130 yX4_lay ∈ wsT := tw 919 (by decide +kernel) rfl
theorem q_920 : Cond.instanceMethod yX4_lay ∈ wsT := tw 920 (by decide +kernel) rfl
theorem q_921 : Cond.selects RX4 yX4_lay yX4_lay ∈ wsT := tw 921 (by decide +kernel) rfl
theorem q_922 : Cond.code yX4_lay cX4_lay 7 (some .int) ∈ wsT := tw 922 (by decide +kernel) rfl
theorem q_934 : Cond.methodLink RL 134 yX4_takeUp ∈ wsT := tw 934 (by decide +kernel) rfl
theorem q_935 : Cond.instanceMethod yX4_takeUp ∈ wsT := tw 935 (by decide +kernel) rfl
theorem q_936 : Cond.selects RX4 yX4_takeUp yX4_takeUp ∈ wsT := tw 936 (by decide +kernel) rfl
theorem q_937 : Cond.code yX4_takeUp cX4_takeUp 2 (some .int) ∈ wsT := tw 937 (by decide +kernel) rfl
theorem q_946 : Cond.methodLink RL 138 yX4_roads ∈ wsT := tw 946 (by decide +kernel) rfl
theorem q_947 : Cond.instanceMethod yX4_roads ∈ wsT := tw 947 (by decide +kernel) rfl
theorem q_948 : Cond.selects RX4 yX4_roads yX4_roads ∈ wsT := tw 948 (by decide +kernel) rfl
theorem q_949 : Cond.code yX4_roads cX4_roads 1 (some .int) ∈ wsT := tw 949 (by decide +kernel) rfl
theorem q_954 : Cond.methodLink RL 141 yX4_inn ∈ wsT := tw 954 (by decide +kernel) rfl
theorem q_955 : Cond.instanceMethod yX4_inn ∈ wsT := tw 955 (by decide +kernel) rfl
theorem q_956 : Cond.selects RX4 yX4_inn yX4_inn ∈ wsT := tw 956 (by decide +kernel) rfl
theorem q_957 : Cond.code yX4_inn cX4_inn 3 (some .int) ∈ wsT := tw 957 (by decide +kernel) rfl
theorem q_966 : Cond.methodLink RL 144 yX4_hall ∈ wsT := tw 966 (by decide +kernel) rfl
theorem q_967 : Cond.instanceMethod yX4_hall ∈ wsT := tw 967 (by decide +kernel) rfl
theorem q_968 : Cond.selects RX4 yX4_hall yX4_hall ∈ wsT := tw 968 (by decide +kernel) rfl
theorem q_969 : Cond.code yX4_hall cX4_hall 2 (some .int) ∈ wsT := tw 969 (by decide +kernel) rfl
theorem q_974 : Cond.methodLink RL 147 yX4_stands ∈ wsT := tw 974 (by decide +kernel) rfl
theorem q_975 : Cond.instanceMethod yX4_stands ∈ wsT := tw 975 (by decide +kernel) rfl
theorem q_976 : Cond.selects RX4 yX4_stands yX4_stands ∈ wsT := tw 976 (by decide +kernel) rfl
theorem q_977 : Cond.code yX4_stands cX4_stands 2 (some .boolean) ∈ wsT := tw 977 (by decide +kernel) rfl
theorem q_982 : Cond.methodLink RL 151 yX4_see ∈ wsT := tw 982 (by decide +kernel) rfl
theorem q_983 : Cond.instanceMethod yX4_see ∈ wsT := tw 983 (by decide +kernel) rfl
theorem q_984 : Cond.selects RX4 yX4_see yX4_see ∈ wsT := tw 984 (by decide +kernel) rfl
theorem q_985 : Cond.code yX4_see cX4_see 4 (some .int) ∈ wsT := tw 985 (by decide +kernel) rfl
theorem q_994 : Cond.methodLink RL 154 yX4_known ∈ wsT := tw 994 (by decide +kernel) rfl
theorem q_995 : Cond.instanceMethod yX4_known ∈ wsT := tw 995 (by decide +kernel) rfl
theorem q_996 : Cond.selects RX4 yX4_known yX4_known ∈ wsT := tw 996 (by decide +kernel) rfl
theorem q_997 : Cond.code yX4_known cX4_known 2 (some .int) ∈ wsT := tw 997 (by decide +kernel) rfl
theorem q_1002 : Cond.methodLink RL 157 yX4_send ∈ wsT := tw 1002 (by decide +kernel) rfl
theorem q_1003 : Cond.instanceMethod yX4_send ∈ wsT := tw 1003 (by decide +kernel) rfl
theorem q_1004 : Cond.selects RX4 yX4_send yX4_send ∈ wsT := tw 1004 (by decide +kernel) rfl
theorem q_1005 : Cond.code yX4_send cX4_send 3 (some .int) ∈ wsT := tw 1005 (by decide +kernel) rfl
theorem q_1026 : Cond.methodLink RL 160 yX4_answer ∈ wsT := tw 1026 (by decide +kernel) rfl
theorem q_1027 : Cond.instanceMethod yX4_answer ∈ wsT := tw 1027 (by decide +kernel) rfl
theorem q_1028 : Cond.selects RX4 yX4_answer yX4_answer ∈ wsT := tw 1028 (by decide +kernel) rfl
theorem q_1029 : Cond.code yX4_answer cX4_answer 4 (some .int) ∈ wsT := tw 1029 (by decide +kernel) rfl
theorem q_1038 : Cond.methodLink RL 163 yX4_pass ∈ wsT := tw 1038 (by decide +kernel) rfl
theorem q_1039 : Cond.instanceMethod yX4_pass ∈ wsT := tw 1039 (by decide +kernel) rfl
theorem q_1040 : Cond.selects RX4 yX4_pass yX4_pass ∈ wsT := tw 1040 (by decide +kernel) rfl
theorem q_1041 : Cond.code yX4_pass cX4_pass 2 (some .int) ∈ wsT := tw 1041 (by decide +kernel) rfl
theorem q_1062 : Cond.methodLink RL 167 yX4_envelopes ∈ wsT := tw 1062 (by decide +kernel) rfl
theorem q_1063 : Cond.instanceMethod yX4_envelopes ∈ wsT := tw 1063 (by decide +kernel) rfl
theorem q_1064 : Cond.selects RX4 yX4_envelopes yX4_envelopes ∈ wsT := tw 1064 (by decide +kernel) rfl
theorem q_1065 : Cond.code yX4_envelopes cX4_envelopes 1 (some .int) ∈ wsT := tw 1065 (by decide +kernel) rfl
theorem q_1066 : Cond.methodLink RL 170 yX4_envelope ∈ wsT := tw 1066 (by decide +kernel) rfl
theorem q_1067 : Cond.instanceMethod yX4_envelope ∈ wsT := tw 1067 (by decide +kernel) rfl
theorem q_1068 : Cond.selects RX4 yX4_envelope yX4_envelope ∈ wsT := tw 1068 (by decide +kernel) rfl
theorem q_1069 : Cond.code yX4_envelope cX4_envelope 3 (some .int) ∈ wsT := tw 1069 (by decide +kernel) rfl
theorem q_1074 : Cond.methodLink RL 173 yX4_letter ∈ wsT := tw 1074 (by decide +kernel) rfl
theorem q_1075 : Cond.instanceMethod yX4_letter ∈ wsT := tw 1075 (by decide +kernel) rfl
theorem q_1076 : Cond.selects RX4 yX4_letter yX4_letter ∈ wsT := tw 1076 (by decide +kernel) rfl
theorem q_1077 : Cond.code yX4_letter cX4_letter 2 (some .int) ∈ wsT := tw 1077 (by decide +kernel) rfl
theorem q_1078 : Cond.methodLink RL 177 yX4_lastAnswer ∈ wsT := tw 1078 (by decide +kernel) rfl
theorem q_1079 : Cond.instanceMethod yX4_lastAnswer ∈ wsT := tw 1079 (by decide +kernel) rfl
theorem q_1080 : Cond.selects RX4 yX4_lastAnswer yX4_lastAnswer ∈ wsT := tw 1080 (by decide +kernel) rfl
theorem q_1081 : Cond.code yX4_lastAnswer cX4_lastAnswer 1 (some .int) ∈ wsT := tw 1081 (by decide +kernel) rfl
theorem q_1082 : Cond.methodLink RL 180 yX4_count ∈ wsT := tw 1082 (by decide +kernel) rfl
theorem q_1083 : Cond.instanceMethod yX4_count ∈ wsT := tw 1083 (by decide +kernel) rfl
theorem q_1084 : Cond.selects RX4 yX4_count yX4_count ∈ wsT := tw 1084 (by decide +kernel) rfl
theorem q_1085 : Cond.code yX4_count cX4_count 2 (some .int) ∈ wsT := tw 1085 (by decide +kernel) rfl
theorem q_1086 : Cond.methodLink RL 185 yX4_deliveredShare ∈ wsT := tw 1086 (by decide +kernel) rfl
theorem q_1087 : Cond.instanceMethod yX4_deliveredShare ∈ wsT := tw 1087 (by decide +kernel) rfl
theorem q_1088 : Cond.selects RX4 yX4_deliveredShare yX4_deliveredShare ∈ wsT := tw 1088 (by decide +kernel) rfl
theorem q_1089 : Cond.code yX4_deliveredShare cX4_deliveredShare 1 (some .double) ∈ wsT := tw 1089 (by decide +kernel) rfl
theorem q_1090 : Cond.methodLink RL 188 yX4_lostIfClosed ∈ wsT := tw 1090 (by decide +kernel) rfl
theorem q_1091 : Cond.instanceMethod yX4_lostIfClosed ∈ wsT := tw 1091 (by decide +kernel) rfl
theorem q_1092 : Cond.selects RX4 yX4_lostIfClosed yX4_lostIfClosed ∈ wsT := tw 1092 (by decide +kernel) rfl
theorem q_1093 : Cond.code yX4_lostIfClosed cX4_lostIfClosed 2 (some .int) ∈ wsT := tw 1093 (by decide +kernel) rfl
theorem q_1102 : Cond.methodLink RL 191 yX4_ticksTo ∈ wsT := tw 1102 (by decide +kernel) rfl
theorem q_1103 : Cond.instanceMethod yX4_ticksTo ∈ wsT := tw 1103 (by decide +kernel) rfl
theorem q_1104 : Cond.selects RX4 yX4_ticksTo yX4_ticksTo ∈ wsT := tw 1104 (by decide +kernel) rfl
theorem q_1105 : Cond.code yX4_ticksTo cX4_ticksTo 2 (some .int) ∈ wsT := tw 1105 (by decide +kernel) rfl
theorem q_1106 : Cond.methodLink RL 194 yX4_leastWork ∈ wsT := tw 1106 (by decide +kernel) rfl
theorem q_1107 : Cond.instanceMethod yX4_leastWork ∈ wsT := tw 1107 (by decide +kernel) rfl
theorem q_1108 : Cond.selects RX4 yX4_leastWork yX4_leastWork ∈ wsT := tw 1108 (by decide +kernel) rfl
theorem q_1109 : Cond.code yX4_leastWork cX4_leastWork 2 (some .int) ∈ wsT := tw 1109 (by decide +kernel) rfl
theorem q_1118 : Cond.methodLink RL 197 yX4_append ∈ wsT := tw 1118 (by decide +kernel) rfl
theorem q_1119 : Cond.instanceMethod yX4_append ∈ wsT := tw 1119 (by decide +kernel) rfl
theorem q_1120 : Cond.selects RX4 yX4_append yX4_append ∈ wsT := tw 1120 (by decide +kernel) rfl
theorem q_1121 : Cond.code yX4_append cX4_append 2 (some .int) ∈ wsT := tw 1121 (by decide +kernel) rfl
theorem q_1122 : Cond.methodLink RL 201 yX4_clearText ∈ wsT := tw 1122 (by decide +kernel) rfl
theorem q_1123 : Cond.instanceMethod yX4_clearText ∈ wsT := tw 1123 (by decide +kernel) rfl
theorem q_1124 : Cond.selects RX4 yX4_clearText yX4_clearText ∈ wsT := tw 1124 (by decide +kernel) rfl
theorem q_1125 : Cond.code yX4_clearText cX4_clearText 2 (some .int) ∈ wsT := tw 1125 (by decide +kernel) rfl
theorem q_1126 : Cond.methodLink RL 205 yX4_firstError ∈ wsT := tw 1126 (by decide +kernel) rfl
theorem q_1127 : Cond.instanceMethod yX4_firstError ∈ wsT := tw 1127 (by decide +kernel) rfl
theorem q_1128 : Cond.selects RX4 yX4_firstError yX4_firstError ∈ wsT := tw 1128 (by decide +kernel) rfl
theorem q_1129 : Cond.code yX4_firstError cX4_firstError 1 (some .int) ∈ wsT := tw 1129 (by decide +kernel) rfl
theorem q_1162 : Cond.methodLink RL 208 yX4_run ∈ wsT := tw 1162 (by decide +kernel) rfl
theorem q_1163 : Cond.instanceMethod yX4_run ∈ wsT := tw 1163 (by decide +kernel) rfl
theorem q_1164 : Cond.selects RX4 yX4_run yX4_run ∈ wsT := tw 1164 (by decide +kernel) rfl
theorem q_1165 : Cond.code yX4_run cX4_run 2 (some .int) ∈ wsT := tw 1165 (by decide +kernel) rfl
theorem q_1170 : Cond.methodLink RL 211 yX4_undo ∈ wsT := tw 1170 (by decide +kernel) rfl
theorem q_1171 : Cond.instanceMethod yX4_undo ∈ wsT := tw 1171 (by decide +kernel) rfl
theorem q_1172 : Cond.selects RX4 yX4_undo yX4_undo ∈ wsT := tw 1172 (by decide +kernel) rfl
theorem q_1173 : Cond.code yX4_undo cX4_undo 1 (some .int) ∈ wsT := tw 1173 (by decide +kernel) rfl
theorem q_1174 : Cond.methodLink RL 215 yX4_savedStates ∈ wsT := tw 1174 (by decide +kernel) rfl
theorem q_1175 : Cond.instanceMethod yX4_savedStates ∈ wsT := tw 1175 (by decide +kernel) rfl
theorem q_1176 : Cond.selects RX4 yX4_savedStates yX4_savedStates ∈ wsT := tw 1176 (by decide +kernel) rfl
theorem q_1177 : Cond.code yX4_savedStates cX4_savedStates 1 (some .int) ∈ wsT := tw 1177 (by decide +kernel) rfl
theorem q_1178 : Cond.methodLink RL 220 yX4_digest ∈ wsT := tw 1178 (by decide +kernel) rfl
theorem q_1179 : Cond.instanceMethod yX4_digest ∈ wsT := tw 1179 (by decide +kernel) rfl
theorem q_1180 : Cond.selects RX4 yX4_digest yX4_digest ∈ wsT := tw 1180 (by decide +kernel) rfl
theorem q_1181 : Cond.code yX4_digest cX4_digest 3 (some .long) ∈ wsT := tw 1181 (by decide +kernel) rfl
theorem cw_L_106 {R : Room} {s : State} {args : Array Value} (hts : ∀ w ∈ wsT, w.before args s = true) (hf : 3 + 1 ≤ R.frames) (hl : 8 + (3 + 11) + 67 ≤ R.locals) : CallW R s args RL RX4 106 yX4_setOpen cX4_setOpen 3 (some .boolean) (wsA yX4_setOpen cX4_setOpen 3 (some .boolean)) rm_X4_setOpen 0 0 2 := cwAV 2 hts q_860 q_861 q_862 q_81 q_863 rfl rfl (by decide +kernel) ⟨hf, hl⟩
theorem cw_L_107 {R : Room} {s : State} {args : Array Value} (hts : ∀ w ∈ wsT, w.before args s = true) (hf : 0 + 1 ≤ R.frames) (hl : 8 + (1 + 11) + 0 ≤ R.locals) : CallW R s args RL RX4 107 yX4_thrown cX4_thrown 1 (some .int) (wsA yX4_thrown cX4_thrown 1 (some .int)) rm_X4_thrown 0 0 0 := cwAV 0 hts q_856 q_857 q_858 q_81 q_859 rfl rfl (by decide +kernel) ⟨hf, hl⟩
theorem cw_L_113 {R : Room} {s : State} {args : Array Value} (hts : ∀ w ∈ wsT, w.before args s = true) (hf : 3 + 1 ≤ R.frames) (hl : 8 + (3 + 11) + 67 ≤ R.locals) : CallW R s args RL RX4 113 yX4_setKey cX4_setKey 3 (some .int) (wsA yX4_setKey cX4_setKey 3 (some .int)) rm_X4_setKey 0 0 2 := cwAV 2 hts q_886 q_887 q_888 q_81 q_889 rfl rfl (by decide +kernel) ⟨hf, hl⟩
theorem cw_L_117 {R : Room} {s : State} {args : Array Value} (hts : ∀ w ∈ wsT, w.before args s = true) (hf : 2 + 1 ≤ R.frames) (hl : 8 + (2 + 11) + 42 ≤ R.locals) : CallW R s args RL RX4 117 yX4_isOpen cX4_isOpen 2 (some .boolean) (wsA yX4_isOpen cX4_isOpen 2 (some .boolean)) rm_X4_isOpen 0 0 1 := cwAV 1 hts q_893 q_894 q_895 q_81 q_896 rfl rfl (by decide +kernel) ⟨hf, hl⟩
theorem cw_L_120 {R : Room} {s : State} {args : Array Value} (hts : ∀ w ∈ wsT, w.before args s = true) (hf : 2 + 1 ≤ R.frames) (hl : 8 + (2 + 11) + 42 ≤ R.locals) : CallW R s args RL RX4 120 yX4_key cX4_key 2 (some .int) (wsA yX4_key cX4_key 2 (some .int)) rm_X4_key 0 0 1 := cwAV 1 hts q_901 q_902 q_903 q_81 q_904 rfl rfl (by decide +kernel) ⟨hf, hl⟩
theorem cw_L_123 {R : Room} {s : State} {args : Array Value} (hts : ∀ w ∈ wsT, w.before args s = true) (hf : 2 + 1 ≤ R.frames) (hl : 8 + (3 + 11) + 42 ≤ R.locals) : CallW R s args RL RX4 123 yX4_cover cX4_cover 3 (some .int) (wsA yX4_cover cX4_cover 3 (some .int)) rm_X4_cover 0 0 2 := cwAV 2 hts q_905 q_906 q_907 q_81 q_908 rfl rfl (by decide +kernel) ⟨hf, hl⟩
theorem cw_L_126 {R : Room} {s : State} {args : Array Value} (hts : ∀ w ∈ wsT, w.before args s = true) (hf : 2 + 1 ≤ R.frames) (hl : 8 + (3 + 11) + 42 ≤ R.locals) : CallW R s args RL RX4 126 yX4_uncover cX4_uncover 3 (some .int) (wsA yX4_uncover cX4_uncover 3 (some .int)) rm_X4_uncover 0 0 2 := cwAV 2 hts q_912 q_913 q_914 q_81 q_915 rfl rfl (by decide +kernel) ⟨hf, hl⟩
theorem cw_L_130 {R : Room} {s : State} {args : Array Value} (hts : ∀ w ∈ wsT, w.before args s = true) (hf : 2 + 1 ≤ R.frames) (hl : 8 + (7 + 11) + 44 ≤ R.locals) : CallW R s args RL RX4 130 yX4_lay cX4_lay 7 (some .int) (wsA yX4_lay cX4_lay 7 (some .int)) rm_X4_lay 0 0 4 := cwAV 4 hts q_919 q_920 q_921 q_81 q_922 rfl rfl (by decide +kernel) ⟨hf, hl⟩
theorem cw_L_134 {R : Room} {s : State} {args : Array Value} (hts : ∀ w ∈ wsT, w.before args s = true) (hf : 2 + 1 ≤ R.frames) (hl : 8 + (2 + 11) + 44 ≤ R.locals) : CallW R s args RL RX4 134 yX4_takeUp cX4_takeUp 2 (some .int) (wsA yX4_takeUp cX4_takeUp 2 (some .int)) rm_X4_takeUp 0 0 0 := cwAV 0 hts q_934 q_935 q_936 q_81 q_937 rfl rfl (by decide +kernel) ⟨hf, hl⟩
theorem cw_L_135 {R : Room} {s : State} {args : Array Value} (hts : ∀ w ∈ wsT, w.before args s = true) (hf : 0 + 1 ≤ R.frames) (hl : 8 + (1 + 11) + 0 ≤ R.locals) : CallW R s args RL RX3 135 yX3_roads cX3_roads 1 (some .int) (wsA yX3_roads cX3_roads 1 (some .int)) rm_X3_roads 0 0 0 := cwAV 0 hts q_198 q_199 q_200 q_76 q_201 rfl rfl (by decide +kernel) ⟨hf, hl⟩
theorem cw_L_138 {R : Room} {s : State} {args : Array Value} (hts : ∀ w ∈ wsT, w.before args s = true) (hf : 1 + 1 ≤ R.frames) (hl : 8 + (1 + 11) + 21 ≤ R.locals) : CallW R s args RL RX4 138 yX4_roads cX4_roads 1 (some .int) (wsA yX4_roads cX4_roads 1 (some .int)) rm_X4_roads 0 0 0 := cwAV 0 hts q_946 q_947 q_948 q_81 q_949 rfl rfl (by decide +kernel) ⟨hf, hl⟩
theorem cw_L_141 {R : Room} {s : State} {args : Array Value} (hts : ∀ w ∈ wsT, w.before args s = true) (hf : 2 + 1 ≤ R.frames) (hl : 8 + (3 + 11) + 43 ≤ R.locals) : CallW R s args RL RX4 141 yX4_inn cX4_inn 3 (some .int) (wsA yX4_inn cX4_inn 3 (some .int)) rm_X4_inn 0 0 2 := cwAV 2 hts q_954 q_955 q_956 q_81 q_957 rfl rfl (by decide +kernel) ⟨hf, hl⟩
theorem cw_L_144 {R : Room} {s : State} {args : Array Value} (hts : ∀ w ∈ wsT, w.before args s = true) (hf : 2 + 1 ≤ R.frames) (hl : 8 + (2 + 11) + 43 ≤ R.locals) : CallW R s args RL RX4 144 yX4_hall cX4_hall 2 (some .int) (wsA yX4_hall cX4_hall 2 (some .int)) rm_X4_hall 0 0 1 := cwAV 1 hts q_966 q_967 q_968 q_81 q_969 rfl rfl (by decide +kernel) ⟨hf, hl⟩
theorem cw_L_147 {R : Room} {s : State} {args : Array Value} (hts : ∀ w ∈ wsT, w.before args s = true) (hf : 2 + 1 ≤ R.frames) (hl : 8 + (2 + 11) + 43 ≤ R.locals) : CallW R s args RL RX4 147 yX4_stands cX4_stands 2 (some .boolean) (wsA yX4_stands cX4_stands 2 (some .boolean)) rm_X4_stands 0 0 1 := cwAV 1 hts q_974 q_975 q_976 q_81 q_977 rfl rfl (by decide +kernel) ⟨hf, hl⟩
theorem cw_L_151 {R : Room} {s : State} {args : Array Value} (hts : ∀ w ∈ wsT, w.before args s = true) (hf : 3 + 1 ≤ R.frames) (hl : 8 + (4 + 11) + 70 ≤ R.locals) : CallW R s args RL RX4 151 yX4_see cX4_see 4 (some .int) (wsA yX4_see cX4_see 4 (some .int)) rm_X4_see 0 0 3 := cwAV 3 hts q_982 q_983 q_984 q_81 q_985 rfl rfl (by decide +kernel) ⟨hf, hl⟩
theorem cw_L_154 {R : Room} {s : State} {args : Array Value} (hts : ∀ w ∈ wsT, w.before args s = true) (hf : 4 + 1 ≤ R.frames) (hl : 8 + (2 + 11) + 94 ≤ R.locals) : CallW R s args RL RX4 154 yX4_known cX4_known 2 (some .int) (wsA yX4_known cX4_known 2 (some .int)) rm_X4_known 0 0 1 := cwAV 1 hts q_994 q_995 q_996 q_81 q_997 rfl rfl (by decide +kernel) ⟨hf, hl⟩
theorem cw_L_157 {R : Room} {s : State} {args : Array Value} (hts : ∀ w ∈ wsT, w.before args s = true) (hf : 3 + 1 ≤ R.frames) (hl : 8 + (3 + 11) + 72 ≤ R.locals) : CallW R s args RL RX4 157 yX4_send cX4_send 3 (some .int) (wsA yX4_send cX4_send 3 (some .int)) rm_X4_send 0 0 2 := cwAV 2 hts q_1002 q_1003 q_1004 q_81 q_1005 rfl rfl (by decide +kernel) ⟨hf, hl⟩
theorem cw_L_160 {R : Room} {s : State} {args : Array Value} (hts : ∀ w ∈ wsT, w.before args s = true) (hf : 3 + 1 ≤ R.frames) (hl : 8 + (4 + 11) + 70 ≤ R.locals) : CallW R s args RL RX4 160 yX4_answer cX4_answer 4 (some .int) (wsA yX4_answer cX4_answer 4 (some .int)) rm_X4_answer 0 0 2 := cwAV 2 hts q_1026 q_1027 q_1028 q_81 q_1029 rfl rfl (by decide +kernel) ⟨hf, hl⟩
theorem cw_L_163 {R : Room} {s : State} {args : Array Value} (hts : ∀ w ∈ wsT, w.before args s = true) (hf : 6 + 1 ≤ R.frames) (hl : 8 + (2 + 11) + 140 ≤ R.locals) : CallW R s args RL RX4 163 yX4_pass cX4_pass 2 (some .int) (wsA yX4_pass cX4_pass 2 (some .int)) rm_X4_pass 0 0 1 := cwAV 1 hts q_1038 q_1039 q_1040 q_81 q_1041 rfl rfl (by decide +kernel) ⟨hf, hl⟩
theorem cw_L_164 {R : Room} {s : State} {args : Array Value} (hts : ∀ w ∈ wsT, w.before args s = true) (hf : 0 + 1 ≤ R.frames) (hl : 8 + (1 + 11) + 0 ≤ R.locals) : CallW R s args RL RX3 164 yX3_envelopes cX3_envelopes 1 (some .int) (wsA yX3_envelopes cX3_envelopes 1 (some .int)) rm_X3_envelopes 0 0 0 := cwAV 0 hts q_202 q_203 q_204 q_76 q_205 rfl rfl (by decide +kernel) ⟨hf, hl⟩
theorem cw_L_167 {R : Room} {s : State} {args : Array Value} (hts : ∀ w ∈ wsT, w.before args s = true) (hf : 1 + 1 ≤ R.frames) (hl : 8 + (1 + 11) + 21 ≤ R.locals) : CallW R s args RL RX4 167 yX4_envelopes cX4_envelopes 1 (some .int) (wsA yX4_envelopes cX4_envelopes 1 (some .int)) rm_X4_envelopes 0 0 0 := cwAV 0 hts q_1062 q_1063 q_1064 q_81 q_1065 rfl rfl (by decide +kernel) ⟨hf, hl⟩
theorem cw_L_170 {R : Room} {s : State} {args : Array Value} (hts : ∀ w ∈ wsT, w.before args s = true) (hf : 2 + 1 ≤ R.frames) (hl : 8 + (3 + 11) + 43 ≤ R.locals) : CallW R s args RL RX4 170 yX4_envelope cX4_envelope 3 (some .int) (wsA yX4_envelope cX4_envelope 3 (some .int)) rm_X4_envelope 0 0 2 := cwAV 2 hts q_1066 q_1067 q_1068 q_81 q_1069 rfl rfl (by decide +kernel) ⟨hf, hl⟩
theorem cw_L_173 {R : Room} {s : State} {args : Array Value} (hts : ∀ w ∈ wsT, w.before args s = true) (hf : 2 + 1 ≤ R.frames) (hl : 8 + (2 + 11) + 42 ≤ R.locals) : CallW R s args RL RX4 173 yX4_letter cX4_letter 2 (some .int) (wsA yX4_letter cX4_letter 2 (some .int)) rm_X4_letter 0 0 1 := cwAV 1 hts q_1074 q_1075 q_1076 q_81 q_1077 rfl rfl (by decide +kernel) ⟨hf, hl⟩
theorem cw_L_174 {R : Room} {s : State} {args : Array Value} (hts : ∀ w ∈ wsT, w.before args s = true) (hf : 0 + 1 ≤ R.frames) (hl : 8 + (1 + 11) + 0 ≤ R.locals) : CallW R s args RL RX3 174 yX3_lastAnswer cX3_lastAnswer 1 (some .int) (wsA yX3_lastAnswer cX3_lastAnswer 1 (some .int)) rm_X3_lastAnswer 0 0 0 := cwAV 0 hts q_206 q_207 q_208 q_76 q_209 rfl rfl (by decide +kernel) ⟨hf, hl⟩
theorem cw_L_177 {R : Room} {s : State} {args : Array Value} (hts : ∀ w ∈ wsT, w.before args s = true) (hf : 1 + 1 ≤ R.frames) (hl : 8 + (1 + 11) + 21 ≤ R.locals) : CallW R s args RL RX4 177 yX4_lastAnswer cX4_lastAnswer 1 (some .int) (wsA yX4_lastAnswer cX4_lastAnswer 1 (some .int)) rm_X4_lastAnswer 0 0 0 := cwAV 0 hts q_1078 q_1079 q_1080 q_81 q_1081 rfl rfl (by decide +kernel) ⟨hf, hl⟩
theorem cw_L_180 {R : Room} {s : State} {args : Array Value} (hts : ∀ w ∈ wsT, w.before args s = true) (hf : 1 + 1 ≤ R.frames) (hl : 8 + (2 + 11) + 22 ≤ R.locals) : CallW R s args RL RX4 180 yX4_count cX4_count 2 (some .int) (wsA yX4_count cX4_count 2 (some .int)) rm_X4_count 0 0 1 := cwAV 1 hts q_1082 q_1083 q_1084 q_81 q_1085 rfl rfl (by decide +kernel) ⟨hf, hl⟩
theorem cw_L_181 {R : Room} {s : State} {args : Array Value} (hts : ∀ w ∈ wsT, w.before args s = true) (hf : 1 + 1 ≤ R.frames) (hl : 8 + (2 + 11) + 21 ≤ R.locals) : CallW R s args RL RX3 181 yX3_deliveredShare cX3_deliveredShare 2 (some .double) (wsA yX3_deliveredShare cX3_deliveredShare 2 (some .double)) rm_X3_deliveredShare 0 0 0 := cwAV 0 hts q_210 q_211 q_212 q_76 q_213 rfl rfl (by decide +kernel) ⟨hf, hl⟩
theorem cw_L_185 {R : Room} {s : State} {args : Array Value} (hts : ∀ w ∈ wsT, w.before args s = true) (hf : 0 + 1 ≤ R.frames) (hl : 8 + (1 + 11) + 0 ≤ R.locals) : CallW R s args RL RX4 185 yX4_deliveredShare cX4_deliveredShare 1 (some .double) (wsA yX4_deliveredShare cX4_deliveredShare 1 (some .double)) rm_X4_deliveredShare 0 0 0 := cwAV 0 hts q_1086 q_1087 q_1088 q_81 q_1089 rfl rfl (by decide +kernel) ⟨hf, hl⟩
theorem cw_L_188 {R : Room} {s : State} {args : Array Value} (hts : ∀ w ∈ wsT, w.before args s = true) (hf : 3 + 1 ≤ R.frames) (hl : 8 + (2 + 11) + 73 ≤ R.locals) : CallW R s args RL RX4 188 yX4_lostIfClosed cX4_lostIfClosed 2 (some .int) (wsA yX4_lostIfClosed cX4_lostIfClosed 2 (some .int)) rm_X4_lostIfClosed 0 0 1 := cwAV 1 hts q_1090 q_1091 q_1092 q_81 q_1093 rfl rfl (by decide +kernel) ⟨hf, hl⟩
theorem cw_L_191 {R : Room} {s : State} {args : Array Value} (hts : ∀ w ∈ wsT, w.before args s = true) (hf : 2 + 1 ≤ R.frames) (hl : 8 + (2 + 11) + 50 ≤ R.locals) : CallW R s args RL RX4 191 yX4_ticksTo cX4_ticksTo 2 (some .int) (wsA yX4_ticksTo cX4_ticksTo 2 (some .int)) rm_X4_ticksTo 0 0 1 := cwAV 1 hts q_1102 q_1103 q_1104 q_81 q_1105 rfl rfl (by decide +kernel) ⟨hf, hl⟩
theorem cw_L_194 {R : Room} {s : State} {args : Array Value} (hts : ∀ w ∈ wsT, w.before args s = true) (hf : 4 + 1 ≤ R.frames) (hl : 8 + (2 + 11) + 92 ≤ R.locals) : CallW R s args RL RX4 194 yX4_leastWork cX4_leastWork 2 (some .int) (wsA yX4_leastWork cX4_leastWork 2 (some .int)) rm_X4_leastWork 0 0 1 := cwAV 1 hts q_1106 q_1107 q_1108 q_81 q_1109 rfl rfl (by decide +kernel) ⟨hf, hl⟩
theorem cw_L_197 {R : Room} {s : State} {args : Array Value} (hts : ∀ w ∈ wsT, w.before args s = true) (hf : 1 + 1 ≤ R.frames) (hl : 8 + (2 + 11) + 22 ≤ R.locals) : CallW R s args RL RX4 197 yX4_append cX4_append 2 (some .int) (wsA yX4_append cX4_append 2 (some .int)) rm_X4_append 0 0 1 := cwAV 1 hts q_1118 q_1119 q_1120 q_81 q_1121 rfl rfl (by decide +kernel) ⟨hf, hl⟩
theorem cw_L_198 {R : Room} {s : State} {args : Array Value} (hts : ∀ w ∈ wsT, w.before args s = true) (hf : 1 + 1 ≤ R.frames) (hl : 8 + (1 + 11) + 21 ≤ R.locals) : CallW R s args RL RX3 198 yX3_clearText cX3_clearText 1 (some .int) (wsA yX3_clearText cX3_clearText 1 (some .int)) rm_X3_clearText 0 0 0 := cwAV 0 hts q_217 q_218 q_219 q_76 q_220 rfl rfl (by decide +kernel) ⟨hf, hl⟩
theorem cw_L_201 {R : Room} {s : State} {args : Array Value} (hts : ∀ w ∈ wsT, w.before args s = true) (hf : 0 + 1 ≤ R.frames) (hl : 8 + (2 + 11) + 0 ≤ R.locals) : CallW R s args RL RX4 201 yX4_clearText cX4_clearText 2 (some .int) (wsA yX4_clearText cX4_clearText 2 (some .int)) rm_X4_clearText 0 0 0 := cwAV 0 hts q_1122 q_1123 q_1124 q_81 q_1125 rfl rfl (by decide +kernel) ⟨hf, hl⟩
theorem cw_L_202 {R : Room} {s : State} {args : Array Value} (hts : ∀ w ∈ wsT, w.before args s = true) (hf : 4 + 1 ≤ R.frames) (hl : 8 + (1 + 11) + 93 ≤ R.locals) : CallW R s args RL RX3 202 yX3_firstError cX3_firstError 1 (some .int) (wsA yX3_firstError cX3_firstError 1 (some .int)) rm_X3_firstError 0 0 0 := cwAV 0 hts q_225 q_226 q_227 q_76 q_228 rfl rfl (by decide +kernel) ⟨hf, hl⟩
theorem cw_L_205 {R : Room} {s : State} {args : Array Value} (hts : ∀ w ∈ wsT, w.before args s = true) (hf : 6 + 1 ≤ R.frames) (hl : 8 + (1 + 11) + 127 ≤ R.locals) : CallW R s args RL RX4 205 yX4_firstError cX4_firstError 1 (some .int) (wsA yX4_firstError cX4_firstError 1 (some .int)) rm_X4_firstError 0 0 0 := cwAV 0 hts q_1126 q_1127 q_1128 q_81 q_1129 rfl rfl (by decide +kernel) ⟨hf, hl⟩
theorem cw_L_208 {R : Room} {s : State} {args : Array Value} (hts : ∀ w ∈ wsT, w.before args s = true) (hf : 7 + 1 ≤ R.frames) (hl : 8 + (2 + 11) + 160 ≤ R.locals) : CallW R s args RL RX4 208 yX4_run cX4_run 2 (some .int) (wsA yX4_run cX4_run 2 (some .int)) rm_X4_run 0 0 0 := cwAV 0 hts q_1162 q_1163 q_1164 q_81 q_1165 rfl rfl (by decide +kernel) ⟨hf, hl⟩
theorem cw_L_211 {R : Room} {s : State} {args : Array Value} (hts : ∀ w ∈ wsT, w.before args s = true) (hf : 1 + 1 ≤ R.frames) (hl : 8 + (1 + 11) + 23 ≤ R.locals) : CallW R s args RL RX4 211 yX4_undo cX4_undo 1 (some .int) (wsA yX4_undo cX4_undo 1 (some .int)) rm_X4_undo 0 0 0 := cwAV 0 hts q_1170 q_1171 q_1172 q_81 q_1173 rfl rfl (by decide +kernel) ⟨hf, hl⟩
theorem cw_L_212 {R : Room} {s : State} {args : Array Value} (hts : ∀ w ∈ wsT, w.before args s = true) (hf : 0 + 1 ≤ R.frames) (hl : 8 + (1 + 11) + 0 ≤ R.locals) : CallW R s args RL RX3 212 yX3_savedStates cX3_savedStates 1 (some .int) (wsA yX3_savedStates cX3_savedStates 1 (some .int)) rm_X3_savedStates 0 0 0 := cwAV 0 hts q_259 q_260 q_261 q_76 q_262 rfl rfl (by decide +kernel) ⟨hf, hl⟩
theorem cw_L_215 {R : Room} {s : State} {args : Array Value} (hts : ∀ w ∈ wsT, w.before args s = true) (hf : 1 + 1 ≤ R.frames) (hl : 8 + (1 + 11) + 21 ≤ R.locals) : CallW R s args RL RX4 215 yX4_savedStates cX4_savedStates 1 (some .int) (wsA yX4_savedStates cX4_savedStates 1 (some .int)) rm_X4_savedStates 0 0 0 := cwAV 0 hts q_1174 q_1175 q_1176 q_81 q_1177 rfl rfl (by decide +kernel) ⟨hf, hl⟩
theorem cw_L_216 {R : Room} {s : State} {args : Array Value} (hts : ∀ w ∈ wsT, w.before args s = true) (hf : 6 + 1 ≤ R.frames) (hl : 8 + (4 + 11) + 139 ≤ R.locals) : CallW R s args RL RX3 216 yX3_digest cX3_digest 4 (some .long) (wsA yX3_digest cX3_digest 4 (some .long)) rm_X3_digest 0 0 0 := cwAV 0 hts q_263 q_264 q_265 q_76 q_266 rfl rfl (by decide +kernel) ⟨hf, hl⟩
theorem cw_L_220 {R : Room} {s : State} {args : Array Value} (hts : ∀ w ∈ wsT, w.before args s = true) (hf : 4 + 1 ≤ R.frames) (hl : 8 + (3 + 11) + 94 ≤ R.locals) : CallW R s args RL RX4 220 yX4_digest cX4_digest 3 (some .long) (wsA yX4_digest cX4_digest 3 (some .long)) rm_X4_digest 0 0 0 := cwAV 0 hts q_1178 q_1179 q_1180 q_81 q_1181 rfl rfl (by decide +kernel) ⟨hf, hl⟩
theorem cwH_setOpen {R : Room} {s : State} {args : Array Value} (hts : ∀ w ∈ wsT, w.before args s = true) (hf : 8 + 1 ≤ R.frames) (hl : 8 + (5 + 11) + 147 ≤ R.locals) : vx_CSW R s args RL 101 yL_setOpen cL_setOpen 5 (some .int) [(0, 17, 20, 13)] (Cond.codeWith yL_setOpen cL_setOpen 5 (some .int) [(0, 17, 20, 13)] :: wsT) rm_L_setOpen 1 6 4 := vx_cwSW 4 hts (gAH q_345 [.methodLink RL 101 yL_setOpen, .static yL_setOpen, .initialized yL_setOpen.cls] (fc q_343 (fc q_344 (fc q_75 fn)))) rfl rfl rfl (by decide +kernel) ⟨hf, hl⟩
theorem cwH_setKey {R : Room} {s : State} {args : Array Value} (hts : ∀ w ∈ wsT, w.before args s = true) (hf : 8 + 1 ≤ R.frames) (hl : 8 + (5 + 11) + 147 ≤ R.locals) : vx_CSW R s args RL 110 yL_setKey cL_setKey 5 (some .int) [(0, 10, 13, 13), (0, 10, 17, 19)] (Cond.codeWith yL_setKey cL_setKey 5 (some .int) [(0, 10, 13, 13), (0, 10, 17, 19)] :: wsT) rm_L_setKey 1 6 4 := vx_cwSW 4 hts (gAH q_486 [.methodLink RL 110 yL_setKey, .static yL_setKey, .initialized yL_setKey.cls] (fc q_484 (fc q_485 (fc q_75 fn)))) rfl rfl rfl (by decide +kernel) ⟨hf, hl⟩
theorem cwH_isOpen {R : Room} {s : State} {args : Array Value} (hts : ∀ w ∈ wsT, w.before args s = true) (hf : 8 + 1 ≤ R.frames) (hl : 8 + (4 + 11) + 131 ≤ R.locals) : vx_CSW R s args RL 114 yL_isOpen cL_isOpen 4 (some .int) [(0, 16, 19, 13)] (Cond.codeWith yL_isOpen cL_isOpen 4 (some .int) [(0, 16, 19, 13)] :: wsT) rm_L_isOpen 1 6 3 := vx_cwSW 3 hts (gAH q_503 [.methodLink RL 114 yL_isOpen, .static yL_isOpen, .initialized yL_isOpen.cls] (fc q_501 (fc q_502 (fc q_75 fn)))) rfl rfl rfl (by decide +kernel) ⟨hf, hl⟩
theorem cwH_key {R : Room} {s : State} {args : Array Value} (hts : ∀ w ∈ wsT, w.before args s = true) (hf : 8 + 1 ≤ R.frames) (hl : 8 + (4 + 11) + 131 ≤ R.locals) : vx_CSW R s args RL 118 yL_key cL_key 4 (some .int) [(0, 9, 12, 13)] (Cond.codeWith yL_key cL_key 4 (some .int) [(0, 9, 12, 13)] :: wsT) rm_L_key 1 6 3 := vx_cwSW 3 hts (gAH q_510 [.methodLink RL 118 yL_key, .static yL_key, .initialized yL_key.cls] (fc q_508 (fc q_509 (fc q_75 fn)))) rfl rfl rfl (by decide +kernel) ⟨hf, hl⟩
theorem cwH_cover {R : Room} {s : State} {args : Array Value} (hts : ∀ w ∈ wsT, w.before args s = true) (hf : 8 + 1 ≤ R.frames) (hl : 8 + (5 + 11) + 132 ≤ R.locals) : vx_CSW R s args RL 121 yL_cover cL_cover 5 (some .int) [(0, 10, 13, 13), (0, 10, 17, 19)] (Cond.codeWith yL_cover cL_cover 5 (some .int) [(0, 10, 13, 13), (0, 10, 17, 19)] :: wsT) rm_L_cover 1 6 4 := vx_cwSW 4 hts (gAH q_517 [.methodLink RL 121 yL_cover, .static yL_cover, .initialized yL_cover.cls] (fc q_515 (fc q_516 (fc q_75 fn)))) rfl rfl rfl (by decide +kernel) ⟨hf, hl⟩
theorem cwH_uncover {R : Room} {s : State} {args : Array Value} (hts : ∀ w ∈ wsT, w.before args s = true) (hf : 8 + 1 ≤ R.frames) (hl : 8 + (5 + 11) + 132 ≤ R.locals) : vx_CSW R s args RL 124 yL_uncover cL_uncover 5 (some .int) [(0, 10, 13, 13), (0, 10, 17, 19)] (Cond.codeWith yL_uncover cL_uncover 5 (some .int) [(0, 10, 13, 13), (0, 10, 17, 19)] :: wsT) rm_L_uncover 1 6 4 := vx_cwSW 4 hts (gAH q_530 [.methodLink RL 124 yL_uncover, .static yL_uncover, .initialized yL_uncover.cls] (fc q_528 (fc q_529 (fc q_75 fn)))) rfl rfl rfl (by decide +kernel) ⟨hf, hl⟩
theorem cwH_lay {R : Room} {s : State} {args : Array Value} (hts : ∀ w ∈ wsT, w.before args s = true) (hf : 8 + 1 ≤ R.frames) (hl : 8 + (7 + 11) + 148 ≤ R.locals) : vx_CSW R s args RL 127 yL_lay cL_lay 7 (some .int) [(0, 14, 17, 13), (0, 14, 21, 19), (0, 14, 25, 39)] (Cond.codeWith yL_lay cL_lay 7 (some .int) [(0, 14, 17, 13), (0, 14, 21, 19), (0, 14, 25, 39)] :: wsT) rm_L_lay 1 6 6 := vx_cwSW 6 hts (gAH q_540 [.methodLink RL 127 yL_lay, .static yL_lay, .initialized yL_lay.cls] (fc q_538 (fc q_539 (fc q_75 fn)))) rfl rfl rfl (by decide +kernel) ⟨hf, hl⟩
theorem cwH_takeUp {R : Room} {s : State} {args : Array Value} (hts : ∀ w ∈ wsT, w.before args s = true) (hf : 7 + 1 ≤ R.frames) (hl : 8 + (3 + 11) + 144 ≤ R.locals) : vx_CSW R s args RL 131 yL_takeUp cL_takeUp 3 (some .int) [(0, 8, 11, 39)] (Cond.codeWith yL_takeUp cL_takeUp 3 (some .int) [(0, 8, 11, 39)] :: wsT) rm_L_takeUp 1 6 2 := vx_cwSW 2 hts (gAH q_564 [.methodLink RL 131 yL_takeUp, .static yL_takeUp, .initialized yL_takeUp.cls] (fc q_562 (fc q_563 (fc q_75 fn)))) rfl rfl rfl (by decide +kernel) ⟨hf, hl⟩
theorem cwH_inn {R : Room} {s : State} {args : Array Value} (hts : ∀ w ∈ wsT, w.before args s = true) (hf : 8 + 1 ≤ R.frames) (hl : 8 + (5 + 11) + 132 ≤ R.locals) : vx_CSW R s args RL 139 yL_inn cL_inn 5 (some .int) [(0, 10, 13, 13)] (Cond.codeWith yL_inn cL_inn 5 (some .int) [(0, 10, 13, 13)] :: wsT) rm_L_inn 1 6 4 := vx_cwSW 4 hts (gAH q_580 [.methodLink RL 139 yL_inn, .static yL_inn, .initialized yL_inn.cls] (fc q_578 (fc q_579 (fc q_75 fn)))) rfl rfl rfl (by decide +kernel) ⟨hf, hl⟩
theorem cwH_hall {R : Room} {s : State} {args : Array Value} (hts : ∀ w ∈ wsT, w.before args s = true) (hf : 8 + 1 ≤ R.frames) (hl : 8 + (4 + 11) + 131 ≤ R.locals) : vx_CSW R s args RL 142 yL_hall cL_hall 4 (some .int) [(0, 9, 12, 13)] (Cond.codeWith yL_hall cL_hall 4 (some .int) [(0, 9, 12, 13)] :: wsT) rm_L_hall 1 6 3 := vx_cwSW 3 hts (gAH q_591 [.methodLink RL 142 yL_hall, .static yL_hall, .initialized yL_hall.cls] (fc q_589 (fc q_590 (fc q_75 fn)))) rfl rfl rfl (by decide +kernel) ⟨hf, hl⟩
theorem cwH_stands {R : Room} {s : State} {args : Array Value} (hts : ∀ w ∈ wsT, w.before args s = true) (hf : 8 + 1 ≤ R.frames) (hl : 8 + (4 + 11) + 131 ≤ R.locals) : vx_CSW R s args RL 145 yL_stands cL_stands 4 (some .int) [(0, 16, 19, 13)] (Cond.codeWith yL_stands cL_stands 4 (some .int) [(0, 16, 19, 13)] :: wsT) rm_L_stands 1 6 3 := vx_cwSW 3 hts (gAH q_598 [.methodLink RL 145 yL_stands, .static yL_stands, .initialized yL_stands.cls] (fc q_596 (fc q_597 (fc q_75 fn)))) rfl rfl rfl (by decide +kernel) ⟨hf, hl⟩
theorem cwH_see {R : Room} {s : State} {args : Array Value} (hts : ∀ w ∈ wsT, w.before args s = true) (hf : 8 + 1 ≤ R.frames) (hl : 8 + (6 + 11) + 133 ≤ R.locals) : vx_CSW R s args RL 148 yL_see cL_see 6 (some .int) [(0, 12, 15, 13)] (Cond.codeWith yL_see cL_see 6 (some .int) [(0, 12, 15, 13)] :: wsT) rm_L_see 2 12 5 := vx_cwSW 5 hts (gAH q_605 [.methodLink RL 148 yL_see, .static yL_see, .initialized yL_see.cls] (fc q_603 (fc q_604 (fc q_75 fn)))) rfl rfl rfl (by decide +kernel) ⟨hf, hl⟩
theorem cwH_known {R : Room} {s : State} {args : Array Value} (hts : ∀ w ∈ wsT, w.before args s = true) (hf : 8 + 1 ≤ R.frames) (hl : 8 + (4 + 11) + 135 ≤ R.locals) : vx_CSW R s args RL 152 yL_known cL_known 4 (some .int) [(0, 9, 12, 13)] (Cond.codeWith yL_known cL_known 4 (some .int) [(0, 9, 12, 13)] :: wsT) rm_L_known 1 6 3 := vx_cwSW 3 hts (gAH q_613 [.methodLink RL 152 yL_known, .static yL_known, .initialized yL_known.cls] (fc q_611 (fc q_612 (fc q_75 fn)))) rfl rfl rfl (by decide +kernel) ⟨hf, hl⟩
theorem cwH_send {R : Room} {s : State} {args : Array Value} (hts : ∀ w ∈ wsT, w.before args s = true) (hf : 8 + 1 ≤ R.frames) (hl : 8 + (5 + 11) + 146 ≤ R.locals) : vx_CSW R s args RL 155 yL_send cL_send 5 (some .int) [(0, 10, 13, 13), (0, 10, 17, 19), (0, 10, 21, 39)] (Cond.codeWith yL_send cL_send 5 (some .int) [(0, 10, 13, 13), (0, 10, 17, 19), (0, 10, 21, 39)] :: wsT) rm_L_send 1 6 4 := vx_cwSW 4 hts (gAH q_620 [.methodLink RL 155 yL_send, .static yL_send, .initialized yL_send.cls] (fc q_618 (fc q_619 (fc q_75 fn)))) rfl rfl rfl (by decide +kernel) ⟨hf, hl⟩
theorem cwH_answer {R : Room} {s : State} {args : Array Value} (hts : ∀ w ∈ wsT, w.before args s = true) (hf : 8 + 1 ≤ R.frames) (hl : 8 + (5 + 11) + 146 ≤ R.locals) : vx_CSW R s args RL 158 yL_answer cL_answer 5 (some .int) [(0, 10, 13, 13), (0, 10, 17, 19), (0, 10, 21, 39)] (Cond.codeWith yL_answer cL_answer 5 (some .int) [(0, 10, 13, 13), (0, 10, 17, 19), (0, 10, 21, 39)] :: wsT) rm_L_answer 1 6 4 := vx_cwSW 4 hts (gAH q_652 [.methodLink RL 158 yL_answer, .static yL_answer, .initialized yL_answer.cls] (fc q_650 (fc q_651 (fc q_75 fn)))) rfl rfl rfl (by decide +kernel) ⟨hf, hl⟩
theorem cwH_pass {R : Room} {s : State} {args : Array Value} (hts : ∀ w ∈ wsT, w.before args s = true) (hf : 7 + 1 ≤ R.frames) (hl : 8 + (4 + 11) + 145 ≤ R.locals) : vx_CSW R s args RL 161 yL_pass cL_pass 4 (some .int) [(0, 9, 12, 19)] (Cond.codeWith yL_pass cL_pass 4 (some .int) [(0, 9, 12, 19)] :: wsT) rm_L_pass 1 6 3 := vx_cwSW 3 hts (gAH q_667 [.methodLink RL 161 yL_pass, .static yL_pass, .initialized yL_pass.cls] (fc q_665 (fc q_666 (fc q_75 fn)))) rfl rfl rfl (by decide +kernel) ⟨hf, hl⟩
theorem cwH_envelope {R : Room} {s : State} {args : Array Value} (hts : ∀ w ∈ wsT, w.before args s = true) (hf : 8 + 1 ≤ R.frames) (hl : 8 + (5 + 11) + 132 ≤ R.locals) : vx_CSW R s args RL 168 yL_envelope cL_envelope 5 (some .int) [(0, 10, 13, 13)] (Cond.codeWith yL_envelope cL_envelope 5 (some .int) [(0, 10, 13, 13)] :: wsT) rm_L_envelope 1 6 4 := vx_cwSW 4 hts (gAH q_700 [.methodLink RL 168 yL_envelope, .static yL_envelope, .initialized yL_envelope.cls] (fc q_698 (fc q_699 (fc q_75 fn)))) rfl rfl rfl (by decide +kernel) ⟨hf, hl⟩
theorem cwH_letter {R : Room} {s : State} {args : Array Value} (hts : ∀ w ∈ wsT, w.before args s = true) (hf : 8 + 1 ≤ R.frames) (hl : 8 + (4 + 11) + 131 ≤ R.locals) : vx_CSW R s args RL 171 yL_letter cL_letter 4 (some .int) [(0, 9, 12, 13)] (Cond.codeWith yL_letter cL_letter 4 (some .int) [(0, 9, 12, 13)] :: wsT) rm_L_letter 1 6 3 := vx_cwSW 3 hts (gAH q_711 [.methodLink RL 171 yL_letter, .static yL_letter, .initialized yL_letter.cls] (fc q_709 (fc q_710 (fc q_75 fn)))) rfl rfl rfl (by decide +kernel) ⟨hf, hl⟩
theorem cwH_count {R : Room} {s : State} {args : Array Value} (hts : ∀ w ∈ wsT, w.before args s = true) (hf : 8 + 1 ≤ R.frames) (hl : 8 + (4 + 11) + 131 ≤ R.locals) : vx_CSW R s args RL 178 yL_count cL_count 4 (some .int) [(0, 9, 12, 13)] (Cond.codeWith yL_count cL_count 4 (some .int) [(0, 9, 12, 13)] :: wsT) rm_L_count 1 6 3 := vx_cwSW 3 hts (gAH q_718 [.methodLink RL 178 yL_count, .static yL_count, .initialized yL_count.cls] (fc q_716 (fc q_717 (fc q_75 fn)))) rfl rfl rfl (by decide +kernel) ⟨hf, hl⟩
theorem cwH_lostIfClosed {R : Room} {s : State} {args : Array Value} (hts : ∀ w ∈ wsT, w.before args s = true) (hf : 8 + 1 ≤ R.frames) (hl : 8 + (4 + 11) + 131 ≤ R.locals) : vx_CSW R s args RL 186 yL_lostIfClosed cL_lostIfClosed 4 (some .int) [(0, 9, 12, 13)] (Cond.codeWith yL_lostIfClosed cL_lostIfClosed 4 (some .int) [(0, 9, 12, 13)] :: wsT) rm_L_lostIfClosed 1 6 3 := vx_cwSW 3 hts (gAH q_725 [.methodLink RL 186 yL_lostIfClosed, .static yL_lostIfClosed, .initialized yL_lostIfClosed.cls] (fc q_723 (fc q_724 (fc q_75 fn)))) rfl rfl rfl (by decide +kernel) ⟨hf, hl⟩
theorem cwH_ticksTo {R : Room} {s : State} {args : Array Value} (hts : ∀ w ∈ wsT, w.before args s = true) (hf : 8 + 1 ≤ R.frames) (hl : 8 + (4 + 11) + 131 ≤ R.locals) : vx_CSW R s args RL 189 yL_ticksTo cL_ticksTo 4 (some .int) [(0, 9, 12, 13)] (Cond.codeWith yL_ticksTo cL_ticksTo 4 (some .int) [(0, 9, 12, 13)] :: wsT) rm_L_ticksTo 1 6 3 := vx_cwSW 3 hts (gAH q_732 [.methodLink RL 189 yL_ticksTo, .static yL_ticksTo, .initialized yL_ticksTo.cls] (fc q_730 (fc q_731 (fc q_75 fn)))) rfl rfl rfl (by decide +kernel) ⟨hf, hl⟩
theorem cwH_leastWork {R : Room} {s : State} {args : Array Value} (hts : ∀ w ∈ wsT, w.before args s = true) (hf : 8 + 1 ≤ R.frames) (hl : 8 + (4 + 11) + 134 ≤ R.locals) : vx_CSW R s args RL 192 yL_leastWork cL_leastWork 4 (some .int) [(0, 9, 12, 13)] (Cond.codeWith yL_leastWork cL_leastWork 4 (some .int) [(0, 9, 12, 13)] :: wsT) rm_L_leastWork 1 6 3 := vx_cwSW 3 hts (gAH q_739 [.methodLink RL 192 yL_leastWork, .static yL_leastWork, .initialized yL_leastWork.cls] (fc q_737 (fc q_738 (fc q_75 fn)))) rfl rfl rfl (by decide +kernel) ⟨hf, hl⟩
theorem cwH_append {R : Room} {s : State} {args : Array Value} (hts : ∀ w ∈ wsT, w.before args s = true) (hf : 7 + 1 ≤ R.frames) (hl : 8 + (4 + 11) + 111 ≤ R.locals) : vx_CSW R s args RL 195 yL_append cL_append 4 (some .int) [(0, 9, 12, 19), (0, 9, 15, 39)] (Cond.codeWith yL_append cL_append 4 (some .int) [(0, 9, 12, 19), (0, 9, 15, 39)] :: wsT) rm_L_append 1 6 3 := vx_cwSW 3 hts (gAH q_746 [.methodLink RL 195 yL_append, .static yL_append, .initialized yL_append.cls] (fc q_744 (fc q_745 (fc q_75 fn)))) rfl rfl rfl (by decide +kernel) ⟨hf, hl⟩
theorem cwH_run {R : Room} {s : State} {args : Array Value} (hts : ∀ w ∈ wsT, w.before args s = true) (hf : 7 + 1 ≤ R.frames) (hl : 8 + (3 + 11) + 164 ≤ R.locals) : vx_CSW R s args RL 206 yL_run cL_run 3 (some .int) [(0, 8, 11, 19)] (Cond.codeWith yL_run cL_run 3 (some .int) [(0, 8, 11, 19)] :: wsT) rm_L_run 1 6 2 := vx_cwSW 2 hts (gAH q_760 [.methodLink RL 206 yL_run, .static yL_run, .initialized yL_run.cls] (fc q_758 (fc q_759 (fc q_75 fn)))) rfl rfl rfl (by decide +kernel) ⟨hf, hl⟩
theorem cwH_undo {R : Room} {s : State} {args : Array Value} (hts : ∀ w ∈ wsT, w.before args s = true) (hf : 7 + 1 ≤ R.frames) (hl : 8 + (3 + 11) + 144 ≤ R.locals) : vx_CSW R s args RL 209 yL_undo cL_undo 3 (some .int) [(0, 8, 11, 39)] (Cond.codeWith yL_undo cL_undo 3 (some .int) [(0, 8, 11, 39)] :: wsT) rm_L_undo 1 6 2 := vx_cwSW 2 hts (gAH q_803 [.methodLink RL 209 yL_undo, .static yL_undo, .initialized yL_undo.cls] (fc q_801 (fc q_802 (fc q_75 fn)))) rfl rfl rfl (by decide +kernel) ⟨hf, hl⟩
