/-! the law's helpers -/
/-- the object beside the row 'on' -/
def hW (cI cS : ClassId) (G : Nat → Nat → Nat) (o : Nat) (q : Ne × (Nat → Int32)) : va_W := [(o, .inl (cI, 4, .inl q.2))] ++ neW cI cS G q.1
section
variable {p : Program} {l : Launch} {e : Env} {R : Room} {s : State} {m : MethodId} {args : Array Value} {below : List Frame} {meth : Method} {c : Code} {H H0 : Heap} {locs : List Loc} {cells slots mc ms : Nat} {Q : State → Prop} {A : Nat → Prop} {D : va_G} {T : List (ClassId × FieldType)} {ws wc wr : va_W} {pc : Nat} {ls : Array Slot} {rest st0 : List Value}
variable {y : MethodName} {bytes cc : ByteArray} {maxL nL n index : Nat} {ret : Option FieldType} {rm : Room} {own C : String} {b : Addr} {As : List Value} {W9 : List Cond}
theorem rwSi {S : Type} {post : Int32 → S → Prop} {wf : S → va_W} (hpm : ws.Perm (wc ++ wr)) (F : CallFix p m c cc nL s args wsT own) (hM : Met l y W9 rm (va_Pc As (rwP D T wc H.size)) (va_Qi post (fun u t => va_P D vwCl (wf u) t.heap ∧ va_D (va_A wc H.size) (wf u)) (va_A wc H.size)) mc ms (va_A wc H.size)) (cw : CallB R s args own index y bytes maxL ret W9 rm mc ms n ∧ (Cond.static y).before args s = true)
    (hK : KK D T s) (hP : va_P D vwCl ws H) (hD : va_D A ws) (hS : va_S A H0 H locs) (hA : ∀ q, H0.size ≤ q → A q) (hn : As.length = n) (hsz : ls.size = nL) (hst : st0 = As.reverse ++ rest) (hW : (rest.map fun v => v.category).sum ≤ 8) (hdg : decode cc pc = .ok (.invokestatic index, 3)) (hf : cells + mc ≤ R.cells ∧ slots + ms ≤ R.slots)
    (kk : ∀ r u H1 locs1, post r u → va_P D vwCl (wf u ++ wr) H1 → va_D A (wf u ++ wr) → va_S A H0 H1 locs1 → W p l e R s m args below meth c H1 locs1 (cells + mc) (slots + ms) Q (F0 m (pc + 3) ls (.int r :: rest))) : W p l e R s m args below meth c H locs cells slots Q (F0 m pc ls st0) :=
  rw_ki (va_runS F hM cw (preRW hpm hK hP hD) rfl hn hsz hst (lv_room hW) hdg hf) hpm hP hD hS hA kk
theorem rwSi0 {S : Type} {post : Int32 → S → Prop} {wf : S → va_W} (F : CallFix p m c cc nL s args wsT own) (hM : Met l y W9 rm (va_Pc As (rwP D T wc H.size)) (va_Qi post (fun u t => va_P D vwCl (wf u) t.heap ∧ va_D (va_A wc H.size) (wf u)) (va_A wc H.size)) mc ms (va_A wc H.size)) (cw : CallB R s args own index y bytes maxL ret W9 rm mc ms n ∧ (Cond.static y).before args s = true)
    (hK : KK D T s) (hP : va_P D vwCl wc H) (hD : va_D A wc) (hS : va_S A H0 H locs) (hA : ∀ q, H0.size ≤ q → A q) (hn : As.length = n) (hsz : ls.size = nL) (hst : st0 = As.reverse ++ rest) (hW : (rest.map fun v => v.category).sum ≤ 8) (hdg : decode cc pc = .ok (.invokestatic index, 3)) (hf : cells + mc ≤ R.cells ∧ slots + ms ≤ R.slots)
    (kk : ∀ r u H1 locs1, post r u → va_P D vwCl (wf u) H1 → va_D A (wf u) → va_S A H0 H1 locs1 → W p l e R s m args below meth c H1 locs1 (cells + mc) (slots + ms) Q (F0 m (pc + 3) ls (.int r :: rest))) : W p l e R s m args below meth c H locs cells slots Q (F0 m pc ls st0) :=
  rwSi perm0 F hM cw hK hP hD hS hA hn hsz hst hW hdg hf (fun r u H1 locs1 h1 h2 h3 h4 => kk r u H1 locs1 h1 (by rw [List.append_nil] at h2; exact h2) (by rw [List.append_nil] at h3; exact h3) h4)
end
abbrev rm_L_up : Room := { frames := 0, cells := 0, slots := 0, locals := 0 }
abbrev rm_L_passes : Room := { frames := 6, cells := 0, slots := 0, locals := 145 }
abbrev rm_L_act : Room := { frames := 7, cells := 0, slots := 0, locals := 169 }
abbrev rm_L_isCovered : Room := { frames := 4, cells := 0, slots := 0, locals := 85 }
abbrev rm_L_isBrought : Room := { frames := 7, cells := 0, slots := 0, locals := 162 }
abbrev rm_L_holds : Room := { frames := 6, cells := 0, slots := 0, locals := 135 }
theorem q_22 : Cond.initialized RL ∈ wsT := tw 22 (by decide +kernel) rfl
theorem q_142 : Cond.methodLink RL 15 yX3_roads ∈ wsT := tw 142 (by decide +kernel) rfl
theorem q_143 : Cond.instanceMethod yX3_roads ∈ wsT := tw 143 (by decide +kernel) rfl
theorem q_144 : Cond.selects RX3 yX3_roads yX3_roads ∈ wsT := tw 144 (by decide +kernel) rfl
theorem q_145 : Cond.code yX3_roads cX3_roads 1 (some .int) ∈ wsT := tw 145 (by decide +kernel) rfl
theorem q_146 : Cond.methodLink RL 101 yX3_undo ∈ wsT := tw 146 (by decide +kernel) rfl
theorem q_147 : Cond.instanceMethod yX3_undo ∈ wsT := tw 147 (by decide +kernel) rfl
theorem q_148 : Cond.selects RX3 yX3_undo yX3_undo ∈ wsT := tw 148 (by decide +kernel) rfl
theorem q_149 : Cond.code yX3_undo cX3_undo 1 (some .int) ∈ wsT := tw 149 (by decide +kernel) rfl
theorem q_243 : Cond.methodLink RL 91 yX3_digest ∈ wsT := tw 243 (by decide +kernel) rfl
theorem q_244 : Cond.instanceMethod yX3_digest ∈ wsT := tw 244 (by decide +kernel) rfl
theorem q_245 : Cond.selects RX3 yX3_digest yX3_digest ∈ wsT := tw 245 (by decide +kernel) rfl
theorem q_246 : Cond.code yX3_digest cX3_digest 4 (some .long) ∈ wsT := tw 246 (by decide +kernel) rfl
theorem q_332 : Cond.methodLink RL 9 yL_up ∈ wsT := tw 332 (by decide +kernel) rfl
theorem q_333 : Cond.static yL_up ∈ wsT := tw 333 (by decide +kernel) rfl
theorem q_334 : Cond.code yL_up cL_up 2 (some .int) ∈ wsT := tw 334 (by decide +kernel) rfl
theorem q_335 : Cond.constant RL 8 (2147483647 : Int32) ∈ wsT := tw 335 (by decide +kernel) rfl
theorem q_339 : Cond.methodLink RL 21 yX3_envelopes ∈ wsT := tw 339 (by decide +kernel) rfl
theorem q_340 : Cond.instanceMethod yX3_envelopes ∈ wsT := tw 340 (by decide +kernel) rfl
theorem q_341 : Cond.selects RX3 yX3_envelopes yX3_envelopes ∈ wsT := tw 341 (by decide +kernel) rfl
theorem q_342 : Cond.code yX3_envelopes cX3_envelopes 1 (some .int) ∈ wsT := tw 342 (by decide +kernel) rfl
theorem q_343 : Cond.methodLink RL 24 yX3_setOpen ∈ wsT := tw 343 (by decide +kernel) rfl
theorem q_344 : Cond.instanceMethod yX3_setOpen ∈ wsT := tw 344 (by decide +kernel) rfl
theorem q_345 : Cond.selects RX3 yX3_setOpen yX3_setOpen ∈ wsT := tw 345 (by decide +kernel) rfl
theorem q_346 : Cond.code yX3_setOpen cX3_setOpen 4 (some .boolean) ∈ wsT := tw 346 (by decide +kernel) rfl
theorem q_396 : Cond.methodLink RL 28 yX3_setKey ∈ wsT := tw 396 (by decide +kernel) rfl
theorem q_397 : Cond.instanceMethod yX3_setKey ∈ wsT := tw 397 (by decide +kernel) rfl
theorem q_398 : Cond.selects RX3 yX3_setKey yX3_setKey ∈ wsT := tw 398 (by decide +kernel) rfl
theorem q_399 : Cond.code yX3_setKey cX3_setKey 4 (some .int) ∈ wsT := tw 399 (by decide +kernel) rfl
theorem q_409 : Cond.methodLink RL 31 yX3_isOpen ∈ wsT := tw 409 (by decide +kernel) rfl
theorem q_410 : Cond.instanceMethod yX3_isOpen ∈ wsT := tw 410 (by decide +kernel) rfl
theorem q_411 : Cond.selects RX3 yX3_isOpen yX3_isOpen ∈ wsT := tw 411 (by decide +kernel) rfl
theorem q_412 : Cond.code yX3_isOpen cX3_isOpen 2 (some .boolean) ∈ wsT := tw 412 (by decide +kernel) rfl
theorem q_413 : Cond.methodLink RL 35 yX3_lay ∈ wsT := tw 413 (by decide +kernel) rfl
theorem q_414 : Cond.instanceMethod yX3_lay ∈ wsT := tw 414 (by decide +kernel) rfl
theorem q_415 : Cond.selects RX3 yX3_lay yX3_lay ∈ wsT := tw 415 (by decide +kernel) rfl
theorem q_416 : Cond.code yX3_lay cX3_lay 5 (some .int) ∈ wsT := tw 416 (by decide +kernel) rfl
theorem q_433 : Cond.methodLink RL 39 yX3_envelope ∈ wsT := tw 433 (by decide +kernel) rfl
theorem q_434 : Cond.instanceMethod yX3_envelope ∈ wsT := tw 434 (by decide +kernel) rfl
theorem q_435 : Cond.selects RX3 yX3_envelope yX3_envelope ∈ wsT := tw 435 (by decide +kernel) rfl
theorem q_436 : Cond.code yX3_envelope cX3_envelope 3 (some .int) ∈ wsT := tw 436 (by decide +kernel) rfl
theorem q_441 : Cond.methodLink RL 42 yX3_takeUp ∈ wsT := tw 441 (by decide +kernel) rfl
theorem q_442 : Cond.instanceMethod yX3_takeUp ∈ wsT := tw 442 (by decide +kernel) rfl
theorem q_443 : Cond.selects RX3 yX3_takeUp yX3_takeUp ∈ wsT := tw 443 (by decide +kernel) rfl
theorem q_444 : Cond.code yX3_takeUp cX3_takeUp 1 (some .int) ∈ wsT := tw 444 (by decide +kernel) rfl
theorem q_454 : Cond.methodLink RL 45 yL_passes ∈ wsT := tw 454 (by decide +kernel) rfl
theorem q_455 : Cond.static yL_passes ∈ wsT := tw 455 (by decide +kernel) rfl
theorem q_456 : Cond.code yL_passes cL_passes 5 (some .int) ∈ wsT := tw 456 (by decide +kernel) rfl
theorem q_457 : Cond.methodLink RL 55 yX3_ticksTo ∈ wsT := tw 457 (by decide +kernel) rfl
theorem q_458 : Cond.instanceMethod yX3_ticksTo ∈ wsT := tw 458 (by decide +kernel) rfl
theorem q_459 : Cond.selects RX3 yX3_ticksTo yX3_ticksTo ∈ wsT := tw 459 (by decide +kernel) rfl
theorem q_460 : Cond.code yX3_ticksTo cX3_ticksTo 2 (some .int) ∈ wsT := tw 460 (by decide +kernel) rfl
theorem q_461 : Cond.methodLink RL 59 yX3_hall ∈ wsT := tw 461 (by decide +kernel) rfl
theorem q_462 : Cond.instanceMethod yX3_hall ∈ wsT := tw 462 (by decide +kernel) rfl
theorem q_463 : Cond.selects RX3 yX3_hall yX3_hall ∈ wsT := tw 463 (by decide +kernel) rfl
theorem q_464 : Cond.code yX3_hall cX3_hall 2 (some .int) ∈ wsT := tw 464 (by decide +kernel) rfl
theorem q_469 : Cond.methodLink RL 62 yX3_pass ∈ wsT := tw 469 (by decide +kernel) rfl
theorem q_470 : Cond.instanceMethod yX3_pass ∈ wsT := tw 470 (by decide +kernel) rfl
theorem q_471 : Cond.selects RX3 yX3_pass yX3_pass ∈ wsT := tw 471 (by decide +kernel) rfl
theorem q_472 : Cond.code yX3_pass cX3_pass 2 (some .int) ∈ wsT := tw 472 (by decide +kernel) rfl
theorem q_519 : Cond.methodLink RL 49 yX3_answer ∈ wsT := tw 519 (by decide +kernel) rfl
theorem q_520 : Cond.instanceMethod yX3_answer ∈ wsT := tw 520 (by decide +kernel) rfl
theorem q_521 : Cond.selects RX3 yX3_answer yX3_answer ∈ wsT := tw 521 (by decide +kernel) rfl
theorem q_522 : Cond.code yX3_answer cX3_answer 3 (some .int) ∈ wsT := tw 522 (by decide +kernel) rfl
theorem q_535 : Cond.methodLink RL 52 yX3_send ∈ wsT := tw 535 (by decide +kernel) rfl
theorem q_536 : Cond.instanceMethod yX3_send ∈ wsT := tw 536 (by decide +kernel) rfl
theorem q_537 : Cond.selects RX3 yX3_send yX3_send ∈ wsT := tw 537 (by decide +kernel) rfl
theorem q_538 : Cond.code yX3_send cX3_send 3 (some .int) ∈ wsT := tw 538 (by decide +kernel) rfl
theorem q_550 : Cond.methodLink RL 65 yX3_count ∈ wsT := tw 550 (by decide +kernel) rfl
theorem q_551 : Cond.instanceMethod yX3_count ∈ wsT := tw 551 (by decide +kernel) rfl
theorem q_552 : Cond.selects RX3 yX3_count yX3_count ∈ wsT := tw 552 (by decide +kernel) rfl
theorem q_553 : Cond.code yX3_count cX3_count 2 (some .int) ∈ wsT := tw 553 (by decide +kernel) rfl
theorem q_554 : Cond.methodLink RL 68 yX3_deliveredShare ∈ wsT := tw 554 (by decide +kernel) rfl
theorem q_555 : Cond.instanceMethod yX3_deliveredShare ∈ wsT := tw 555 (by decide +kernel) rfl
theorem q_556 : Cond.selects RX3 yX3_deliveredShare yX3_deliveredShare ∈ wsT := tw 556 (by decide +kernel) rfl
theorem q_557 : Cond.code yX3_deliveredShare cX3_deliveredShare 2 (some .double) ∈ wsT := tw 557 (by decide +kernel) rfl
theorem q_558 : Cond.methodLink RL 72 yX3_see ∈ wsT := tw 558 (by decide +kernel) rfl
theorem q_559 : Cond.instanceMethod yX3_see ∈ wsT := tw 559 (by decide +kernel) rfl
theorem q_560 : Cond.selects RX3 yX3_see yX3_see ∈ wsT := tw 560 (by decide +kernel) rfl
theorem q_561 : Cond.code yX3_see cX3_see 4 (some .int) ∈ wsT := tw 561 (by decide +kernel) rfl
theorem q_563 : Cond.methodLink RL 76 yX3_inn ∈ wsT := tw 563 (by decide +kernel) rfl
theorem q_564 : Cond.instanceMethod yX3_inn ∈ wsT := tw 564 (by decide +kernel) rfl
theorem q_565 : Cond.selects RX3 yX3_inn yX3_inn ∈ wsT := tw 565 (by decide +kernel) rfl
theorem q_566 : Cond.code yX3_inn cX3_inn 3 (some .int) ∈ wsT := tw 566 (by decide +kernel) rfl
theorem q_567 : Cond.methodLink RL 79 yX3_known ∈ wsT := tw 567 (by decide +kernel) rfl
theorem q_568 : Cond.instanceMethod yX3_known ∈ wsT := tw 568 (by decide +kernel) rfl
theorem q_569 : Cond.selects RX3 yX3_known yX3_known ∈ wsT := tw 569 (by decide +kernel) rfl
theorem q_570 : Cond.code yX3_known cX3_known 2 (some .int) ∈ wsT := tw 570 (by decide +kernel) rfl
theorem q_571 : Cond.methodLink RL 82 yX3_lostIfClosed ∈ wsT := tw 571 (by decide +kernel) rfl
theorem q_572 : Cond.instanceMethod yX3_lostIfClosed ∈ wsT := tw 572 (by decide +kernel) rfl
theorem q_573 : Cond.selects RX3 yX3_lostIfClosed yX3_lostIfClosed ∈ wsT := tw 573 (by decide +kernel) rfl
theorem q_574 : Cond.code yX3_lostIfClosed cX3_lostIfClosed 2 (some .int) ∈ wsT := tw 574 (by decide +kernel) rfl
theorem q_575 : Cond.methodLink RL 85 yX3_stands ∈ wsT := tw 575 (by decide +kernel) rfl
theorem q_576 : Cond.instanceMethod yX3_stands ∈ wsT := tw 576 (by decide +kernel) rfl
theorem q_577 : Cond.selects RX3 yX3_stands yX3_stands ∈ wsT := tw 577 (by decide +kernel) rfl
theorem q_578 : Cond.code yX3_stands cX3_stands 2 (some .boolean) ∈ wsT := tw 578 (by decide +kernel) rfl
theorem q_579 : Cond.methodLink RL 88 yX3_leastWork ∈ wsT := tw 579 (by decide +kernel) rfl
theorem q_580 : Cond.instanceMethod yX3_leastWork ∈ wsT := tw 580 (by decide +kernel) rfl
theorem q_581 : Cond.selects RX3 yX3_leastWork yX3_leastWork ∈ wsT := tw 581 (by decide +kernel) rfl
theorem q_582 : Cond.code yX3_leastWork cX3_leastWork 2 (some .int) ∈ wsT := tw 582 (by decide +kernel) rfl
theorem q_586 : Cond.methodLink RL 95 yX3_letter ∈ wsT := tw 586 (by decide +kernel) rfl
theorem q_587 : Cond.instanceMethod yX3_letter ∈ wsT := tw 587 (by decide +kernel) rfl
theorem q_588 : Cond.selects RX3 yX3_letter yX3_letter ∈ wsT := tw 588 (by decide +kernel) rfl
theorem q_589 : Cond.code yX3_letter cX3_letter 2 (some .int) ∈ wsT := tw 589 (by decide +kernel) rfl
theorem q_590 : Cond.methodLink RL 98 yX3_lastAnswer ∈ wsT := tw 590 (by decide +kernel) rfl
theorem q_591 : Cond.instanceMethod yX3_lastAnswer ∈ wsT := tw 591 (by decide +kernel) rfl
theorem q_592 : Cond.selects RX3 yX3_lastAnswer yX3_lastAnswer ∈ wsT := tw 592 (by decide +kernel) rfl
theorem q_593 : Cond.code yX3_lastAnswer cX3_lastAnswer 1 (some .int) ∈ wsT := tw 593 (by decide +kernel) rfl
theorem q_597 : Cond.methodLink RL 104 yX3_cover ∈ wsT := tw 597 (by decide +kernel) rfl
theorem q_598 : Cond.instanceMethod yX3_cover ∈ wsT := tw 598 (by decide +kernel) rfl
theorem q_599 : Cond.selects RX3 yX3_cover yX3_cover ∈ wsT := tw 599 (by decide +kernel) rfl
theorem q_600 : Cond.code yX3_cover cX3_cover 3 (some .int) ∈ wsT := tw 600 (by decide +kernel) rfl
theorem q_602 : Cond.methodLink RL 107 yX3_uncover ∈ wsT := tw 602 (by decide +kernel) rfl
theorem q_603 : Cond.instanceMethod yX3_uncover ∈ wsT := tw 603 (by decide +kernel) rfl
theorem q_604 : Cond.selects RX3 yX3_uncover yX3_uncover ∈ wsT := tw 604 (by decide +kernel) rfl
theorem q_605 : Cond.code yX3_uncover cX3_uncover 3 (some .int) ∈ wsT := tw 605 (by decide +kernel) rfl
theorem cw_L_21 {R : Room} {s : State} {args : Array Value} (hts : ∀ w ∈ wsT, w.before args s = true) (hf : 0 + 1 ≤ R.frames) (hl : 8 + (1 + 11) + 0 ≤ R.locals) : CallW R s args RL RX3 21 yX3_envelopes cX3_envelopes 1 (some .int) (wsA yX3_envelopes cX3_envelopes 1 (some .int)) rm_X3_envelopes 0 0 0 := cwAV 0 hts q_339 q_340 q_341 q_23 q_342 rfl rfl (by decide +kernel) ⟨hf, hl⟩
theorem cw_L_62 {R : Room} {s : State} {args : Array Value} (hts : ∀ w ∈ wsT, w.before args s = true) (hf : 5 + 1 ≤ R.frames) (hl : 8 + (2 + 11) + 124 ≤ R.locals) : CallW R s args RL RX3 62 yX3_pass cX3_pass 2 (some .int) (wsA yX3_pass cX3_pass 2 (some .int)) rm_X3_pass 0 0 1 := cwAV 1 hts q_469 q_470 q_471 q_23 q_472 rfl rfl (by decide +kernel) ⟨hf, hl⟩
theorem cw_L_39 {R : Room} {s : State} {args : Array Value} (hts : ∀ w ∈ wsT, w.before args s = true) (hf : 2 + 1 ≤ R.frames) (hl : 8 + (3 + 11) + 43 ≤ R.locals) : CallW R s args RL RX3 39 yX3_envelope cX3_envelope 3 (some .int) (wsA yX3_envelope cX3_envelope 3 (some .int)) rm_X3_envelope 0 0 2 := cwAV 2 hts q_433 q_434 q_435 q_23 q_436 rfl rfl (by decide +kernel) ⟨hf, hl⟩
theorem cw_L_55 {R : Room} {s : State} {args : Array Value} (hts : ∀ w ∈ wsT, w.before args s = true) (hf : 3 + 1 ≤ R.frames) (hl : 8 + (2 + 11) + 70 ≤ R.locals) : CallW R s args RL RX3 55 yX3_ticksTo cX3_ticksTo 2 (some .int) (wsA yX3_ticksTo cX3_ticksTo 2 (some .int)) rm_X3_ticksTo 0 0 1 := cwAV 1 hts q_457 q_458 q_459 q_23 q_460 rfl rfl (by decide +kernel) ⟨hf, hl⟩
theorem cw_L_59 {R : Room} {s : State} {args : Array Value} (hts : ∀ w ∈ wsT, w.before args s = true) (hf : 2 + 1 ≤ R.frames) (hl : 8 + (2 + 11) + 43 ≤ R.locals) : CallW R s args RL RX3 59 yX3_hall cX3_hall 2 (some .int) (wsA yX3_hall cX3_hall 2 (some .int)) rm_X3_hall 0 0 1 := cwAV 1 hts q_461 q_462 q_463 q_23 q_464 rfl rfl (by decide +kernel) ⟨hf, hl⟩
theorem cw_L_9 {R : Room} {s : State} {args : Array Value} (hts : ∀ w ∈ wsT, w.before args s = true) (hf : 0 + 1 ≤ R.frames) (hl : 8 + (2 + 11) + 0 ≤ R.locals) : CallB R s args RL 9 yL_up cL_up 2 (some .int) (wsA yL_up cL_up 2 (some .int)) rm_L_up 0 0 2 ∧ (Cond.static yL_up).before args s = true := cwAS 2 hts q_332 q_333 q_22 q_334 rfl rfl (by decide +kernel) ⟨hf, hl⟩
theorem cw_L_15 {R : Room} {s : State} {args : Array Value} (hts : ∀ w ∈ wsT, w.before args s = true) (hf : 0 + 1 ≤ R.frames) (hl : 8 + (1 + 11) + 0 ≤ R.locals) : CallW R s args RL RX3 15 yX3_roads cX3_roads 1 (some .int) (wsA yX3_roads cX3_roads 1 (some .int)) rm_X3_roads 0 0 0 := cwAV 0 hts q_142 q_143 q_144 q_23 q_145 rfl rfl (by decide +kernel) ⟨hf, hl⟩
theorem cw_L_24 {R : Room} {s : State} {args : Array Value} (hts : ∀ w ∈ wsT, w.before args s = true) (hf : 4 + 1 ≤ R.frames) (hl : 8 + (4 + 11) + 124 ≤ R.locals) : CallW R s args RL RX3 24 yX3_setOpen cX3_setOpen 4 (some .boolean) (wsA yX3_setOpen cX3_setOpen 4 (some .boolean)) rm_X3_setOpen 0 0 2 := cwAV 2 hts q_343 q_344 q_345 q_23 q_346 rfl rfl (by decide +kernel) ⟨hf, hl⟩
theorem cw_L_28 {R : Room} {s : State} {args : Array Value} (hts : ∀ w ∈ wsT, w.before args s = true) (hf : 4 + 1 ≤ R.frames) (hl : 8 + (4 + 11) + 124 ≤ R.locals) : CallW R s args RL RX3 28 yX3_setKey cX3_setKey 4 (some .int) (wsA yX3_setKey cX3_setKey 4 (some .int)) rm_X3_setKey 0 0 2 := cwAV 2 hts q_396 q_397 q_398 q_23 q_399 rfl rfl (by decide +kernel) ⟨hf, hl⟩
theorem cw_L_31 {R : Room} {s : State} {args : Array Value} (hts : ∀ w ∈ wsT, w.before args s = true) (hf : 2 + 1 ≤ R.frames) (hl : 8 + (2 + 11) + 42 ≤ R.locals) : CallW R s args RL RX3 31 yX3_isOpen cX3_isOpen 2 (some .boolean) (wsA yX3_isOpen cX3_isOpen 2 (some .boolean)) rm_X3_isOpen 0 0 1 := cwAV 1 hts q_409 q_410 q_411 q_23 q_412 rfl rfl (by decide +kernel) ⟨hf, hl⟩
theorem cw_L_35 {R : Room} {s : State} {args : Array Value} (hts : ∀ w ∈ wsT, w.before args s = true) (hf : 4 + 1 ≤ R.frames) (hl : 8 + (5 + 11) + 124 ≤ R.locals) : CallW R s args RL RX3 35 yX3_lay cX3_lay 5 (some .int) (wsA yX3_lay cX3_lay 5 (some .int)) rm_X3_lay 0 0 4 := cwAV 4 hts q_413 q_414 q_415 q_23 q_416 rfl rfl (by decide +kernel) ⟨hf, hl⟩
theorem cw_L_42 {R : Room} {s : State} {args : Array Value} (hts : ∀ w ∈ wsT, w.before args s = true) (hf : 4 + 1 ≤ R.frames) (hl : 8 + (1 + 11) + 124 ≤ R.locals) : CallW R s args RL RX3 42 yX3_takeUp cX3_takeUp 1 (some .int) (wsA yX3_takeUp cX3_takeUp 1 (some .int)) rm_X3_takeUp 0 0 0 := cwAV 0 hts q_441 q_442 q_443 q_23 q_444 rfl rfl (by decide +kernel) ⟨hf, hl⟩
theorem cw_L_45 {R : Room} {s : State} {args : Array Value} (hts : ∀ w ∈ wsT, w.before args s = true) (hf : 6 + 1 ≤ R.frames) (hl : 8 + (5 + 11) + 145 ≤ R.locals) : CallB R s args RL 45 yL_passes cL_passes 5 (some .int) (wsA yL_passes cL_passes 5 (some .int)) rm_L_passes 0 0 2 ∧ (Cond.static yL_passes).before args s = true := cwAS 2 hts q_454 q_455 q_22 q_456 rfl rfl (by decide +kernel) ⟨hf, hl⟩
theorem cw_L_49 {R : Room} {s : State} {args : Array Value} (hts : ∀ w ∈ wsT, w.before args s = true) (hf : 4 + 1 ≤ R.frames) (hl : 8 + (3 + 11) + 124 ≤ R.locals) : CallW R s args RL RX3 49 yX3_answer cX3_answer 3 (some .int) (wsA yX3_answer cX3_answer 3 (some .int)) rm_X3_answer 0 0 2 := cwAV 2 hts q_519 q_520 q_521 q_23 q_522 rfl rfl (by decide +kernel) ⟨hf, hl⟩
theorem cw_L_52 {R : Room} {s : State} {args : Array Value} (hts : ∀ w ∈ wsT, w.before args s = true) (hf : 4 + 1 ≤ R.frames) (hl : 8 + (3 + 11) + 124 ≤ R.locals) : CallW R s args RL RX3 52 yX3_send cX3_send 3 (some .int) (wsA yX3_send cX3_send 3 (some .int)) rm_X3_send 0 0 2 := cwAV 2 hts q_535 q_536 q_537 q_23 q_538 rfl rfl (by decide +kernel) ⟨hf, hl⟩
theorem cw_L_104 {R : Room} {s : State} {args : Array Value} (hts : ∀ w ∈ wsT, w.before args s = true) (hf : 3 + 1 ≤ R.frames) (hl : 8 + (3 + 11) + 63 ≤ R.locals) : CallW R s args RL RX3 104 yX3_cover cX3_cover 3 (some .int) (wsA yX3_cover cX3_cover 3 (some .int)) rm_X3_cover 0 0 2 := cwAV 2 hts q_597 q_598 q_599 q_23 q_600 rfl rfl (by decide +kernel) ⟨hf, hl⟩
theorem cw_L_107 {R : Room} {s : State} {args : Array Value} (hts : ∀ w ∈ wsT, w.before args s = true) (hf : 3 + 1 ≤ R.frames) (hl : 8 + (3 + 11) + 63 ≤ R.locals) : CallW R s args RL RX3 107 yX3_uncover cX3_uncover 3 (some .int) (wsA yX3_uncover cX3_uncover 3 (some .int)) rm_X3_uncover 0 0 2 := cwAV 2 hts q_602 q_603 q_604 q_23 q_605 rfl rfl (by decide +kernel) ⟨hf, hl⟩
theorem cw_L_85 {R : Room} {s : State} {args : Array Value} (hts : ∀ w ∈ wsT, w.before args s = true) (hf : 3 + 1 ≤ R.frames) (hl : 8 + (2 + 11) + 65 ≤ R.locals) : CallW R s args RL RX3 85 yX3_stands cX3_stands 2 (some .boolean) (wsA yX3_stands cX3_stands 2 (some .boolean)) rm_X3_stands 0 0 1 := cwAV 1 hts q_575 q_576 q_577 q_23 q_578 rfl rfl (by decide +kernel) ⟨hf, hl⟩
theorem cw_L_91 {R : Room} {s : State} {args : Array Value} (hts : ∀ w ∈ wsT, w.before args s = true) (hf : 6 + 1 ≤ R.frames) (hl : 8 + (4 + 11) + 139 ≤ R.locals) : CallW R s args RL RX3 91 yX3_digest cX3_digest 4 (some .long) (wsA yX3_digest cX3_digest 4 (some .long)) rm_X3_digest 0 0 0 := cwAV 0 hts q_243 q_244 q_245 q_23 q_246 rfl rfl (by decide +kernel) ⟨hf, hl⟩
theorem cw_L_76 {R : Room} {s : State} {args : Array Value} (hts : ∀ w ∈ wsT, w.before args s = true) (hf : 2 + 1 ≤ R.frames) (hl : 8 + (3 + 11) + 43 ≤ R.locals) : CallW R s args RL RX3 76 yX3_inn cX3_inn 3 (some .int) (wsA yX3_inn cX3_inn 3 (some .int)) rm_X3_inn 0 0 2 := cwAV 2 hts q_563 q_564 q_565 q_23 q_566 rfl rfl (by decide +kernel) ⟨hf, hl⟩
theorem cw_L_101 {R : Room} {s : State} {args : Array Value} (hts : ∀ w ∈ wsT, w.before args s = true) (hf : 4 + 1 ≤ R.frames) (hl : 8 + (1 + 11) + 124 ≤ R.locals) : CallW R s args RL RX3 101 yX3_undo cX3_undo 1 (some .int) (wsA yX3_undo cX3_undo 1 (some .int)) rm_X3_undo 0 0 0 := cwAV 0 hts q_146 q_147 q_148 q_23 q_149 rfl rfl (by decide +kernel) ⟨hf, hl⟩
theorem cw_L_95 {R : Room} {s : State} {args : Array Value} (hts : ∀ w ∈ wsT, w.before args s = true) (hf : 2 + 1 ≤ R.frames) (hl : 8 + (2 + 11) + 42 ≤ R.locals) : CallW R s args RL RX3 95 yX3_letter cX3_letter 2 (some .int) (wsA yX3_letter cX3_letter 2 (some .int)) rm_X3_letter 0 0 1 := cwAV 1 hts q_586 q_587 q_588 q_23 q_589 rfl rfl (by decide +kernel) ⟨hf, hl⟩
theorem cw_L_98 {R : Room} {s : State} {args : Array Value} (hts : ∀ w ∈ wsT, w.before args s = true) (hf : 0 + 1 ≤ R.frames) (hl : 8 + (1 + 11) + 0 ≤ R.locals) : CallW R s args RL RX3 98 yX3_lastAnswer cX3_lastAnswer 1 (some .int) (wsA yX3_lastAnswer cX3_lastAnswer 1 (some .int)) rm_X3_lastAnswer 0 0 0 := cwAV 0 hts q_590 q_591 q_592 q_23 q_593 rfl rfl (by decide +kernel) ⟨hf, hl⟩
theorem cw_L_65 {R : Room} {s : State} {args : Array Value} (hts : ∀ w ∈ wsT, w.before args s = true) (hf : 2 + 1 ≤ R.frames) (hl : 8 + (2 + 11) + 40 ≤ R.locals) : CallW R s args RL RX3 65 yX3_count cX3_count 2 (some .int) (wsA yX3_count cX3_count 2 (some .int)) rm_X3_count 0 0 1 := cwAV 1 hts q_550 q_551 q_552 q_23 q_553 rfl rfl (by decide +kernel) ⟨hf, hl⟩
theorem cw_L_88 {R : Room} {s : State} {args : Array Value} (hts : ∀ w ∈ wsT, w.before args s = true) (hf : 5 + 1 ≤ R.frames) (hl : 8 + (2 + 11) + 113 ≤ R.locals) : CallW R s args RL RX3 88 yX3_leastWork cX3_leastWork 2 (some .int) (wsA yX3_leastWork cX3_leastWork 2 (some .int)) rm_X3_leastWork 0 0 1 := cwAV 1 hts q_579 q_580 q_581 q_23 q_582 rfl rfl (by decide +kernel) ⟨hf, hl⟩
theorem cw_L_79 {R : Room} {s : State} {args : Array Value} (hts : ∀ w ∈ wsT, w.before args s = true) (hf : 5 + 1 ≤ R.frames) (hl : 8 + (2 + 11) + 114 ≤ R.locals) : CallW R s args RL RX3 79 yX3_known cX3_known 2 (some .int) (wsA yX3_known cX3_known 2 (some .int)) rm_X3_known 0 0 1 := cwAV 1 hts q_567 q_568 q_569 q_23 q_570 rfl rfl (by decide +kernel) ⟨hf, hl⟩
theorem cw_L_82 {R : Room} {s : State} {args : Array Value} (hts : ∀ w ∈ wsT, w.before args s = true) (hf : 4 + 1 ≤ R.frames) (hl : 8 + (2 + 11) + 93 ≤ R.locals) : CallW R s args RL RX3 82 yX3_lostIfClosed cX3_lostIfClosed 2 (some .int) (wsA yX3_lostIfClosed cX3_lostIfClosed 2 (some .int)) rm_X3_lostIfClosed 0 0 1 := cwAV 1 hts q_571 q_572 q_573 q_23 q_574 rfl rfl (by decide +kernel) ⟨hf, hl⟩
theorem cw_L_72 {R : Room} {s : State} {args : Array Value} (hts : ∀ w ∈ wsT, w.before args s = true) (hf : 4 + 1 ≤ R.frames) (hl : 8 + (4 + 11) + 91 ≤ R.locals) : CallW R s args RL RX3 72 yX3_see cX3_see 4 (some .int) (wsA yX3_see cX3_see 4 (some .int)) rm_X3_see 0 0 3 := cwAV 3 hts q_558 q_559 q_560 q_23 q_561 rfl rfl (by decide +kernel) ⟨hf, hl⟩
theorem cw_L_68 {R : Room} {s : State} {args : Array Value} (hts : ∀ w ∈ wsT, w.before args s = true) (hf : 1 + 1 ≤ R.frames) (hl : 8 + (2 + 11) + 21 ≤ R.locals) : CallW R s args RL RX3 68 yX3_deliveredShare cX3_deliveredShare 2 (some .double) (wsA yX3_deliveredShare cX3_deliveredShare 2 (some .double)) rm_X3_deliveredShare 0 0 0 := cwAV 0 hts q_554 q_555 q_556 q_23 q_557 rfl rfl (by decide +kernel) ⟨hf, hl⟩
def wp_L_up  (p0 : Int32) (p1 : Int32) (post : Int32 → Prop) : Prop :=
  (¬ p1 = 0) ∧ (post ((p0 &&& (2147483647 : Int32)) - (p0 &&& (2147483647 : Int32)) / p1 * p1))
set_option maxHeartbeats 4000000 in
set_option maxRecDepth 100000 in
theorem c_L_up (l : Launch) (D : va_G) (cI cS cJ : ClassId)  (H0 : Heap) (p0 : Int32) (p1 : Int32) {post : Int32 → Prop} (h : wp_L_up p0 p1 post) : Met l yL_up (wsA yL_up cL_up 2 (some .int)) rm_L_up (va_Pc [.int p0, .int p1] (roP D (tysA cI cS cJ) ([]) H0)) (va_Qi (fun r (_ : Unit) => post r) (fun _ t => t.heap = H0) nF) 0 0 nF := by
  refine mkROi (by decide +kernel) (Nat.le_of_ble_eq_true rfl) (fun {p e s m args below meth c Q ls} hx hb F hts hown hK hP hl hQ => ?_)
  have hown : s.vm.findClass RL = some m.cls := hown
  have F : CallFix p m c cL_up 2 s args wsT RL := F
  have hl : lv_has ls 2 [(0, .int p0), (1, .int p1)] := hl
  unfold wp_L_up at h
  refine lv_iload_n hx hb dL_up_0 rfl (lv_at hl 0 rfl) ?_
  refine lv_ldc (v := (2147483647 : Int32)) hx hb hown (hts _ q_335) dL_up_1 ?_
  refine lv_iand hx hb dL_up_3 ?_
  refine lv_iload_n hx hb dL_up_4 rfl (lv_at hl 1 rfl) ?_
  refine lv_irem hx hb dL_up_5 h.1 ?_
  replace h := h.2
  exact hQ h dL_up_6

def wp_L_passes (q : (Ne × (Nat → Int32)))  (post : Int32 → (Ne × (Nat → Int32)) → Prop) : Prop :=
  LP2 (fun (K3 : Int32 → (Ne × (Nat → Int32)) → Prop) (x1 : Int32) (u2 : (Ne × (Nat → Int32))) => wp_X3_envelopes u2.1 (fun r5 => (r5 ≤ x1 → wp_X3_pass u2.1 (1 : Int32) (fun r7 u8 => post r7 (u8, u2.2))) ∧ (¬ r5 ≤ x1 → wp_X3_envelope u2.1 x1 (0 : Int32) (fun r9 => wp_X3_ticksTo u2.1 x1 (fun r10 => jn (fun (x11 : Int32) => wp_X3_hall u2.1 r9 (fun r16 => jn (fun (x17 : Int32) => (vp_in r16 4) ∧ (K3 (x1 + 1) (u2.1, (upd u2.2 (Int32.toNatClampNeg r16) x17)))) (fun (J18 : Int32 → Prop) => (x11 = 0 → wp_X3_hall u2.1 r9 (fun r22 => (vp_in r22 4) ∧ (J18 (u2.2 (Int32.toNatClampNeg r22))))) ∧ (¬ x11 = 0 → J18 r9)))) (fun (J13 : Int32 → Prop) => jn (J13 (0 : Int32)) (fun (J23 : Prop) => (¬ r10 = (1 : Int32) → J23) ∧ (r10 = (1 : Int32) → wp_X3_envelope u2.1 x1 (3 : Int32) (fun r27 => (¬ r27 = 0 → J23) ∧ (r27 = 0 → J13 (1 : Int32))))))))))) (0 : Int32) (q.1, q.2)
set_option maxHeartbeats 4000000 in
set_option maxRecDepth 100000 in
theorem c_L_passes (l : Launch) (D : va_G) (cI cS cJ : ClassId) (G : Nat → Nat → Nat) (o : Nat) (q : (Ne × (Nat → Int32))) (sz : Nat)  {post : Int32 → (Ne × (Nat → Int32)) → Prop} (h : wp_L_passes q  post) : Met l yL_passes (wsA yL_passes cL_passes 5 (some .int)) rm_L_passes (va_Pc [.ref (G 2 0), .ref o] (rwP D (tysA cI cS cJ) (hW cI cS G o q) sz)) (va_Qi post (fun u9 t => va_P D vwCl (hW cI cS G o u9) t.heap ∧ va_D (va_A (hW cI cS G o q) sz) (hW cI cS G o u9)) (va_A (hW cI cS G o q) sz)) 0 0 (va_A (hW cI cS G o q) sz) := by
  refine mkRWi (wf := hW cI cS G o) (by decide +kernel) (Nat.le_of_ble_eq_true rfl) (fun {p e s m args below meth c Q ls A H0 H locs} hx hb F hts hown hK hP hD hS hA hl hQ => ?_)
  have hown : s.vm.findClass RL = some m.cls := hown
  have F : CallFix p m c cL_passes 5 s args wsT RL := F
  have hl : lv_has ls 5 [(0, .ref (G 2 0)), (1, .ref o)] := hl
  unfold wp_L_passes at h
  refine lv_iconst (v := (0 : Int32)) hx hb dL_passes_0 (by decide) ?_
  refine lv_istore_n (lv' := [(2, .int (0 : Int32)), (0, .ref (G 2 0)), (1, .ref o)]) hx hb dL_passes_1 rfl hl (by decide) rfl (fun ls hl => ?_)
  refine lpu2 h (fun K3 : Int32 → (Ne × (Nat → Int32)) → Prop => ∀ (x1 : Int32) (u2 : (Ne × (Nat → Int32))) (ls : Array Slot) (H : Heap) (locs : List Loc), lv_has ls 5 [(0, .ref (G 2 0)), (1, .ref o), (2, .int x1)] → va_P D vwCl (hW cI cS G o (u2.1, u2.2)) H → va_D A (hW cI cS G o (u2.1, u2.2)) → va_S A H0 H locs → K3 x1 u2 → W p l e rm_L_passes s m args below meth c H locs 0 0 Q (F0 m 2 ls [])) ?_ ?_ ?_
  · intro x1 u2 ls H locs hl hP hD hS h
    exact h.elim
  · intro K3
    intro w4 x1 u2 ls H locs hl hP hD hS h
    refine lv_iload_n hx hb dL_passes_2 rfl (lv_at hl 2 rfl) ?_
    refine lv_aload_n hx hb dL_passes_3 rfl (lv_at hl 0 rfl) ?_
    refine roVi (As := []) (rest := [.int x1]) F (c_X3_envelopes l D cI cS cJ G u2.1 H  h) (cw_L_21 hts (Nat.le_of_ble_eq_true rfl) (Nat.le_of_ble_eq_true rfl)) hK (vP_R hP) (recv (ci := 3) (k0 := 1) hK hP rfl rfl) rfl hl.1 rfl (Nat.le_of_ble_eq_true rfl) dL_passes_4 ⟨(Nat.le_of_ble_eq_true rfl), (Nat.le_of_ble_eq_true rfl)⟩ (fun r5 h => ?_)
    refine lv_icmp_ge (tgt := 71) hx hb dL_passes_7 (by decide) (fun c6 => ?_) (fun c6 => ?_)
    · replace h := h.1 c6
      refine lv_aload_n hx hb dL_passes_71 rfl (lv_at hl 0 rfl) ?_
      refine lv_iconst (v := (1 : Int32)) hx hb dL_passes_72 (by decide) ?_
      refine rwVi (wr := [(o, .inl (cI, 4, .inl u2.2))]) (As := [.int (1 : Int32)]) (rest := []) List.perm_append_comm F (c_X3_pass l D cI cS cJ G u2.1 H.size (1 : Int32) h) (cw_L_62 hts (Nat.le_of_ble_eq_true rfl) (Nat.le_of_ble_eq_true rfl)) hK hP hD hS hA (recv (ci := 3) (k0 := 1) hK hP rfl rfl) rfl hl.1 rfl (Nat.le_of_ble_eq_true rfl) dL_passes_73 ⟨(Nat.le_of_ble_eq_true rfl), (Nat.le_of_ble_eq_true rfl)⟩ (fun r7 u8 H locs h hP hD hS => ?_)
      have hP : va_P D vwCl (hW cI cS G o (u8, u2.2)) H := vP_perm List.perm_append_comm hP
      have hD : va_D A (hW cI cS G o (u8, u2.2)) := vD_perm List.perm_append_comm hD
      exact hQ h hP hD hS dL_passes_76
    · replace h := h.2 c6
      refine lv_aload_n hx hb dL_passes_10 rfl (lv_at hl 0 rfl) ?_
      refine lv_iload_n hx hb dL_passes_11 rfl (lv_at hl 2 rfl) ?_
      refine lv_iconst (v := (0 : Int32)) hx hb dL_passes_12 (by decide) ?_
      refine roVi (As := [.int x1, .int (0 : Int32)]) (rest := []) F (c_X3_envelope l D cI cS cJ G u2.1 H x1 (0 : Int32) h) (cw_L_39 hts (Nat.le_of_ble_eq_true rfl) (Nat.le_of_ble_eq_true rfl)) hK (vP_R hP) (recv (ci := 3) (k0 := 1) hK hP rfl rfl) rfl hl.1 rfl (Nat.le_of_ble_eq_true rfl) dL_passes_13 ⟨(Nat.le_of_ble_eq_true rfl), (Nat.le_of_ble_eq_true rfl)⟩ (fun r9 h => ?_)
      refine lv_istore_n (lv' := [(3, .int r9), (0, .ref (G 2 0)), (1, .ref o), (2, .int x1)]) hx hb dL_passes_16 rfl hl (by decide) rfl (fun ls hl => ?_)
      refine lv_aload_n hx hb dL_passes_17 rfl (lv_at hl 1 rfl) ?_
      refine lv_iload_n hx hb dL_passes_18 rfl (lv_at hl 3 rfl) ?_
      refine roVi (As := [.int x1]) (rest := []) F (c_X3_ticksTo l D cI cS cJ G u2.1 H x1 h) (cw_L_55 hts (Nat.le_of_ble_eq_true rfl) (Nat.le_of_ble_eq_true rfl)) hK (vP_R hP) (recv (ci := 3) (k0 := 1) hK hP rfl rfl) rfl hl.1 rfl (Nat.le_of_ble_eq_true rfl) dL_passes_19 ⟨(Nat.le_of_ble_eq_true rfl), (Nat.le_of_ble_eq_true rfl)⟩ (fun r10 h => ?_)
      refine lv_iconst (v := (1 : Int32)) hx hb dL_passes_22 (by decide) ?_
      refine jn_e h (fun J13 e15 h => ?_)
      have w14 : ∀ (x11 : Int32) (ls : Array Slot) (H : Heap) (locs : List Loc), bz x11 → lv_has ls 5 [(0, .ref (G 2 0)), (1, .ref o), (2, .int x1), (3, .int r9)] → va_P D vwCl (hW cI cS G o (u2.1, u2.2)) H → va_D A (hW cI cS G o (u2.1, u2.2)) → va_S A H0 H locs → J13 x11 → W p l e rm_L_passes s m args below meth c H locs 0 0 Q (F0 m 40 ls [.int x11]) := by
        intro x11 ls H locs b12 hl hP hD hS h
        subst e15
        refine lv_istore (lv' := [(4, .int x11), (0, .ref (G 2 0)), (1, .ref o), (2, .int x1), (3, .int r9)]) hx hb dL_passes_40 hl (by decide) rfl (fun ls hl => ?_)
        refine lv_aload_n hx hb dL_passes_42 rfl (lv_at hl 2 rfl) ?_
        refine lv_aload_n hx hb dL_passes_43 rfl (lv_at hl 1 rfl) ?_
        refine lv_iload_n hx hb dL_passes_44 rfl (lv_at hl 4 rfl) ?_
        refine roVi (As := [.int r9]) (rest := [.ref o]) F (c_X3_hall l D cI cS cJ G u2.1 H r9 h) (cw_L_59 hts (Nat.le_of_ble_eq_true rfl) (Nat.le_of_ble_eq_true rfl)) hK (vP_R hP) (recv (ci := 3) (k0 := 1) hK hP rfl rfl) rfl hl.1 rfl (Nat.le_of_ble_eq_true rfl) dL_passes_45 ⟨(Nat.le_of_ble_eq_true rfl), (Nat.le_of_ble_eq_true rfl)⟩ (fun r16 h => ?_)
        refine lv_iload hx hb dL_passes_48 (lv_at hl 0 rfl) ?_
        refine jn_e h (fun J18 e20 h => ?_)
        have w19 : ∀ (x17 : Int32) (ls : Array Slot) (H : Heap) (locs : List Loc), lv_has ls 5 [(0, .ref (G 2 0)), (1, .ref o), (2, .int x1)] → va_P D vwCl (hW cI cS G o (u2.1, u2.2)) H → va_D A (hW cI cS G o (u2.1, u2.2)) → va_S A H0 H locs → J18 x17 → W p l e rm_L_passes s m args below meth c H locs 0 0 Q (F0 m 64 ls [.int x17, .int r16, .ref o]) := by
          intro x17 ls H locs hl hP hD hS h
          subst e20
          refine va_iast hx hb hK.k hP hD hS 0 0 rfl rfl h.1 dL_passes_64 (fun H locs hP hD hS => ?_)
          replace h := h.2
          have hP : va_P D vwCl (hW cI cS G o (u2.1, (upd u2.2 (Int32.toNatClampNeg r16) x17))) H := hP
          have hD : va_D A (hW cI cS G o (u2.1, (upd u2.2 (Int32.toNatClampNeg r16) x17))) := hD
          refine lv_iinc (v := (x1 + 1)) (lv' := [(2, .int (x1 + 1)), (0, .ref (G 2 0)), (1, .ref o)]) hx hb dL_passes_65 hl (k := 2) rfl rfl (by decide) rfl (fun ls hl => ?_)
          refine lv_goto (tgt := 2) hx hb dL_passes_68 (by decide) ?_
          exact w4 (x1 + 1) (u2.1, (upd u2.2 (Int32.toNatClampNeg r16) x17)) _ _ _ (lv_sub hl [1, 2, 0] rfl) hP hD hS h
        clear e20
        refine lv_if_eq (tgt := 57) hx hb dL_passes_50 (by decide) (fun c21 => ?_) (fun c21 => ?_)
        · replace h := h.1 c21
          refine lv_aload_n hx hb dL_passes_57 rfl (lv_at hl 2 rfl) ?_
          refine lv_aload_n hx hb dL_passes_58 rfl (lv_at hl 1 rfl) ?_
          refine lv_iload_n hx hb dL_passes_59 rfl (lv_at hl 4 rfl) ?_
          refine roVi (As := [.int r9]) (rest := [.ref o, .int r16, .ref o]) F (c_X3_hall l D cI cS cJ G u2.1 H r9 h) (cw_L_59 hts (Nat.le_of_ble_eq_true rfl) (Nat.le_of_ble_eq_true rfl)) hK (vP_R hP) (recv (ci := 3) (k0 := 1) hK hP rfl rfl) rfl hl.1 rfl (Nat.le_of_ble_eq_true rfl) dL_passes_60 ⟨(Nat.le_of_ble_eq_true rfl), (Nat.le_of_ble_eq_true rfl)⟩ (fun r22 h => ?_)
          refine va_iald hx hb hK.k hP 0 0 rfl rfl h.1 dL_passes_63 ?_
          replace h := h.2
          exact w19 (u2.2 (Int32.toNatClampNeg r22)) _ _ _ (lv_sub hl [1, 2, 3] rfl) hP hD hS h
        · replace h := h.2 c21
          refine lv_iload_n hx hb dL_passes_53 rfl (lv_at hl 4 rfl) ?_
          refine lv_goto (tgt := 64) hx hb dL_passes_54 (by decide) ?_
          exact w19 r9 _ _ _ (lv_sub hl [1, 2, 3] rfl) hP hD hS h
      clear e15
      refine jn_e h (fun J23 e25 h => ?_)
      have w24 : ∀  (ls : Array Slot) (H : Heap) (locs : List Loc), lv_has ls 5 [(0, .ref (G 2 0)), (1, .ref o), (2, .int x1), (3, .int r9)] → va_P D vwCl (hW cI cS G o (u2.1, u2.2)) H → va_D A (hW cI cS G o (u2.1, u2.2)) → va_S A H0 H locs → J23 → W p l e rm_L_passes s m args below meth c H locs 0 0 Q (F0 m 39 ls []) := by
        intro ls H locs hl hP hD hS h
        subst e25
        refine lv_iconst (v := (0 : Int32)) hx hb dL_passes_39 (by decide) ?_
        exact w14 (0 : Int32) _ _ _ bz0 hl hP hD hS h
      clear e25
      refine lv_icmp_ne (tgt := 39) hx hb dL_passes_23 (by decide) (fun c26 => ?_) (fun c26 => ?_)
      · replace h := h.1 c26
        exact w24 _ _ _ (lv_sub hl [1, 2, 3, 0] rfl) hP hD hS h
      · replace h := h.2 c26
        refine lv_aload_n hx hb dL_passes_26 rfl (lv_at hl 1 rfl) ?_
        refine lv_iload_n hx hb dL_passes_27 rfl (lv_at hl 3 rfl) ?_
        refine lv_iconst (v := (3 : Int32)) hx hb dL_passes_28 (by decide) ?_
        refine roVi (As := [.int x1, .int (3 : Int32)]) (rest := []) F (c_X3_envelope l D cI cS cJ G u2.1 H x1 (3 : Int32) h) (cw_L_39 hts (Nat.le_of_ble_eq_true rfl) (Nat.le_of_ble_eq_true rfl)) hK (vP_R hP) (recv (ci := 3) (k0 := 1) hK hP rfl rfl) rfl hl.1 rfl (Nat.le_of_ble_eq_true rfl) dL_passes_29 ⟨(Nat.le_of_ble_eq_true rfl), (Nat.le_of_ble_eq_true rfl)⟩ (fun r27 h => ?_)
        refine lv_if_ne (tgt := 39) hx hb dL_passes_32 (by decide) (fun c28 => ?_) (fun c28 => ?_)
        · replace h := h.1 c28
          exact w24 _ _ _ (lv_sub hl [1, 2, 3, 0] rfl) hP hD hS h
        · replace h := h.2 c28
          refine lv_iconst (v := (1 : Int32)) hx hb dL_passes_35 (by decide) ?_
          refine lv_goto (tgt := 40) hx hb dL_passes_36 (by decide) ?_
          exact w14 (1 : Int32) _ _ _ bz1 (lv_sub hl [1, 2, 3, 0] rfl) hP hD hS h
  · intro K3 w4 h
    exact w4 (0 : Int32) (q.1, q.2) _ _ _ (lv_sub hl [1, 2, 0] rfl) hP hD hS h

def wp_L_act (q : (Ne × (Nat → Int32))) (p2 : Int32) (p3 : Int32) (post : Int32 → (Ne × (Nat → Int32)) → Prop) : Prop :=
  wp_L_up p3 (8 : Int32) (fun r1 => wp_L_up (p3 >>> ((3 : Int32) &&& 31)) (7 : Int32) (fun r2 => wp_L_up (p3 >>> ((6 : Int32) &&& 31)) (7 : Int32) (fun r3 => wp_L_up (p3 >>> ((9 : Int32) &&& 31)) (4 : Int32) (fun r4 => wp_L_up (p3 >>> ((11 : Int32) &&& 31)) (10000 : Int32) (fun r5 => wp_X3_roads q.1 (fun r6 => wp_X3_envelopes q.1 (fun r7 => wp_L_up p2 (16 : Int32) (fun r8 => (r8 = 0 → jn (fun (x10 : Int32) => wp_X3_setOpen q.1 r1 x10 (fun r15 u17 => (r15 = 0 → post (0 : Int32) (u17, q.2)) ∧ (¬ r15 = 0 → post (1 : Int32) (u17, q.2)))) (fun (J12 : Int32 → Prop) => (((p3 >>> ((4 : Int32) &&& 31)) &&& (3 : Int32)) ≤ 0 → J12 (0 : Int32)) ∧ (¬ ((p3 >>> ((4 : Int32) &&& 31)) &&& (3 : Int32)) ≤ 0 → J12 (1 : Int32)))) ∧ (¬ r8 = 0 → (r8 = 1 → jn (fun (x21 : Int32) => wp_X3_setOpen q.1 r1 x21 (fun r26 u28 => (r26 = 0 → post (0 : Int32) (u28, q.2)) ∧ (¬ r26 = 0 → post (1 : Int32) (u28, q.2)))) (fun (J23 : Int32 → Prop) => (((p3 >>> ((4 : Int32) &&& 31)) &&& (3 : Int32)) ≤ 0 → J23 (0 : Int32)) ∧ (¬ ((p3 >>> ((4 : Int32) &&& 31)) &&& (3 : Int32)) ≤ 0 → J23 (1 : Int32)))) ∧ (¬ r8 = 1 → (r8 = 2 → wp_X3_setKey q.1 r1 r5 (fun r32 u33 => post r32 (u33, q.2))) ∧ (¬ r8 = 2 → (r8 = 3 → jn (wp_X3_setKey q.1 r1 r5 (fun r38 u39 => post r38 (u39, q.2))) (fun (J35 : Prop) => (r1 = ((((((r1 + (1 : Int32)) + r2) - ((r1 + (1 : Int32)) + r2) / (8 : Int32) * (8 : Int32)) + (1 : Int32)) + r3) - (((((r1 + (1 : Int32)) + r2) - ((r1 + (1 : Int32)) + r2) / (8 : Int32) * (8 : Int32)) + (1 : Int32)) + r3) / (8 : Int32) * (8 : Int32)) → J35) ∧ (¬ r1 = ((((((r1 + (1 : Int32)) + r2) - ((r1 + (1 : Int32)) + r2) / (8 : Int32) * (8 : Int32)) + (1 : Int32)) + r3) - (((((r1 + (1 : Int32)) + r2) - ((r1 + (1 : Int32)) + r2) / (8 : Int32) * (8 : Int32)) + (1 : Int32)) + r3) / (8 : Int32) * (8 : Int32)) → ((6 : Int32) ≤ r6 → J35) ∧ (¬ (6 : Int32) ≤ r6 → wp_X3_isOpen q.1 r1 (fun r42 => (r42 = 0 → J35) ∧ (¬ r42 = 0 → wp_X3_isOpen q.1 (((r1 + (1 : Int32)) + r2) - ((r1 + (1 : Int32)) + r2) / (8 : Int32) * (8 : Int32)) (fun r45 => (r45 = 0 → J35) ∧ (¬ r45 = 0 → wp_X3_isOpen q.1 ((((((r1 + (1 : Int32)) + r2) - ((r1 + (1 : Int32)) + r2) / (8 : Int32) * (8 : Int32)) + (1 : Int32)) + r3) - (((((r1 + (1 : Int32)) + r2) - ((r1 + (1 : Int32)) + r2) / (8 : Int32) * (8 : Int32)) + (1 : Int32)) + r3) / (8 : Int32) * (8 : Int32)) (fun r48 => (r48 = 0 → J35) ∧ (¬ r48 = 0 → wp_X3_lay q.1 r1 (((r1 + (1 : Int32)) + r2) - ((r1 + (1 : Int32)) + r2) / (8 : Int32) * (8 : Int32)) ((((((r1 + (1 : Int32)) + r2) - ((r1 + (1 : Int32)) + r2) / (8 : Int32) * (8 : Int32)) + (1 : Int32)) + r3) - (((((r1 + (1 : Int32)) + r2) - ((r1 + (1 : Int32)) + r2) / (8 : Int32) * (8 : Int32)) + (1 : Int32)) + r3) / (8 : Int32) * (8 : Int32)) r4 (fun r51 u52 => post r51 (u52, q.2)))))))))))) ∧ (¬ r8 = 3 → (r8 = 4 → jn (wp_X3_setKey q.1 r1 r5 (fun r57 u58 => post r57 (u58, q.2))) (fun (J54 : Prop) => (r1 = ((((((r1 + (1 : Int32)) + r2) - ((r1 + (1 : Int32)) + r2) / (8 : Int32) * (8 : Int32)) + (1 : Int32)) + r3) - (((((r1 + (1 : Int32)) + r2) - ((r1 + (1 : Int32)) + r2) / (8 : Int32) * (8 : Int32)) + (1 : Int32)) + r3) / (8 : Int32) * (8 : Int32)) → J54) ∧ (¬ r1 = ((((((r1 + (1 : Int32)) + r2) - ((r1 + (1 : Int32)) + r2) / (8 : Int32) * (8 : Int32)) + (1 : Int32)) + r3) - (((((r1 + (1 : Int32)) + r2) - ((r1 + (1 : Int32)) + r2) / (8 : Int32) * (8 : Int32)) + (1 : Int32)) + r3) / (8 : Int32) * (8 : Int32)) → ((6 : Int32) ≤ r6 → J54) ∧ (¬ (6 : Int32) ≤ r6 → wp_X3_isOpen q.1 r1 (fun r61 => (r61 = 0 → J54) ∧ (¬ r61 = 0 → wp_X3_isOpen q.1 (((r1 + (1 : Int32)) + r2) - ((r1 + (1 : Int32)) + r2) / (8 : Int32) * (8 : Int32)) (fun r64 => (r64 = 0 → J54) ∧ (¬ r64 = 0 → wp_X3_isOpen q.1 ((((((r1 + (1 : Int32)) + r2) - ((r1 + (1 : Int32)) + r2) / (8 : Int32) * (8 : Int32)) + (1 : Int32)) + r3) - (((((r1 + (1 : Int32)) + r2) - ((r1 + (1 : Int32)) + r2) / (8 : Int32) * (8 : Int32)) + (1 : Int32)) + r3) / (8 : Int32) * (8 : Int32)) (fun r67 => (r67 = 0 → J54) ∧ (¬ r67 = 0 → wp_X3_lay q.1 r1 (((r1 + (1 : Int32)) + r2) - ((r1 + (1 : Int32)) + r2) / (8 : Int32) * (8 : Int32)) ((((((r1 + (1 : Int32)) + r2) - ((r1 + (1 : Int32)) + r2) / (8 : Int32) * (8 : Int32)) + (1 : Int32)) + r3) - (((((r1 + (1 : Int32)) + r2) - ((r1 + (1 : Int32)) + r2) / (8 : Int32) * (8 : Int32)) + (1 : Int32)) + r3) / (8 : Int32) * (8 : Int32)) r4 (fun r70 u71 => post r70 (u71, q.2)))))))))))) ∧ (¬ r8 = 4 → (r8 = 5 → jn (wp_X3_setKey q.1 r1 r5 (fun r76 u77 => post r76 (u77, q.2))) (fun (J73 : Prop) => (r1 = ((((((r1 + (1 : Int32)) + r2) - ((r1 + (1 : Int32)) + r2) / (8 : Int32) * (8 : Int32)) + (1 : Int32)) + r3) - (((((r1 + (1 : Int32)) + r2) - ((r1 + (1 : Int32)) + r2) / (8 : Int32) * (8 : Int32)) + (1 : Int32)) + r3) / (8 : Int32) * (8 : Int32)) → J73) ∧ (¬ r1 = ((((((r1 + (1 : Int32)) + r2) - ((r1 + (1 : Int32)) + r2) / (8 : Int32) * (8 : Int32)) + (1 : Int32)) + r3) - (((((r1 + (1 : Int32)) + r2) - ((r1 + (1 : Int32)) + r2) / (8 : Int32) * (8 : Int32)) + (1 : Int32)) + r3) / (8 : Int32) * (8 : Int32)) → ((6 : Int32) ≤ r6 → J73) ∧ (¬ (6 : Int32) ≤ r6 → wp_X3_isOpen q.1 r1 (fun r80 => (r80 = 0 → J73) ∧ (¬ r80 = 0 → wp_X3_isOpen q.1 (((r1 + (1 : Int32)) + r2) - ((r1 + (1 : Int32)) + r2) / (8 : Int32) * (8 : Int32)) (fun r83 => (r83 = 0 → J73) ∧ (¬ r83 = 0 → wp_X3_isOpen q.1 ((((((r1 + (1 : Int32)) + r2) - ((r1 + (1 : Int32)) + r2) / (8 : Int32) * (8 : Int32)) + (1 : Int32)) + r3) - (((((r1 + (1 : Int32)) + r2) - ((r1 + (1 : Int32)) + r2) / (8 : Int32) * (8 : Int32)) + (1 : Int32)) + r3) / (8 : Int32) * (8 : Int32)) (fun r86 => (r86 = 0 → J73) ∧ (¬ r86 = 0 → wp_X3_lay q.1 r1 (((r1 + (1 : Int32)) + r2) - ((r1 + (1 : Int32)) + r2) / (8 : Int32) * (8 : Int32)) ((((((r1 + (1 : Int32)) + r2) - ((r1 + (1 : Int32)) + r2) / (8 : Int32) * (8 : Int32)) + (1 : Int32)) + r3) - (((((r1 + (1 : Int32)) + r2) - ((r1 + (1 : Int32)) + r2) / (8 : Int32) * (8 : Int32)) + (1 : Int32)) + r3) / (8 : Int32) * (8 : Int32)) r4 (fun r89 u90 => post r89 (u90, q.2)))))))))))) ∧ (¬ r8 = 5 → (r8 = 6 → jn (fun (x92 : Int32) => LP2 (fun (K100 : Int32 → Int32 → Prop) (x97 : Int32) (x99 : Int32) => (r7 ≤ x99 → LP2 (fun (K105 : Int32 → (Ne × (Nat → Int32)) → Prop) (x103 : Int32) (u104 : (Ne × (Nat → Int32))) => jn ((x97 = 0 → wp_X3_setKey u104.1 r1 r5 (fun r111 u112 => post r111 (u112, u104.2))) ∧ (¬ x97 = 0 → wp_X3_takeUp u104.1 (fun r113 u114 => post r113 (u114, u104.2)))) (fun (J107 : Prop) => ((4 : Int32) ≤ x103 → J107) ∧ (¬ (4 : Int32) ≤ x103 → (x97 = 0 → J107) ∧ (¬ x97 = 0 → (vp_in x103 4) ∧ (jn (fun (x117 : Int32) => (vp_in x103 4) ∧ (K105 (x103 + 1) (u104.1, (upd u104.2 (Int32.toNatClampNeg x103) x117)))) (fun (J118 : Int32 → Prop) => (¬ (u104.2 (Int32.toNatClampNeg x103)) = (r6 - (1 : Int32)) → (vp_in x103 4) ∧ (J118 (u104.2 (Int32.toNatClampNeg x103)))) ∧ ((u104.2 (Int32.toNatClampNeg x103)) = (r6 - (1 : Int32)) → J118 (-1 : Int32)))))))) (0 : Int32) (q.1, q.2)) ∧ (¬ r7 ≤ x99 → jn (fun (x122 : Int32) => K100 x122 (x99 + 1)) (fun (J124 : Int32 → Prop) => jn (J124 (0 : Int32)) (fun (J127 : Prop) => (x97 = 0 → J127) ∧ (¬ x97 = 0 → wp_X3_envelope q.1 x99 (0 : Int32) (fun r131 => (r131 = (r6 - (1 : Int32)) → J127) ∧ (¬ r131 = (r6 - (1 : Int32)) → J124 (1 : Int32)))))))) x92 (0 : Int32)) (fun (J94 : Int32 → Prop) => (r6 ≤ 0 → J94 (0 : Int32)) ∧ (¬ r6 ≤ 0 → J94 (1 : Int32)))) ∧ (¬ r8 = 6 → (r8 = 7 → wp_L_passes (q.1, q.2) (fun r135 u136 => post r135 (u136.1, u136.2))) ∧ (¬ r8 = 7 → (r8 = 8 → wp_L_passes (q.1, q.2) (fun r138 u139 => post r138 (u139.1, u139.2))) ∧ (¬ r8 = 8 → (r8 = 9 → wp_L_passes (q.1, q.2) (fun r141 u142 => post r141 (u142.1, u142.2))) ∧ (¬ r8 = 9 → (r8 = 10 → (vp_in r4 4) ∧ (jn (wp_X3_setKey q.1 r1 r5 (fun r147 u148 => post r147 (u148, q.2))) (fun (J144 : Prop) => ((q.2 (Int32.toNatClampNeg r4)) < 0 → J144) ∧ (¬ (q.2 (Int32.toNatClampNeg r4)) < 0 → ((12 : Int32) ≤ r7 → J144) ∧ (¬ (12 : Int32) ≤ r7 → wp_X3_answer q.1 r4 r5 (fun r151 u152 => post r151 (u152, q.2))))))) ∧ (¬ r8 = 10 → (r8 = 11 → (vp_in r4 4) ∧ (jn (wp_X3_setKey q.1 r1 r5 (fun r157 u158 => post r157 (u158, q.2))) (fun (J154 : Prop) => ((q.2 (Int32.toNatClampNeg r4)) < 0 → J154) ∧ (¬ (q.2 (Int32.toNatClampNeg r4)) < 0 → ((12 : Int32) ≤ r7 → J154) ∧ (¬ (12 : Int32) ≤ r7 → wp_X3_answer q.1 r4 r5 (fun r161 u162 => post r161 (u162, q.2))))))) ∧ (¬ r8 = 11 → jn (wp_X3_setKey q.1 r1 r5 (fun r166 u167 => post r166 (u167, q.2))) (fun (J163 : Prop) => (r6 ≤ 0 → J163) ∧ (¬ r6 ≤ 0 → ((12 : Int32) ≤ r7 → J163) ∧ (¬ (12 : Int32) ≤ r7 → wp_L_up p3 r6 (fun r170 => wp_X3_send q.1 r170 r5 (fun r171 u172 => post r171 (u172, q.2))))))))))))))))))))))))))
set_option maxHeartbeats 4000000 in
set_option maxRecDepth 100000 in
theorem c_L_act (l : Launch) (D : va_G) (cI cS cJ : ClassId) (G : Nat → Nat → Nat) (o : Nat) (q : (Ne × (Nat → Int32))) (sz : Nat) (p2 : Int32) (p3 : Int32) {post : Int32 → (Ne × (Nat → Int32)) → Prop} (h : wp_L_act q p2 p3 post) : Met l yL_act (wsA yL_act cL_act 13 (some .int)) rm_L_act (va_Pc [.ref (G 2 0), .ref o, .int p2, .int p3] (rwP D (tysA cI cS cJ) (hW cI cS G o q) sz)) (va_Qi post (fun u9 t => va_P D vwCl (hW cI cS G o u9) t.heap ∧ va_D (va_A (hW cI cS G o q) sz) (hW cI cS G o u9)) (va_A (hW cI cS G o q) sz)) 0 0 (va_A (hW cI cS G o q) sz) := by
  refine mkRWi (wf := hW cI cS G o) (by decide +kernel) (Nat.le_of_ble_eq_true rfl) (fun {p e s m args below meth c Q ls A H0 H locs} hx hb F hts hown hK hP hD hS hA hl hQ => ?_)
  have hown : s.vm.findClass RL = some m.cls := hown
  have F : CallFix p m c cL_act 13 s args wsT RL := F
  have hl : lv_has ls 13 [(0, .ref (G 2 0)), (1, .ref o), (2, .int p2), (3, .int p3)] := hl
  unfold wp_L_act at h
  refine lv_iload_n hx hb dL_act_0 rfl (lv_at hl 3 rfl) ?_
  refine lv_bipush (v := (8 : Int32)) hx hb dL_act_1 (by decide) ?_
  refine roSi (As := [.int p3, .int (8 : Int32)]) (rest := []) F (c_L_up l D cI cS cJ H p3 (8 : Int32) h) (cw_L_9 hts (Nat.le_of_ble_eq_true rfl) (Nat.le_of_ble_eq_true rfl)) hK vP_nil rfl hl.1 rfl (Nat.le_of_ble_eq_true rfl) dL_act_3 ⟨(Nat.le_of_ble_eq_true rfl), (Nat.le_of_ble_eq_true rfl)⟩ (fun r1 h => ?_)
  refine lv_istore (lv' := [(4, .int r1), (0, .ref (G 2 0)), (1, .ref o), (2, .int p2), (3, .int p3)]) hx hb dL_act_6 hl (by decide) rfl (fun ls hl => ?_)
  refine lv_iload hx hb dL_act_8 (lv_at hl 0 rfl) ?_
  refine lv_iconst (v := (1 : Int32)) hx hb dL_act_10 (by decide) ?_
  refine lv_iadd hx hb dL_act_11 ?_
  refine lv_iload_n hx hb dL_act_12 rfl (lv_at hl 4 rfl) ?_
  refine lv_iconst (v := (3 : Int32)) hx hb dL_act_13 (by decide) ?_
  refine lv_ishr hx hb dL_act_14 ?_
  refine lv_bipush (v := (7 : Int32)) hx hb dL_act_15 (by decide) ?_
  refine roSi (As := [.int (p3 >>> ((3 : Int32) &&& 31)), .int (7 : Int32)]) (rest := [.int (r1 + (1 : Int32))]) F (c_L_up l D cI cS cJ H (p3 >>> ((3 : Int32) &&& 31)) (7 : Int32) h) (cw_L_9 hts (Nat.le_of_ble_eq_true rfl) (Nat.le_of_ble_eq_true rfl)) hK vP_nil rfl hl.1 rfl (Nat.le_of_ble_eq_true rfl) dL_act_17 ⟨(Nat.le_of_ble_eq_true rfl), (Nat.le_of_ble_eq_true rfl)⟩ (fun r2 h => ?_)
  refine lv_iadd hx hb dL_act_20 ?_
  refine lv_bipush (v := (8 : Int32)) hx hb dL_act_21 (by decide) ?_
  refine lv_irem hx hb dL_act_23 (by decide) ?_
  refine lv_istore (lv' := [(5, .int (((r1 + (1 : Int32)) + r2) - ((r1 + (1 : Int32)) + r2) / (8 : Int32) * (8 : Int32))), (4, .int r1), (0, .ref (G 2 0)), (1, .ref o), (2, .int p2), (3, .int p3)]) hx hb dL_act_24 hl (by decide) rfl (fun ls hl => ?_)
  refine lv_iload hx hb dL_act_26 (lv_at hl 0 rfl) ?_
  refine lv_iconst (v := (1 : Int32)) hx hb dL_act_28 (by decide) ?_
  refine lv_iadd hx hb dL_act_29 ?_
  refine lv_iload_n hx hb dL_act_30 rfl (lv_at hl 5 rfl) ?_
  refine lv_bipush (v := (6 : Int32)) hx hb dL_act_31 (by decide) ?_
  refine lv_ishr hx hb dL_act_33 ?_
  refine lv_bipush (v := (7 : Int32)) hx hb dL_act_34 (by decide) ?_
  refine roSi (As := [.int (p3 >>> ((6 : Int32) &&& 31)), .int (7 : Int32)]) (rest := [.int ((((r1 + (1 : Int32)) + r2) - ((r1 + (1 : Int32)) + r2) / (8 : Int32) * (8 : Int32)) + (1 : Int32))]) F (c_L_up l D cI cS cJ H (p3 >>> ((6 : Int32) &&& 31)) (7 : Int32) h) (cw_L_9 hts (Nat.le_of_ble_eq_true rfl) (Nat.le_of_ble_eq_true rfl)) hK vP_nil rfl hl.1 rfl (Nat.le_of_ble_eq_true rfl) dL_act_36 ⟨(Nat.le_of_ble_eq_true rfl), (Nat.le_of_ble_eq_true rfl)⟩ (fun r3 h => ?_)
  refine lv_iadd hx hb dL_act_39 ?_
  refine lv_bipush (v := (8 : Int32)) hx hb dL_act_40 (by decide) ?_
  refine lv_irem hx hb dL_act_42 (by decide) ?_
  refine lv_istore (lv' := [(6, .int ((((((r1 + (1 : Int32)) + r2) - ((r1 + (1 : Int32)) + r2) / (8 : Int32) * (8 : Int32)) + (1 : Int32)) + r3) - (((((r1 + (1 : Int32)) + r2) - ((r1 + (1 : Int32)) + r2) / (8 : Int32) * (8 : Int32)) + (1 : Int32)) + r3) / (8 : Int32) * (8 : Int32))), (5, .int (((r1 + (1 : Int32)) + r2) - ((r1 + (1 : Int32)) + r2) / (8 : Int32) * (8 : Int32))), (4, .int r1), (0, .ref (G 2 0)), (1, .ref o), (2, .int p2), (3, .int p3)]) hx hb dL_act_43 hl (by decide) rfl (fun ls hl => ?_)
  refine lv_iload_n hx hb dL_act_45 rfl (lv_at hl 6 rfl) ?_
  refine lv_bipush (v := (9 : Int32)) hx hb dL_act_46 (by decide) ?_
  refine lv_ishr hx hb dL_act_48 ?_
  refine lv_iconst (v := (4 : Int32)) hx hb dL_act_49 (by decide) ?_
  refine roSi (As := [.int (p3 >>> ((9 : Int32) &&& 31)), .int (4 : Int32)]) (rest := []) F (c_L_up l D cI cS cJ H (p3 >>> ((9 : Int32) &&& 31)) (4 : Int32) h) (cw_L_9 hts (Nat.le_of_ble_eq_true rfl) (Nat.le_of_ble_eq_true rfl)) hK vP_nil rfl hl.1 rfl (Nat.le_of_ble_eq_true rfl) dL_act_50 ⟨(Nat.le_of_ble_eq_true rfl), (Nat.le_of_ble_eq_true rfl)⟩ (fun r4 h => ?_)
  refine lv_istore (lv' := [(7, .int r4), (6, .int ((((((r1 + (1 : Int32)) + r2) - ((r1 + (1 : Int32)) + r2) / (8 : Int32) * (8 : Int32)) + (1 : Int32)) + r3) - (((((r1 + (1 : Int32)) + r2) - ((r1 + (1 : Int32)) + r2) / (8 : Int32) * (8 : Int32)) + (1 : Int32)) + r3) / (8 : Int32) * (8 : Int32))), (5, .int (((r1 + (1 : Int32)) + r2) - ((r1 + (1 : Int32)) + r2) / (8 : Int32) * (8 : Int32))), (4, .int r1), (0, .ref (G 2 0)), (1, .ref o), (2, .int p2), (3, .int p3)]) hx hb dL_act_53 hl (by decide) rfl (fun ls hl => ?_)
  refine lv_iload_n hx hb dL_act_55 rfl (lv_at hl 7 rfl) ?_
  refine lv_bipush (v := (11 : Int32)) hx hb dL_act_56 (by decide) ?_
  refine lv_ishr hx hb dL_act_58 ?_
  refine lv_sipush (v := (10000 : Int32)) hx hb dL_act_59 (by decide) ?_
  refine roSi (As := [.int (p3 >>> ((11 : Int32) &&& 31)), .int (10000 : Int32)]) (rest := []) F (c_L_up l D cI cS cJ H (p3 >>> ((11 : Int32) &&& 31)) (10000 : Int32) h) (cw_L_9 hts (Nat.le_of_ble_eq_true rfl) (Nat.le_of_ble_eq_true rfl)) hK vP_nil rfl hl.1 rfl (Nat.le_of_ble_eq_true rfl) dL_act_62 ⟨(Nat.le_of_ble_eq_true rfl), (Nat.le_of_ble_eq_true rfl)⟩ (fun r5 h => ?_)
  refine lv_istore (lv' := [(8, .int r5), (7, .int r4), (6, .int ((((((r1 + (1 : Int32)) + r2) - ((r1 + (1 : Int32)) + r2) / (8 : Int32) * (8 : Int32)) + (1 : Int32)) + r3) - (((((r1 + (1 : Int32)) + r2) - ((r1 + (1 : Int32)) + r2) / (8 : Int32) * (8 : Int32)) + (1 : Int32)) + r3) / (8 : Int32) * (8 : Int32))), (5, .int (((r1 + (1 : Int32)) + r2) - ((r1 + (1 : Int32)) + r2) / (8 : Int32) * (8 : Int32))), (4, .int r1), (0, .ref (G 2 0)), (1, .ref o), (2, .int p2), (3, .int p3)]) hx hb dL_act_65 hl (by decide) rfl (fun ls hl => ?_)
  refine lv_aload_n hx hb dL_act_67 rfl (lv_at hl 5 rfl) ?_
  refine roVi (As := []) (rest := []) F (c_X3_roads l D cI cS cJ G q.1 H  h) (cw_L_15 hts (Nat.le_of_ble_eq_true rfl) (Nat.le_of_ble_eq_true rfl)) hK (vP_R hP) (recv (ci := 3) (k0 := 1) hK hP rfl rfl) rfl hl.1 rfl (Nat.le_of_ble_eq_true rfl) dL_act_68 ⟨(Nat.le_of_ble_eq_true rfl), (Nat.le_of_ble_eq_true rfl)⟩ (fun r6 h => ?_)
  refine lv_istore (lv' := [(9, .int r6), (8, .int r5), (7, .int r4), (6, .int ((((((r1 + (1 : Int32)) + r2) - ((r1 + (1 : Int32)) + r2) / (8 : Int32) * (8 : Int32)) + (1 : Int32)) + r3) - (((((r1 + (1 : Int32)) + r2) - ((r1 + (1 : Int32)) + r2) / (8 : Int32) * (8 : Int32)) + (1 : Int32)) + r3) / (8 : Int32) * (8 : Int32))), (5, .int (((r1 + (1 : Int32)) + r2) - ((r1 + (1 : Int32)) + r2) / (8 : Int32) * (8 : Int32))), (4, .int r1), (0, .ref (G 2 0)), (1, .ref o), (2, .int p2), (3, .int p3)]) hx hb dL_act_71 hl (by decide) rfl (fun ls hl => ?_)
  refine lv_aload_n hx hb dL_act_73 rfl (lv_at hl 6 rfl) ?_
  refine roVi (As := []) (rest := []) F (c_X3_envelopes l D cI cS cJ G q.1 H  h) (cw_L_21 hts (Nat.le_of_ble_eq_true rfl) (Nat.le_of_ble_eq_true rfl)) hK (vP_R hP) (recv (ci := 3) (k0 := 1) hK hP rfl rfl) rfl hl.1 rfl (Nat.le_of_ble_eq_true rfl) dL_act_74 ⟨(Nat.le_of_ble_eq_true rfl), (Nat.le_of_ble_eq_true rfl)⟩ (fun r7 h => ?_)
  refine lv_istore (lv' := [(10, .int r7), (9, .int r6), (8, .int r5), (7, .int r4), (6, .int ((((((r1 + (1 : Int32)) + r2) - ((r1 + (1 : Int32)) + r2) / (8 : Int32) * (8 : Int32)) + (1 : Int32)) + r3) - (((((r1 + (1 : Int32)) + r2) - ((r1 + (1 : Int32)) + r2) / (8 : Int32) * (8 : Int32)) + (1 : Int32)) + r3) / (8 : Int32) * (8 : Int32))), (5, .int (((r1 + (1 : Int32)) + r2) - ((r1 + (1 : Int32)) + r2) / (8 : Int32) * (8 : Int32))), (4, .int r1), (0, .ref (G 2 0)), (1, .ref o), (2, .int p2), (3, .int p3)]) hx hb dL_act_77 hl (by decide) rfl (fun ls hl => ?_)
  refine lv_iload_n hx hb dL_act_79 rfl (lv_at hl 9 rfl) ?_
  refine lv_bipush (v := (16 : Int32)) hx hb dL_act_80 (by decide) ?_
  refine roSi (As := [.int p2, .int (16 : Int32)]) (rest := []) F (c_L_up l D cI cS cJ H p2 (16 : Int32) h) (cw_L_9 hts (Nat.le_of_ble_eq_true rfl) (Nat.le_of_ble_eq_true rfl)) hK vP_nil rfl hl.1 rfl (Nat.le_of_ble_eq_true rfl) dL_act_82 ⟨(Nat.le_of_ble_eq_true rfl), (Nat.le_of_ble_eq_true rfl)⟩ (fun r8 h => ?_)
  by_cases c9 : r8 = 0
  · replace h := h.1 c9
    refine lv_tableIn (tgt := 148) hx hb dL_act_85 (by rw [c9]; decide) (by rw [c9]; decide) (by rw [c9]; rfl) (by decide) ?_
    refine lv_aload_n hx hb dL_act_148 rfl (lv_at hl 7 rfl) ?_
    refine lv_iload hx hb dL_act_149 (lv_at hl 6 rfl) ?_
    refine lv_iload_n hx hb dL_act_151 rfl (lv_at hl 10 rfl) ?_
    refine lv_iconst (v := (4 : Int32)) hx hb dL_act_152 (by decide) ?_
    refine lv_ishr hx hb dL_act_153 ?_
    refine lv_iconst (v := (3 : Int32)) hx hb dL_act_154 (by decide) ?_
    refine lv_iand hx hb dL_act_155 ?_
    refine jn_e h (fun J12 e14 h => ?_)
    have w13 : ∀ (x10 : Int32) (ls : Array Slot) (H : Heap) (locs : List Loc), bz x10 → lv_has ls 13 [] → va_P D vwCl (hW cI cS G o (q.1, q.2)) H → va_D A (hW cI cS G o (q.1, q.2)) → va_S A H0 H locs → J12 x10 → W p l e rm_L_act s m args below meth c H locs 0 0 Q (F0 m 164 ls [.int x10, .int r1, .ref (G 2 0)]) := by
      intro x10 ls H locs b11 hl hP hD hS h
      subst e14
      refine rwVi (wr := [(o, .inl (cI, 4, .inl q.2))]) (As := [.int r1, .int x10]) (rest := []) List.perm_append_comm F (c_X3_setOpen l D cI cS cJ G q.1 H.size r1 x10 h) (cw_L_24 hts (Nat.le_of_ble_eq_true rfl) (Nat.le_of_ble_eq_true rfl)) hK hP hD hS hA (recv (ci := 3) (k0 := 1) hK hP rfl rfl) rfl hl.1 rfl (Nat.le_of_ble_eq_true rfl) dL_act_164 ⟨(Nat.le_of_ble_eq_true rfl), (Nat.le_of_ble_eq_true rfl)⟩ (fun r15 u17 H locs h hP hD hS => ?_)
      have hP : va_P D vwCl (hW cI cS G o (u17, q.2)) H := vP_perm List.perm_append_comm hP
      have hD : va_D A (hW cI cS G o (u17, q.2)) := vD_perm List.perm_append_comm hD
      obtain ⟨b16, h⟩ := h
      refine lv_if_eq (tgt := 174) hx hb dL_act_167 (by decide) (fun c18 => ?_) (fun c18 => ?_)
      · replace h := h.1 c18
        refine lv_iconst (v := (0 : Int32)) hx hb dL_act_174 (by decide) ?_
        exact hQ h hP hD hS dL_act_175
      · replace h := h.2 c18
        refine lv_iconst (v := (1 : Int32)) hx hb dL_act_170 (by decide) ?_
        refine lv_goto (tgt := 175) hx hb dL_act_171 (by decide) ?_
        exact hQ h hP hD hS dL_act_175
    clear e14
    refine lv_if_le (tgt := 163) hx hb dL_act_156 (by decide) (fun c19 => ?_) (fun c19 => ?_)
    · replace h := h.1 c19
      refine lv_iconst (v := (0 : Int32)) hx hb dL_act_163 (by decide) ?_
      exact w13 (0 : Int32) _ _ _ bz0 (lv_sub hl [] rfl) hP hD hS h
    · replace h := h.2 c19
      refine lv_iconst (v := (1 : Int32)) hx hb dL_act_159 (by decide) ?_
      refine lv_goto (tgt := 164) hx hb dL_act_160 (by decide) ?_
      exact w13 (1 : Int32) _ _ _ bz1 (lv_sub hl [] rfl) hP hD hS h
  replace h := h.2 c9
  by_cases c20 : r8 = 1
  · replace h := h.1 c20
    refine lv_tableIn (tgt := 148) hx hb dL_act_85 (by rw [c20]; decide) (by rw [c20]; decide) (by rw [c20]; rfl) (by decide) ?_
    refine lv_aload_n hx hb dL_act_148 rfl (lv_at hl 7 rfl) ?_
    refine lv_iload hx hb dL_act_149 (lv_at hl 6 rfl) ?_
    refine lv_iload_n hx hb dL_act_151 rfl (lv_at hl 10 rfl) ?_
    refine lv_iconst (v := (4 : Int32)) hx hb dL_act_152 (by decide) ?_
    refine lv_ishr hx hb dL_act_153 ?_
    refine lv_iconst (v := (3 : Int32)) hx hb dL_act_154 (by decide) ?_
    refine lv_iand hx hb dL_act_155 ?_
    refine jn_e h (fun J23 e25 h => ?_)
    have w24 : ∀ (x21 : Int32) (ls : Array Slot) (H : Heap) (locs : List Loc), bz x21 → lv_has ls 13 [] → va_P D vwCl (hW cI cS G o (q.1, q.2)) H → va_D A (hW cI cS G o (q.1, q.2)) → va_S A H0 H locs → J23 x21 → W p l e rm_L_act s m args below meth c H locs 0 0 Q (F0 m 164 ls [.int x21, .int r1, .ref (G 2 0)]) := by
      intro x21 ls H locs b22 hl hP hD hS h
      subst e25
      refine rwVi (wr := [(o, .inl (cI, 4, .inl q.2))]) (As := [.int r1, .int x21]) (rest := []) List.perm_append_comm F (c_X3_setOpen l D cI cS cJ G q.1 H.size r1 x21 h) (cw_L_24 hts (Nat.le_of_ble_eq_true rfl) (Nat.le_of_ble_eq_true rfl)) hK hP hD hS hA (recv (ci := 3) (k0 := 1) hK hP rfl rfl) rfl hl.1 rfl (Nat.le_of_ble_eq_true rfl) dL_act_164 ⟨(Nat.le_of_ble_eq_true rfl), (Nat.le_of_ble_eq_true rfl)⟩ (fun r26 u28 H locs h hP hD hS => ?_)
      have hP : va_P D vwCl (hW cI cS G o (u28, q.2)) H := vP_perm List.perm_append_comm hP
      have hD : va_D A (hW cI cS G o (u28, q.2)) := vD_perm List.perm_append_comm hD
      obtain ⟨b27, h⟩ := h
      refine lv_if_eq (tgt := 174) hx hb dL_act_167 (by decide) (fun c29 => ?_) (fun c29 => ?_)
      · replace h := h.1 c29
        refine lv_iconst (v := (0 : Int32)) hx hb dL_act_174 (by decide) ?_
        exact hQ h hP hD hS dL_act_175
      · replace h := h.2 c29
        refine lv_iconst (v := (1 : Int32)) hx hb dL_act_170 (by decide) ?_
        refine lv_goto (tgt := 175) hx hb dL_act_171 (by decide) ?_
        exact hQ h hP hD hS dL_act_175
    clear e25
    refine lv_if_le (tgt := 163) hx hb dL_act_156 (by decide) (fun c30 => ?_) (fun c30 => ?_)
    · replace h := h.1 c30
      refine lv_iconst (v := (0 : Int32)) hx hb dL_act_163 (by decide) ?_
      exact w24 (0 : Int32) _ _ _ bz0 (lv_sub hl [] rfl) hP hD hS h
    · replace h := h.2 c30
      refine lv_iconst (v := (1 : Int32)) hx hb dL_act_159 (by decide) ?_
      refine lv_goto (tgt := 164) hx hb dL_act_160 (by decide) ?_
      exact w24 (1 : Int32) _ _ _ bz1 (lv_sub hl [] rfl) hP hD hS h
  replace h := h.2 c20
  by_cases c31 : r8 = 2
  · replace h := h.1 c31
    refine lv_tableIn (tgt := 176) hx hb dL_act_85 (by rw [c31]; decide) (by rw [c31]; decide) (by rw [c31]; rfl) (by decide) ?_
    refine lv_aload_n hx hb dL_act_176 rfl (lv_at hl 7 rfl) ?_
    refine lv_iload hx hb dL_act_177 (lv_at hl 6 rfl) ?_
    refine lv_iload hx hb dL_act_179 (lv_at hl 2 rfl) ?_
    refine rwVi (wr := [(o, .inl (cI, 4, .inl q.2))]) (As := [.int r1, .int r5]) (rest := []) List.perm_append_comm F (c_X3_setKey l D cI cS cJ G q.1 H.size r1 r5 h) (cw_L_28 hts (Nat.le_of_ble_eq_true rfl) (Nat.le_of_ble_eq_true rfl)) hK hP hD hS hA (recv (ci := 3) (k0 := 1) hK hP rfl rfl) rfl hl.1 rfl (Nat.le_of_ble_eq_true rfl) dL_act_181 ⟨(Nat.le_of_ble_eq_true rfl), (Nat.le_of_ble_eq_true rfl)⟩ (fun r32 u33 H locs h hP hD hS => ?_)
    have hP : va_P D vwCl (hW cI cS G o (u33, q.2)) H := vP_perm List.perm_append_comm hP
    have hD : va_D A (hW cI cS G o (u33, q.2)) := vD_perm List.perm_append_comm hD
    exact hQ h hP hD hS dL_act_184
  replace h := h.2 c31
  by_cases c34 : r8 = 3
  · replace h := h.1 c34
    refine lv_tableIn (tgt := 185) hx hb dL_act_85 (by rw [c34]; decide) (by rw [c34]; decide) (by rw [c34]; rfl) (by decide) ?_
    refine lv_iload hx hb dL_act_185 (lv_at hl 6 rfl) ?_
    refine lv_iload hx hb dL_act_187 (lv_at hl 4 rfl) ?_
    refine jn_e h (fun J35 e37 h => ?_)
    have w36 : ∀  (ls : Array Slot) (H : Heap) (locs : List Loc), lv_has ls 13 [(0, .ref (G 2 0)), (4, .int r1), (8, .int r5)] → va_P D vwCl (hW cI cS G o (q.1, q.2)) H → va_D A (hW cI cS G o (q.1, q.2)) → va_S A H0 H locs → J35 → W p l e rm_L_act s m args below meth c H locs 0 0 Q (F0 m 241 ls []) := by
      intro ls H locs hl hP hD hS h
      subst e37
      refine lv_aload_n hx hb dL_act_241 rfl (lv_at hl 0 rfl) ?_
      refine lv_iload hx hb dL_act_242 (lv_at hl 1 rfl) ?_
      refine lv_iload hx hb dL_act_244 (lv_at hl 2 rfl) ?_
      refine rwVi (wr := [(o, .inl (cI, 4, .inl q.2))]) (As := [.int r1, .int r5]) (rest := []) List.perm_append_comm F (c_X3_setKey l D cI cS cJ G q.1 H.size r1 r5 h) (cw_L_28 hts (Nat.le_of_ble_eq_true rfl) (Nat.le_of_ble_eq_true rfl)) hK hP hD hS hA (recv (ci := 3) (k0 := 1) hK hP rfl rfl) rfl hl.1 rfl (Nat.le_of_ble_eq_true rfl) dL_act_246 ⟨(Nat.le_of_ble_eq_true rfl), (Nat.le_of_ble_eq_true rfl)⟩ (fun r38 u39 H locs h hP hD hS => ?_)
      have hP : va_P D vwCl (hW cI cS G o (u39, q.2)) H := vP_perm List.perm_append_comm hP
      have hD : va_D A (hW cI cS G o (u39, q.2)) := vD_perm List.perm_append_comm hD
      exact hQ h hP hD hS dL_act_249
    clear e37
    refine lv_icmp_eq (tgt := 241) hx hb dL_act_189 (by decide) (fun c40 => ?_) (fun c40 => ?_)
    · replace h := h.1 c40
      exact w36 _ _ _ (lv_sub hl [7, 6, 2] rfl) hP hD hS h
    · replace h := h.2 c40
      refine lv_iload hx hb dL_act_192 (lv_at hl 1 rfl) ?_
      refine lv_bipush (v := (6 : Int32)) hx hb dL_act_194 (by decide) ?_
      refine lv_icmp_ge (tgt := 241) hx hb dL_act_196 (by decide) (fun c41 => ?_) (fun c41 => ?_)
      · replace h := h.1 c41
        exact w36 _ _ _ (lv_sub hl [7, 6, 2] rfl) hP hD hS h
      · replace h := h.2 c41
        refine lv_aload_n hx hb dL_act_199 rfl (lv_at hl 7 rfl) ?_
        refine lv_iload hx hb dL_act_200 (lv_at hl 6 rfl) ?_
        refine roVi (As := [.int r1]) (rest := []) F (c_X3_isOpen l D cI cS cJ G q.1 H r1 h) (cw_L_31 hts (Nat.le_of_ble_eq_true rfl) (Nat.le_of_ble_eq_true rfl)) hK (vP_R hP) (recv (ci := 3) (k0 := 1) hK hP rfl rfl) rfl hl.1 rfl (Nat.le_of_ble_eq_true rfl) dL_act_202 ⟨(Nat.le_of_ble_eq_true rfl), (Nat.le_of_ble_eq_true rfl)⟩ (fun r42 h => ?_)
        obtain ⟨b43, h⟩ := h
        refine lv_if_eq (tgt := 241) hx hb dL_act_205 (by decide) (fun c44 => ?_) (fun c44 => ?_)
        · replace h := h.1 c44
          exact w36 _ _ _ (lv_sub hl [7, 6, 2] rfl) hP hD hS h
        · replace h := h.2 c44
          refine lv_aload_n hx hb dL_act_208 rfl (lv_at hl 7 rfl) ?_
          refine lv_iload hx hb dL_act_209 (lv_at hl 5 rfl) ?_
          refine roVi (As := [.int (((r1 + (1 : Int32)) + r2) - ((r1 + (1 : Int32)) + r2) / (8 : Int32) * (8 : Int32))]) (rest := []) F (c_X3_isOpen l D cI cS cJ G q.1 H (((r1 + (1 : Int32)) + r2) - ((r1 + (1 : Int32)) + r2) / (8 : Int32) * (8 : Int32)) h) (cw_L_31 hts (Nat.le_of_ble_eq_true rfl) (Nat.le_of_ble_eq_true rfl)) hK (vP_R hP) (recv (ci := 3) (k0 := 1) hK hP rfl rfl) rfl hl.1 rfl (Nat.le_of_ble_eq_true rfl) dL_act_211 ⟨(Nat.le_of_ble_eq_true rfl), (Nat.le_of_ble_eq_true rfl)⟩ (fun r45 h => ?_)
          obtain ⟨b46, h⟩ := h
          refine lv_if_eq (tgt := 241) hx hb dL_act_214 (by decide) (fun c47 => ?_) (fun c47 => ?_)
          · replace h := h.1 c47
            exact w36 _ _ _ (lv_sub hl [7, 6, 2] rfl) hP hD hS h
          · replace h := h.2 c47
            refine lv_aload_n hx hb dL_act_217 rfl (lv_at hl 7 rfl) ?_
            refine lv_iload hx hb dL_act_218 (lv_at hl 4 rfl) ?_
            refine roVi (As := [.int ((((((r1 + (1 : Int32)) + r2) - ((r1 + (1 : Int32)) + r2) / (8 : Int32) * (8 : Int32)) + (1 : Int32)) + r3) - (((((r1 + (1 : Int32)) + r2) - ((r1 + (1 : Int32)) + r2) / (8 : Int32) * (8 : Int32)) + (1 : Int32)) + r3) / (8 : Int32) * (8 : Int32))]) (rest := []) F (c_X3_isOpen l D cI cS cJ G q.1 H ((((((r1 + (1 : Int32)) + r2) - ((r1 + (1 : Int32)) + r2) / (8 : Int32) * (8 : Int32)) + (1 : Int32)) + r3) - (((((r1 + (1 : Int32)) + r2) - ((r1 + (1 : Int32)) + r2) / (8 : Int32) * (8 : Int32)) + (1 : Int32)) + r3) / (8 : Int32) * (8 : Int32)) h) (cw_L_31 hts (Nat.le_of_ble_eq_true rfl) (Nat.le_of_ble_eq_true rfl)) hK (vP_R hP) (recv (ci := 3) (k0 := 1) hK hP rfl rfl) rfl hl.1 rfl (Nat.le_of_ble_eq_true rfl) dL_act_220 ⟨(Nat.le_of_ble_eq_true rfl), (Nat.le_of_ble_eq_true rfl)⟩ (fun r48 h => ?_)
            obtain ⟨b49, h⟩ := h
            refine lv_if_eq (tgt := 241) hx hb dL_act_223 (by decide) (fun c50 => ?_) (fun c50 => ?_)
            · replace h := h.1 c50
              exact w36 _ _ _ (lv_sub hl [7, 6, 2] rfl) hP hD hS h
            · replace h := h.2 c50
              refine lv_aload_n hx hb dL_act_226 rfl (lv_at hl 7 rfl) ?_
              refine lv_iload hx hb dL_act_227 (lv_at hl 6 rfl) ?_
              refine lv_iload hx hb dL_act_229 (lv_at hl 5 rfl) ?_
              refine lv_iload hx hb dL_act_231 (lv_at hl 4 rfl) ?_
              refine lv_iload hx hb dL_act_233 (lv_at hl 3 rfl) ?_
              refine rwVi (wr := [(o, .inl (cI, 4, .inl q.2))]) (As := [.int r1, .int (((r1 + (1 : Int32)) + r2) - ((r1 + (1 : Int32)) + r2) / (8 : Int32) * (8 : Int32)), .int ((((((r1 + (1 : Int32)) + r2) - ((r1 + (1 : Int32)) + r2) / (8 : Int32) * (8 : Int32)) + (1 : Int32)) + r3) - (((((r1 + (1 : Int32)) + r2) - ((r1 + (1 : Int32)) + r2) / (8 : Int32) * (8 : Int32)) + (1 : Int32)) + r3) / (8 : Int32) * (8 : Int32)), .int r4]) (rest := []) List.perm_append_comm F (c_X3_lay l D cI cS cJ G q.1 H.size r1 (((r1 + (1 : Int32)) + r2) - ((r1 + (1 : Int32)) + r2) / (8 : Int32) * (8 : Int32)) ((((((r1 + (1 : Int32)) + r2) - ((r1 + (1 : Int32)) + r2) / (8 : Int32) * (8 : Int32)) + (1 : Int32)) + r3) - (((((r1 + (1 : Int32)) + r2) - ((r1 + (1 : Int32)) + r2) / (8 : Int32) * (8 : Int32)) + (1 : Int32)) + r3) / (8 : Int32) * (8 : Int32)) r4 h) (cw_L_35 hts (Nat.le_of_ble_eq_true rfl) (Nat.le_of_ble_eq_true rfl)) hK hP hD hS hA (recv (ci := 3) (k0 := 1) hK hP rfl rfl) rfl hl.1 rfl (Nat.le_of_ble_eq_true rfl) dL_act_235 ⟨(Nat.le_of_ble_eq_true rfl), (Nat.le_of_ble_eq_true rfl)⟩ (fun r51 u52 H locs h hP hD hS => ?_)
              have hP : va_P D vwCl (hW cI cS G o (u52, q.2)) H := vP_perm List.perm_append_comm hP
              have hD : va_D A (hW cI cS G o (u52, q.2)) := vD_perm List.perm_append_comm hD
              refine lv_goto (tgt := 249) hx hb dL_act_238 (by decide) ?_
              exact hQ h hP hD hS dL_act_249
  replace h := h.2 c34
  by_cases c53 : r8 = 4
  · replace h := h.1 c53
    refine lv_tableIn (tgt := 185) hx hb dL_act_85 (by rw [c53]; decide) (by rw [c53]; decide) (by rw [c53]; rfl) (by decide) ?_
    refine lv_iload hx hb dL_act_185 (lv_at hl 6 rfl) ?_
    refine lv_iload hx hb dL_act_187 (lv_at hl 4 rfl) ?_
    refine jn_e h (fun J54 e56 h => ?_)
    have w55 : ∀  (ls : Array Slot) (H : Heap) (locs : List Loc), lv_has ls 13 [(0, .ref (G 2 0)), (4, .int r1), (8, .int r5)] → va_P D vwCl (hW cI cS G o (q.1, q.2)) H → va_D A (hW cI cS G o (q.1, q.2)) → va_S A H0 H locs → J54 → W p l e rm_L_act s m args below meth c H locs 0 0 Q (F0 m 241 ls []) := by
      intro ls H locs hl hP hD hS h
      subst e56
      refine lv_aload_n hx hb dL_act_241 rfl (lv_at hl 0 rfl) ?_
      refine lv_iload hx hb dL_act_242 (lv_at hl 1 rfl) ?_
      refine lv_iload hx hb dL_act_244 (lv_at hl 2 rfl) ?_
      refine rwVi (wr := [(o, .inl (cI, 4, .inl q.2))]) (As := [.int r1, .int r5]) (rest := []) List.perm_append_comm F (c_X3_setKey l D cI cS cJ G q.1 H.size r1 r5 h) (cw_L_28 hts (Nat.le_of_ble_eq_true rfl) (Nat.le_of_ble_eq_true rfl)) hK hP hD hS hA (recv (ci := 3) (k0 := 1) hK hP rfl rfl) rfl hl.1 rfl (Nat.le_of_ble_eq_true rfl) dL_act_246 ⟨(Nat.le_of_ble_eq_true rfl), (Nat.le_of_ble_eq_true rfl)⟩ (fun r57 u58 H locs h hP hD hS => ?_)
      have hP : va_P D vwCl (hW cI cS G o (u58, q.2)) H := vP_perm List.perm_append_comm hP
      have hD : va_D A (hW cI cS G o (u58, q.2)) := vD_perm List.perm_append_comm hD
      exact hQ h hP hD hS dL_act_249
    clear e56
    refine lv_icmp_eq (tgt := 241) hx hb dL_act_189 (by decide) (fun c59 => ?_) (fun c59 => ?_)
    · replace h := h.1 c59
      exact w55 _ _ _ (lv_sub hl [7, 6, 2] rfl) hP hD hS h
    · replace h := h.2 c59
      refine lv_iload hx hb dL_act_192 (lv_at hl 1 rfl) ?_
      refine lv_bipush (v := (6 : Int32)) hx hb dL_act_194 (by decide) ?_
      refine lv_icmp_ge (tgt := 241) hx hb dL_act_196 (by decide) (fun c60 => ?_) (fun c60 => ?_)
      · replace h := h.1 c60
        exact w55 _ _ _ (lv_sub hl [7, 6, 2] rfl) hP hD hS h
      · replace h := h.2 c60
        refine lv_aload_n hx hb dL_act_199 rfl (lv_at hl 7 rfl) ?_
        refine lv_iload hx hb dL_act_200 (lv_at hl 6 rfl) ?_
        refine roVi (As := [.int r1]) (rest := []) F (c_X3_isOpen l D cI cS cJ G q.1 H r1 h) (cw_L_31 hts (Nat.le_of_ble_eq_true rfl) (Nat.le_of_ble_eq_true rfl)) hK (vP_R hP) (recv (ci := 3) (k0 := 1) hK hP rfl rfl) rfl hl.1 rfl (Nat.le_of_ble_eq_true rfl) dL_act_202 ⟨(Nat.le_of_ble_eq_true rfl), (Nat.le_of_ble_eq_true rfl)⟩ (fun r61 h => ?_)
        obtain ⟨b62, h⟩ := h
        refine lv_if_eq (tgt := 241) hx hb dL_act_205 (by decide) (fun c63 => ?_) (fun c63 => ?_)
        · replace h := h.1 c63
          exact w55 _ _ _ (lv_sub hl [7, 6, 2] rfl) hP hD hS h
        · replace h := h.2 c63
          refine lv_aload_n hx hb dL_act_208 rfl (lv_at hl 7 rfl) ?_
          refine lv_iload hx hb dL_act_209 (lv_at hl 5 rfl) ?_
          refine roVi (As := [.int (((r1 + (1 : Int32)) + r2) - ((r1 + (1 : Int32)) + r2) / (8 : Int32) * (8 : Int32))]) (rest := []) F (c_X3_isOpen l D cI cS cJ G q.1 H (((r1 + (1 : Int32)) + r2) - ((r1 + (1 : Int32)) + r2) / (8 : Int32) * (8 : Int32)) h) (cw_L_31 hts (Nat.le_of_ble_eq_true rfl) (Nat.le_of_ble_eq_true rfl)) hK (vP_R hP) (recv (ci := 3) (k0 := 1) hK hP rfl rfl) rfl hl.1 rfl (Nat.le_of_ble_eq_true rfl) dL_act_211 ⟨(Nat.le_of_ble_eq_true rfl), (Nat.le_of_ble_eq_true rfl)⟩ (fun r64 h => ?_)
          obtain ⟨b65, h⟩ := h
          refine lv_if_eq (tgt := 241) hx hb dL_act_214 (by decide) (fun c66 => ?_) (fun c66 => ?_)
          · replace h := h.1 c66
            exact w55 _ _ _ (lv_sub hl [7, 6, 2] rfl) hP hD hS h
          · replace h := h.2 c66
            refine lv_aload_n hx hb dL_act_217 rfl (lv_at hl 7 rfl) ?_
            refine lv_iload hx hb dL_act_218 (lv_at hl 4 rfl) ?_
            refine roVi (As := [.int ((((((r1 + (1 : Int32)) + r2) - ((r1 + (1 : Int32)) + r2) / (8 : Int32) * (8 : Int32)) + (1 : Int32)) + r3) - (((((r1 + (1 : Int32)) + r2) - ((r1 + (1 : Int32)) + r2) / (8 : Int32) * (8 : Int32)) + (1 : Int32)) + r3) / (8 : Int32) * (8 : Int32))]) (rest := []) F (c_X3_isOpen l D cI cS cJ G q.1 H ((((((r1 + (1 : Int32)) + r2) - ((r1 + (1 : Int32)) + r2) / (8 : Int32) * (8 : Int32)) + (1 : Int32)) + r3) - (((((r1 + (1 : Int32)) + r2) - ((r1 + (1 : Int32)) + r2) / (8 : Int32) * (8 : Int32)) + (1 : Int32)) + r3) / (8 : Int32) * (8 : Int32)) h) (cw_L_31 hts (Nat.le_of_ble_eq_true rfl) (Nat.le_of_ble_eq_true rfl)) hK (vP_R hP) (recv (ci := 3) (k0 := 1) hK hP rfl rfl) rfl hl.1 rfl (Nat.le_of_ble_eq_true rfl) dL_act_220 ⟨(Nat.le_of_ble_eq_true rfl), (Nat.le_of_ble_eq_true rfl)⟩ (fun r67 h => ?_)
            obtain ⟨b68, h⟩ := h
            refine lv_if_eq (tgt := 241) hx hb dL_act_223 (by decide) (fun c69 => ?_) (fun c69 => ?_)
            · replace h := h.1 c69
              exact w55 _ _ _ (lv_sub hl [7, 6, 2] rfl) hP hD hS h
            · replace h := h.2 c69
              refine lv_aload_n hx hb dL_act_226 rfl (lv_at hl 7 rfl) ?_
              refine lv_iload hx hb dL_act_227 (lv_at hl 6 rfl) ?_
              refine lv_iload hx hb dL_act_229 (lv_at hl 5 rfl) ?_
              refine lv_iload hx hb dL_act_231 (lv_at hl 4 rfl) ?_
              refine lv_iload hx hb dL_act_233 (lv_at hl 3 rfl) ?_
              refine rwVi (wr := [(o, .inl (cI, 4, .inl q.2))]) (As := [.int r1, .int (((r1 + (1 : Int32)) + r2) - ((r1 + (1 : Int32)) + r2) / (8 : Int32) * (8 : Int32)), .int ((((((r1 + (1 : Int32)) + r2) - ((r1 + (1 : Int32)) + r2) / (8 : Int32) * (8 : Int32)) + (1 : Int32)) + r3) - (((((r1 + (1 : Int32)) + r2) - ((r1 + (1 : Int32)) + r2) / (8 : Int32) * (8 : Int32)) + (1 : Int32)) + r3) / (8 : Int32) * (8 : Int32)), .int r4]) (rest := []) List.perm_append_comm F (c_X3_lay l D cI cS cJ G q.1 H.size r1 (((r1 + (1 : Int32)) + r2) - ((r1 + (1 : Int32)) + r2) / (8 : Int32) * (8 : Int32)) ((((((r1 + (1 : Int32)) + r2) - ((r1 + (1 : Int32)) + r2) / (8 : Int32) * (8 : Int32)) + (1 : Int32)) + r3) - (((((r1 + (1 : Int32)) + r2) - ((r1 + (1 : Int32)) + r2) / (8 : Int32) * (8 : Int32)) + (1 : Int32)) + r3) / (8 : Int32) * (8 : Int32)) r4 h) (cw_L_35 hts (Nat.le_of_ble_eq_true rfl) (Nat.le_of_ble_eq_true rfl)) hK hP hD hS hA (recv (ci := 3) (k0 := 1) hK hP rfl rfl) rfl hl.1 rfl (Nat.le_of_ble_eq_true rfl) dL_act_235 ⟨(Nat.le_of_ble_eq_true rfl), (Nat.le_of_ble_eq_true rfl)⟩ (fun r70 u71 H locs h hP hD hS => ?_)
              have hP : va_P D vwCl (hW cI cS G o (u71, q.2)) H := vP_perm List.perm_append_comm hP
              have hD : va_D A (hW cI cS G o (u71, q.2)) := vD_perm List.perm_append_comm hD
              refine lv_goto (tgt := 249) hx hb dL_act_238 (by decide) ?_
              exact hQ h hP hD hS dL_act_249
  replace h := h.2 c53
  by_cases c72 : r8 = 5
  · replace h := h.1 c72
    refine lv_tableIn (tgt := 185) hx hb dL_act_85 (by rw [c72]; decide) (by rw [c72]; decide) (by rw [c72]; rfl) (by decide) ?_
    refine lv_iload hx hb dL_act_185 (lv_at hl 6 rfl) ?_
    refine lv_iload hx hb dL_act_187 (lv_at hl 4 rfl) ?_
    refine jn_e h (fun J73 e75 h => ?_)
    have w74 : ∀  (ls : Array Slot) (H : Heap) (locs : List Loc), lv_has ls 13 [(0, .ref (G 2 0)), (4, .int r1), (8, .int r5)] → va_P D vwCl (hW cI cS G o (q.1, q.2)) H → va_D A (hW cI cS G o (q.1, q.2)) → va_S A H0 H locs → J73 → W p l e rm_L_act s m args below meth c H locs 0 0 Q (F0 m 241 ls []) := by
      intro ls H locs hl hP hD hS h
      subst e75
      refine lv_aload_n hx hb dL_act_241 rfl (lv_at hl 0 rfl) ?_
      refine lv_iload hx hb dL_act_242 (lv_at hl 1 rfl) ?_
      refine lv_iload hx hb dL_act_244 (lv_at hl 2 rfl) ?_
      refine rwVi (wr := [(o, .inl (cI, 4, .inl q.2))]) (As := [.int r1, .int r5]) (rest := []) List.perm_append_comm F (c_X3_setKey l D cI cS cJ G q.1 H.size r1 r5 h) (cw_L_28 hts (Nat.le_of_ble_eq_true rfl) (Nat.le_of_ble_eq_true rfl)) hK hP hD hS hA (recv (ci := 3) (k0 := 1) hK hP rfl rfl) rfl hl.1 rfl (Nat.le_of_ble_eq_true rfl) dL_act_246 ⟨(Nat.le_of_ble_eq_true rfl), (Nat.le_of_ble_eq_true rfl)⟩ (fun r76 u77 H locs h hP hD hS => ?_)
      have hP : va_P D vwCl (hW cI cS G o (u77, q.2)) H := vP_perm List.perm_append_comm hP
      have hD : va_D A (hW cI cS G o (u77, q.2)) := vD_perm List.perm_append_comm hD
      exact hQ h hP hD hS dL_act_249
    clear e75
    refine lv_icmp_eq (tgt := 241) hx hb dL_act_189 (by decide) (fun c78 => ?_) (fun c78 => ?_)
    · replace h := h.1 c78
      exact w74 _ _ _ (lv_sub hl [7, 6, 2] rfl) hP hD hS h
    · replace h := h.2 c78
      refine lv_iload hx hb dL_act_192 (lv_at hl 1 rfl) ?_
      refine lv_bipush (v := (6 : Int32)) hx hb dL_act_194 (by decide) ?_
      refine lv_icmp_ge (tgt := 241) hx hb dL_act_196 (by decide) (fun c79 => ?_) (fun c79 => ?_)
      · replace h := h.1 c79
        exact w74 _ _ _ (lv_sub hl [7, 6, 2] rfl) hP hD hS h
      · replace h := h.2 c79
        refine lv_aload_n hx hb dL_act_199 rfl (lv_at hl 7 rfl) ?_
        refine lv_iload hx hb dL_act_200 (lv_at hl 6 rfl) ?_
        refine roVi (As := [.int r1]) (rest := []) F (c_X3_isOpen l D cI cS cJ G q.1 H r1 h) (cw_L_31 hts (Nat.le_of_ble_eq_true rfl) (Nat.le_of_ble_eq_true rfl)) hK (vP_R hP) (recv (ci := 3) (k0 := 1) hK hP rfl rfl) rfl hl.1 rfl (Nat.le_of_ble_eq_true rfl) dL_act_202 ⟨(Nat.le_of_ble_eq_true rfl), (Nat.le_of_ble_eq_true rfl)⟩ (fun r80 h => ?_)
        obtain ⟨b81, h⟩ := h
        refine lv_if_eq (tgt := 241) hx hb dL_act_205 (by decide) (fun c82 => ?_) (fun c82 => ?_)
        · replace h := h.1 c82
          exact w74 _ _ _ (lv_sub hl [7, 6, 2] rfl) hP hD hS h
        · replace h := h.2 c82
          refine lv_aload_n hx hb dL_act_208 rfl (lv_at hl 7 rfl) ?_
          refine lv_iload hx hb dL_act_209 (lv_at hl 5 rfl) ?_
          refine roVi (As := [.int (((r1 + (1 : Int32)) + r2) - ((r1 + (1 : Int32)) + r2) / (8 : Int32) * (8 : Int32))]) (rest := []) F (c_X3_isOpen l D cI cS cJ G q.1 H (((r1 + (1 : Int32)) + r2) - ((r1 + (1 : Int32)) + r2) / (8 : Int32) * (8 : Int32)) h) (cw_L_31 hts (Nat.le_of_ble_eq_true rfl) (Nat.le_of_ble_eq_true rfl)) hK (vP_R hP) (recv (ci := 3) (k0 := 1) hK hP rfl rfl) rfl hl.1 rfl (Nat.le_of_ble_eq_true rfl) dL_act_211 ⟨(Nat.le_of_ble_eq_true rfl), (Nat.le_of_ble_eq_true rfl)⟩ (fun r83 h => ?_)
          obtain ⟨b84, h⟩ := h
          refine lv_if_eq (tgt := 241) hx hb dL_act_214 (by decide) (fun c85 => ?_) (fun c85 => ?_)
          · replace h := h.1 c85
            exact w74 _ _ _ (lv_sub hl [7, 6, 2] rfl) hP hD hS h
          · replace h := h.2 c85
            refine lv_aload_n hx hb dL_act_217 rfl (lv_at hl 7 rfl) ?_
            refine lv_iload hx hb dL_act_218 (lv_at hl 4 rfl) ?_
            refine roVi (As := [.int ((((((r1 + (1 : Int32)) + r2) - ((r1 + (1 : Int32)) + r2) / (8 : Int32) * (8 : Int32)) + (1 : Int32)) + r3) - (((((r1 + (1 : Int32)) + r2) - ((r1 + (1 : Int32)) + r2) / (8 : Int32) * (8 : Int32)) + (1 : Int32)) + r3) / (8 : Int32) * (8 : Int32))]) (rest := []) F (c_X3_isOpen l D cI cS cJ G q.1 H ((((((r1 + (1 : Int32)) + r2) - ((r1 + (1 : Int32)) + r2) / (8 : Int32) * (8 : Int32)) + (1 : Int32)) + r3) - (((((r1 + (1 : Int32)) + r2) - ((r1 + (1 : Int32)) + r2) / (8 : Int32) * (8 : Int32)) + (1 : Int32)) + r3) / (8 : Int32) * (8 : Int32)) h) (cw_L_31 hts (Nat.le_of_ble_eq_true rfl) (Nat.le_of_ble_eq_true rfl)) hK (vP_R hP) (recv (ci := 3) (k0 := 1) hK hP rfl rfl) rfl hl.1 rfl (Nat.le_of_ble_eq_true rfl) dL_act_220 ⟨(Nat.le_of_ble_eq_true rfl), (Nat.le_of_ble_eq_true rfl)⟩ (fun r86 h => ?_)
            obtain ⟨b87, h⟩ := h
            refine lv_if_eq (tgt := 241) hx hb dL_act_223 (by decide) (fun c88 => ?_) (fun c88 => ?_)
            · replace h := h.1 c88
              exact w74 _ _ _ (lv_sub hl [7, 6, 2] rfl) hP hD hS h
            · replace h := h.2 c88
              refine lv_aload_n hx hb dL_act_226 rfl (lv_at hl 7 rfl) ?_
              refine lv_iload hx hb dL_act_227 (lv_at hl 6 rfl) ?_
              refine lv_iload hx hb dL_act_229 (lv_at hl 5 rfl) ?_
              refine lv_iload hx hb dL_act_231 (lv_at hl 4 rfl) ?_
              refine lv_iload hx hb dL_act_233 (lv_at hl 3 rfl) ?_
              refine rwVi (wr := [(o, .inl (cI, 4, .inl q.2))]) (As := [.int r1, .int (((r1 + (1 : Int32)) + r2) - ((r1 + (1 : Int32)) + r2) / (8 : Int32) * (8 : Int32)), .int ((((((r1 + (1 : Int32)) + r2) - ((r1 + (1 : Int32)) + r2) / (8 : Int32) * (8 : Int32)) + (1 : Int32)) + r3) - (((((r1 + (1 : Int32)) + r2) - ((r1 + (1 : Int32)) + r2) / (8 : Int32) * (8 : Int32)) + (1 : Int32)) + r3) / (8 : Int32) * (8 : Int32)), .int r4]) (rest := []) List.perm_append_comm F (c_X3_lay l D cI cS cJ G q.1 H.size r1 (((r1 + (1 : Int32)) + r2) - ((r1 + (1 : Int32)) + r2) / (8 : Int32) * (8 : Int32)) ((((((r1 + (1 : Int32)) + r2) - ((r1 + (1 : Int32)) + r2) / (8 : Int32) * (8 : Int32)) + (1 : Int32)) + r3) - (((((r1 + (1 : Int32)) + r2) - ((r1 + (1 : Int32)) + r2) / (8 : Int32) * (8 : Int32)) + (1 : Int32)) + r3) / (8 : Int32) * (8 : Int32)) r4 h) (cw_L_35 hts (Nat.le_of_ble_eq_true rfl) (Nat.le_of_ble_eq_true rfl)) hK hP hD hS hA (recv (ci := 3) (k0 := 1) hK hP rfl rfl) rfl hl.1 rfl (Nat.le_of_ble_eq_true rfl) dL_act_235 ⟨(Nat.le_of_ble_eq_true rfl), (Nat.le_of_ble_eq_true rfl)⟩ (fun r89 u90 H locs h hP hD hS => ?_)
              have hP : va_P D vwCl (hW cI cS G o (u90, q.2)) H := vP_perm List.perm_append_comm hP
              have hD : va_D A (hW cI cS G o (u90, q.2)) := vD_perm List.perm_append_comm hD
              refine lv_goto (tgt := 249) hx hb dL_act_238 (by decide) ?_
              exact hQ h hP hD hS dL_act_249
  replace h := h.2 c72
  by_cases c91 : r8 = 6
  · replace h := h.1 c91
    refine lv_tableIn (tgt := 250) hx hb dL_act_85 (by rw [c91]; decide) (by rw [c91]; decide) (by rw [c91]; rfl) (by decide) ?_
    refine lv_iload hx hb dL_act_250 (lv_at hl 1 rfl) ?_
    refine jn_e h (fun J94 e96 h => ?_)
    have w95 : ∀ (x92 : Int32) (ls : Array Slot) (H : Heap) (locs : List Loc), bz x92 → lv_has ls 13 [(0, .ref (G 2 0)), (1, .ref o), (4, .int r1), (8, .int r5), (9, .int r6), (10, .int r7)] → va_P D vwCl (hW cI cS G o (q.1, q.2)) H → va_D A (hW cI cS G o (q.1, q.2)) → va_S A H0 H locs → J94 x92 → W p l e rm_L_act s m args below meth c H locs 0 0 Q (F0 m 260 ls [.int x92]) := by
      intro x92 ls H locs b93 hl hP hD hS h
      subst e96
      refine lv_istore (lv' := [(11, .int x92), (0, .ref (G 2 0)), (1, .ref o), (4, .int r1), (8, .int r5), (9, .int r6), (10, .int r7)]) hx hb dL_act_260 hl (by decide) rfl (fun ls hl => ?_)
      refine lv_iconst (v := (0 : Int32)) hx hb dL_act_262 (by decide) ?_
      refine lv_istore (lv' := [(12, .int (0 : Int32)), (11, .int x92), (0, .ref (G 2 0)), (1, .ref o), (4, .int r1), (8, .int r5), (9, .int r6), (10, .int r7)]) hx hb dL_act_263 hl (by decide) rfl (fun ls hl => ?_)
      refine lpu2 h (fun K100 : Int32 → Int32 → Prop => ∀ (x97 : Int32) (x99 : Int32) (ls : Array Slot) (H : Heap) (locs : List Loc), bz x97 → lv_has ls 13 [(0, .ref (G 2 0)), (1, .ref o), (4, .int r1), (8, .int r5), (9, .int r6), (10, .int r7), (11, .int x97), (12, .int x99)] → va_P D vwCl (hW cI cS G o (q.1, q.2)) H → va_D A (hW cI cS G o (q.1, q.2)) → va_S A H0 H locs → K100 x97 x99 → W p l e rm_L_act s m args below meth c H locs 0 0 Q (F0 m 265 ls [])) ?_ ?_ ?_
      · intro x97 x99 ls H locs b98 hl hP hD hS h
        exact h.elim
      · intro K100
        intro w101 x97 x99 ls H locs b98 hl hP hD hS h
        refine lv_iload hx hb dL_act_265 (lv_at hl 7 rfl) ?_
        refine lv_iload hx hb dL_act_267 (lv_at hl 5 rfl) ?_
        refine lv_icmp_ge (tgt := 304) hx hb dL_act_269 (by decide) (fun c102 => ?_) (fun c102 => ?_)
        · replace h := h.1 c102
          refine lv_iconst (v := (0 : Int32)) hx hb dL_act_304 (by decide) ?_
          refine lv_istore (lv' := [(12, .int (0 : Int32)), (0, .ref (G 2 0)), (1, .ref o), (4, .int r1), (8, .int r5), (9, .int r6), (10, .int r7), (11, .int x97)]) hx hb dL_act_305 hl (by decide) rfl (fun ls hl => ?_)
          refine lpu2 h (fun K105 : Int32 → (Ne × (Nat → Int32)) → Prop => ∀ (x103 : Int32) (u104 : (Ne × (Nat → Int32))) (ls : Array Slot) (H : Heap) (locs : List Loc), lv_has ls 13 [(0, .ref (G 2 0)), (1, .ref o), (4, .int r1), (8, .int r5), (9, .int r6), (11, .int x97), (12, .int x103)] → va_P D vwCl (hW cI cS G o (u104.1, u104.2)) H → va_D A (hW cI cS G o (u104.1, u104.2)) → va_S A H0 H locs → K105 x103 u104 → W p l e rm_L_act s m args below meth c H locs 0 0 Q (F0 m 307 ls [])) ?_ ?_ ?_
          · intro x103 u104 ls H locs hl hP hD hS h
            exact h.elim
          · intro K105
            intro w106 x103 u104 ls H locs hl hP hD hS h
            refine lv_iload hx hb dL_act_307 (lv_at hl 6 rfl) ?_
            refine lv_iconst (v := (4 : Int32)) hx hb dL_act_309 (by decide) ?_
            refine jn_e h (fun J107 e109 h => ?_)
            have w108 : ∀  (ls : Array Slot) (H : Heap) (locs : List Loc), lv_has ls 13 [(0, .ref (G 2 0)), (4, .int r1), (8, .int r5), (11, .int x97)] → va_P D vwCl (hW cI cS G o (u104.1, u104.2)) H → va_D A (hW cI cS G o (u104.1, u104.2)) → va_S A H0 H locs → J107 → W p l e rm_L_act s m args below meth c H locs 0 0 Q (F0 m 347 ls []) := by
              intro ls H locs hl hP hD hS h
              subst e109
              refine lv_iload hx hb dL_act_347 (lv_at hl 3 rfl) ?_
              refine lv_if_eq (tgt := 359) hx hb dL_act_349 (by decide) (fun c110 => ?_) (fun c110 => ?_)
              · replace h := h.1 c110
                refine lv_aload_n hx hb dL_act_359 rfl (lv_at hl 0 rfl) ?_
                refine lv_iload hx hb dL_act_360 (lv_at hl 1 rfl) ?_
                refine lv_iload hx hb dL_act_362 (lv_at hl 2 rfl) ?_
                refine rwVi (wr := [(o, .inl (cI, 4, .inl u104.2))]) (As := [.int r1, .int r5]) (rest := []) List.perm_append_comm F (c_X3_setKey l D cI cS cJ G u104.1 H.size r1 r5 h) (cw_L_28 hts (Nat.le_of_ble_eq_true rfl) (Nat.le_of_ble_eq_true rfl)) hK hP hD hS hA (recv (ci := 3) (k0 := 1) hK hP rfl rfl) rfl hl.1 rfl (Nat.le_of_ble_eq_true rfl) dL_act_364 ⟨(Nat.le_of_ble_eq_true rfl), (Nat.le_of_ble_eq_true rfl)⟩ (fun r111 u112 H locs h hP hD hS => ?_)
                have hP : va_P D vwCl (hW cI cS G o (u112, u104.2)) H := vP_perm List.perm_append_comm hP
                have hD : va_D A (hW cI cS G o (u112, u104.2)) := vD_perm List.perm_append_comm hD
                exact hQ h hP hD hS dL_act_367
              · replace h := h.2 c110
                refine lv_aload_n hx hb dL_act_352 rfl (lv_at hl 0 rfl) ?_
                refine rwVi (wr := [(o, .inl (cI, 4, .inl u104.2))]) (As := []) (rest := []) List.perm_append_comm F (c_X3_takeUp l D cI cS cJ G u104.1 H.size  h) (cw_L_42 hts (Nat.le_of_ble_eq_true rfl) (Nat.le_of_ble_eq_true rfl)) hK hP hD hS hA (recv (ci := 3) (k0 := 1) hK hP rfl rfl) rfl hl.1 rfl (Nat.le_of_ble_eq_true rfl) dL_act_353 ⟨(Nat.le_of_ble_eq_true rfl), (Nat.le_of_ble_eq_true rfl)⟩ (fun r113 u114 H locs h hP hD hS => ?_)
                have hP : va_P D vwCl (hW cI cS G o (u114, u104.2)) H := vP_perm List.perm_append_comm hP
                have hD : va_D A (hW cI cS G o (u114, u104.2)) := vD_perm List.perm_append_comm hD
                refine lv_goto (tgt := 367) hx hb dL_act_356 (by decide) ?_
                exact hQ h hP hD hS dL_act_367
            clear e109
            refine lv_icmp_ge (tgt := 347) hx hb dL_act_310 (by decide) (fun c115 => ?_) (fun c115 => ?_)
            · replace h := h.1 c115
              exact w108 _ _ _ (lv_sub hl [0, 2, 3, 5] rfl) hP hD hS h
            · replace h := h.2 c115
              refine lv_iload hx hb dL_act_313 (lv_at hl 5 rfl) ?_
              refine lv_if_eq (tgt := 347) hx hb dL_act_315 (by decide) (fun c116 => ?_) (fun c116 => ?_)
              · replace h := h.1 c116
                exact w108 _ _ _ (lv_sub hl [0, 2, 3, 5] rfl) hP hD hS h
              · replace h := h.2 c116
                refine lv_aload_n hx hb dL_act_318 rfl (lv_at hl 1 rfl) ?_
                refine lv_iload hx hb dL_act_319 (lv_at hl 6 rfl) ?_
                refine lv_aload_n hx hb dL_act_321 rfl (lv_at hl 1 rfl) ?_
                refine lv_iload hx hb dL_act_322 (lv_at hl 6 rfl) ?_
                refine va_iald hx hb hK.k hP 0 0 rfl rfl h.1 dL_act_324 ?_
                replace h := h.2
                refine lv_iload hx hb dL_act_325 (lv_at hl 4 rfl) ?_
                refine lv_iconst (v := (1 : Int32)) hx hb dL_act_327 (by decide) ?_
                refine lv_isub hx hb dL_act_328 ?_
                refine jn_e h (fun J118 e120 h => ?_)
                have w119 : ∀ (x117 : Int32) (ls : Array Slot) (H : Heap) (locs : List Loc), lv_has ls 13 [(0, .ref (G 2 0)), (1, .ref o), (4, .int r1), (8, .int r5), (9, .int r6), (11, .int x97), (12, .int x103)] → va_P D vwCl (hW cI cS G o (u104.1, u104.2)) H → va_D A (hW cI cS G o (u104.1, u104.2)) → va_S A H0 H locs → J118 x117 → W p l e rm_L_act s m args below meth c H locs 0 0 Q (F0 m 340 ls [.int x117, .int x103, .ref o]) := by
                  intro x117 ls H locs hl hP hD hS h
                  subst e120
                  refine va_iast hx hb hK.k hP hD hS 0 0 rfl rfl h.1 dL_act_340 (fun H locs hP hD hS => ?_)
                  replace h := h.2
                  have hP : va_P D vwCl (hW cI cS G o (u104.1, (upd u104.2 (Int32.toNatClampNeg x103) x117))) H := hP
                  have hD : va_D A (hW cI cS G o (u104.1, (upd u104.2 (Int32.toNatClampNeg x103) x117))) := hD
                  refine lv_iinc (v := (x103 + 1)) (lv' := [(12, .int (x103 + 1)), (0, .ref (G 2 0)), (1, .ref o), (4, .int r1), (8, .int r5), (9, .int r6), (11, .int x97)]) hx hb dL_act_341 hl (k := 6) rfl rfl (by decide) rfl (fun ls hl => ?_)
                  refine lv_goto (tgt := 307) hx hb dL_act_344 (by decide) ?_
                  exact w106 (x103 + 1) (u104.1, (upd u104.2 (Int32.toNatClampNeg x103) x117)) _ _ _ (lv_sub hl [1, 2, 3, 4, 5, 6, 0] rfl) hP hD hS h
                clear e120
                refine lv_icmp_ne (tgt := 336) hx hb dL_act_329 (by decide) (fun c121 => ?_) (fun c121 => ?_)
                · replace h := h.1 c121
                  refine lv_aload_n hx hb dL_act_336 rfl (lv_at hl 1 rfl) ?_
                  refine lv_iload hx hb dL_act_337 (lv_at hl 6 rfl) ?_
                  refine va_iald hx hb hK.k hP 0 0 rfl rfl h.1 dL_act_339 ?_
                  replace h := h.2
                  exact w119 (u104.2 (Int32.toNatClampNeg x103)) _ _ _ hl hP hD hS h
                · replace h := h.2 c121
                  refine lv_iconst (v := (-1 : Int32)) hx hb dL_act_332 (by decide) ?_
                  refine lv_goto (tgt := 340) hx hb dL_act_333 (by decide) ?_
                  exact w119 (-1 : Int32) _ _ _ hl hP hD hS h
          · intro K105 w106 h
            exact w106 (0 : Int32) (q.1, q.2) _ _ _ (lv_sub hl [1, 2, 3, 4, 5, 7, 0] rfl) hP hD hS h
        · replace h := h.2 c102
          refine lv_iload hx hb dL_act_272 (lv_at hl 6 rfl) ?_
          refine jn_e h (fun J124 e126 h => ?_)
          have w125 : ∀ (x122 : Int32) (ls : Array Slot) (H : Heap) (locs : List Loc), bz x122 → lv_has ls 13 [(0, .ref (G 2 0)), (1, .ref o), (4, .int r1), (8, .int r5), (9, .int r6), (10, .int r7), (12, .int x99)] → va_P D vwCl (hW cI cS G o (q.1, q.2)) H → va_D A (hW cI cS G o (q.1, q.2)) → va_S A H0 H locs → J124 x122 → W p l e rm_L_act s m args below meth c H locs 0 0 Q (F0 m 296 ls [.int x122]) := by
            intro x122 ls H locs b123 hl hP hD hS h
            subst e126
            refine lv_istore (lv' := [(11, .int x122), (0, .ref (G 2 0)), (1, .ref o), (4, .int r1), (8, .int r5), (9, .int r6), (10, .int r7), (12, .int x99)]) hx hb dL_act_296 hl (by decide) rfl (fun ls hl => ?_)
            refine lv_iinc (v := (x99 + 1)) (lv' := [(12, .int (x99 + 1)), (11, .int x122), (0, .ref (G 2 0)), (1, .ref o), (4, .int r1), (8, .int r5), (9, .int r6), (10, .int r7)]) hx hb dL_act_298 hl (k := 7) rfl rfl (by decide) rfl (fun ls hl => ?_)
            refine lv_goto (tgt := 265) hx hb dL_act_301 (by decide) ?_
            exact w101 x122 (x99 + 1) _ _ _ b123 (lv_sub hl [2, 3, 4, 5, 6, 7, 1, 0] rfl) hP hD hS h
          clear e126
          refine jn_e h (fun J127 e129 h => ?_)
          have w128 : ∀  (ls : Array Slot) (H : Heap) (locs : List Loc), lv_has ls 13 [(0, .ref (G 2 0)), (1, .ref o), (4, .int r1), (8, .int r5), (9, .int r6), (10, .int r7), (12, .int x99)] → va_P D vwCl (hW cI cS G o (q.1, q.2)) H → va_D A (hW cI cS G o (q.1, q.2)) → va_S A H0 H locs → J127 → W p l e rm_L_act s m args below meth c H locs 0 0 Q (F0 m 295 ls []) := by
            intro ls H locs hl hP hD hS h
            subst e129
            refine lv_iconst (v := (0 : Int32)) hx hb dL_act_295 (by decide) ?_
            exact w125 (0 : Int32) _ _ _ bz0 hl hP hD hS h
          clear e129
          refine lv_if_eq (tgt := 295) hx hb dL_act_274 (by decide) (fun c130 => ?_) (fun c130 => ?_)
          · replace h := h.1 c130
            exact w128 _ _ _ (lv_sub hl [0, 1, 2, 3, 4, 5, 7] rfl) hP hD hS h
          · replace h := h.2 c130
            refine lv_aload_n hx hb dL_act_277 rfl (lv_at hl 0 rfl) ?_
            refine lv_iload hx hb dL_act_278 (lv_at hl 7 rfl) ?_
            refine lv_iconst (v := (0 : Int32)) hx hb dL_act_280 (by decide) ?_
            refine roVi (As := [.int x99, .int (0 : Int32)]) (rest := []) F (c_X3_envelope l D cI cS cJ G q.1 H x99 (0 : Int32) h) (cw_L_39 hts (Nat.le_of_ble_eq_true rfl) (Nat.le_of_ble_eq_true rfl)) hK (vP_R hP) (recv (ci := 3) (k0 := 1) hK hP rfl rfl) rfl hl.1 rfl (Nat.le_of_ble_eq_true rfl) dL_act_281 ⟨(Nat.le_of_ble_eq_true rfl), (Nat.le_of_ble_eq_true rfl)⟩ (fun r131 h => ?_)
            refine lv_iload hx hb dL_act_284 (lv_at hl 4 rfl) ?_
            refine lv_iconst (v := (1 : Int32)) hx hb dL_act_286 (by decide) ?_
            refine lv_isub hx hb dL_act_287 ?_
            refine lv_icmp_eq (tgt := 295) hx hb dL_act_288 (by decide) (fun c132 => ?_) (fun c132 => ?_)
            · replace h := h.1 c132
              exact w128 _ _ _ (lv_sub hl [0, 1, 2, 3, 4, 5, 7] rfl) hP hD hS h
            · replace h := h.2 c132
              refine lv_iconst (v := (1 : Int32)) hx hb dL_act_291 (by decide) ?_
              refine lv_goto (tgt := 296) hx hb dL_act_292 (by decide) ?_
              exact w125 (1 : Int32) _ _ _ bz1 (lv_sub hl [0, 1, 2, 3, 4, 5, 7] rfl) hP hD hS h
      · intro K100 w101 h
        exact w101 x92 (0 : Int32) _ _ _ b93 (lv_sub hl [2, 3, 4, 5, 6, 7, 1, 0] rfl) hP hD hS h
    clear e96
    refine lv_if_le (tgt := 259) hx hb dL_act_252 (by decide) (fun c133 => ?_) (fun c133 => ?_)
    · replace h := h.1 c133
      refine lv_iconst (v := (0 : Int32)) hx hb dL_act_259 (by decide) ?_
      exact w95 (0 : Int32) _ _ _ bz0 (lv_sub hl [7, 8, 6, 2, 1, 0] rfl) hP hD hS h
    · replace h := h.2 c133
      refine lv_iconst (v := (1 : Int32)) hx hb dL_act_255 (by decide) ?_
      refine lv_goto (tgt := 260) hx hb dL_act_256 (by decide) ?_
      exact w95 (1 : Int32) _ _ _ bz1 (lv_sub hl [7, 8, 6, 2, 1, 0] rfl) hP hD hS h
  replace h := h.2 c91
  by_cases c134 : r8 = 7
  · replace h := h.1 c134
    refine lv_tableIn (tgt := 368) hx hb dL_act_85 (by rw [c134]; decide) (by rw [c134]; decide) (by rw [c134]; rfl) (by decide) ?_
    refine lv_aload_n hx hb dL_act_368 rfl (lv_at hl 7 rfl) ?_
    refine lv_aload_n hx hb dL_act_369 rfl (lv_at hl 8 rfl) ?_
    refine rwSi0 (As := [.ref (G 2 0), .ref o]) (rest := []) F (c_L_passes l D cI cS cJ G o (q.1, q.2) H.size  h) (cw_L_45 hts (Nat.le_of_ble_eq_true rfl) (Nat.le_of_ble_eq_true rfl)) hK hP hD hS hA rfl hl.1 rfl (Nat.le_of_ble_eq_true rfl) dL_act_370 ⟨(Nat.le_of_ble_eq_true rfl), (Nat.le_of_ble_eq_true rfl)⟩ (fun r135 u136 H locs h hP hD hS => ?_)
    exact hQ h hP hD hS dL_act_373
  replace h := h.2 c134
  by_cases c137 : r8 = 8
  · replace h := h.1 c137
    refine lv_tableIn (tgt := 368) hx hb dL_act_85 (by rw [c137]; decide) (by rw [c137]; decide) (by rw [c137]; rfl) (by decide) ?_
    refine lv_aload_n hx hb dL_act_368 rfl (lv_at hl 7 rfl) ?_
    refine lv_aload_n hx hb dL_act_369 rfl (lv_at hl 8 rfl) ?_
    refine rwSi0 (As := [.ref (G 2 0), .ref o]) (rest := []) F (c_L_passes l D cI cS cJ G o (q.1, q.2) H.size  h) (cw_L_45 hts (Nat.le_of_ble_eq_true rfl) (Nat.le_of_ble_eq_true rfl)) hK hP hD hS hA rfl hl.1 rfl (Nat.le_of_ble_eq_true rfl) dL_act_370 ⟨(Nat.le_of_ble_eq_true rfl), (Nat.le_of_ble_eq_true rfl)⟩ (fun r138 u139 H locs h hP hD hS => ?_)
    exact hQ h hP hD hS dL_act_373
  replace h := h.2 c137
  by_cases c140 : r8 = 9
  · replace h := h.1 c140
    refine lv_tableIn (tgt := 368) hx hb dL_act_85 (by rw [c140]; decide) (by rw [c140]; decide) (by rw [c140]; rfl) (by decide) ?_
    refine lv_aload_n hx hb dL_act_368 rfl (lv_at hl 7 rfl) ?_
    refine lv_aload_n hx hb dL_act_369 rfl (lv_at hl 8 rfl) ?_
    refine rwSi0 (As := [.ref (G 2 0), .ref o]) (rest := []) F (c_L_passes l D cI cS cJ G o (q.1, q.2) H.size  h) (cw_L_45 hts (Nat.le_of_ble_eq_true rfl) (Nat.le_of_ble_eq_true rfl)) hK hP hD hS hA rfl hl.1 rfl (Nat.le_of_ble_eq_true rfl) dL_act_370 ⟨(Nat.le_of_ble_eq_true rfl), (Nat.le_of_ble_eq_true rfl)⟩ (fun r141 u142 H locs h hP hD hS => ?_)
    exact hQ h hP hD hS dL_act_373
  replace h := h.2 c140
  by_cases c143 : r8 = 10
  · replace h := h.1 c143
    refine lv_tableIn (tgt := 374) hx hb dL_act_85 (by rw [c143]; decide) (by rw [c143]; decide) (by rw [c143]; rfl) (by decide) ?_
    refine lv_aload_n hx hb dL_act_374 rfl (lv_at hl 8 rfl) ?_
    refine lv_iload hx hb dL_act_375 (lv_at hl 3 rfl) ?_
    refine va_iald hx hb hK.k hP 0 0 rfl rfl h.1 dL_act_377 ?_
    replace h := h.2
    refine jn_e h (fun J144 e146 h => ?_)
    have w145 : ∀  (ls : Array Slot) (H : Heap) (locs : List Loc), lv_has ls 13 [(0, .ref (G 2 0)), (4, .int r1), (8, .int r5)] → va_P D vwCl (hW cI cS G o (q.1, q.2)) H → va_D A (hW cI cS G o (q.1, q.2)) → va_S A H0 H locs → J144 → W p l e rm_L_act s m args below meth c H locs 0 0 Q (F0 m 399 ls []) := by
      intro ls H locs hl hP hD hS h
      subst e146
      refine lv_aload_n hx hb dL_act_399 rfl (lv_at hl 0 rfl) ?_
      refine lv_iload hx hb dL_act_400 (lv_at hl 1 rfl) ?_
      refine lv_iload hx hb dL_act_402 (lv_at hl 2 rfl) ?_
      refine rwVi (wr := [(o, .inl (cI, 4, .inl q.2))]) (As := [.int r1, .int r5]) (rest := []) List.perm_append_comm F (c_X3_setKey l D cI cS cJ G q.1 H.size r1 r5 h) (cw_L_28 hts (Nat.le_of_ble_eq_true rfl) (Nat.le_of_ble_eq_true rfl)) hK hP hD hS hA (recv (ci := 3) (k0 := 1) hK hP rfl rfl) rfl hl.1 rfl (Nat.le_of_ble_eq_true rfl) dL_act_404 ⟨(Nat.le_of_ble_eq_true rfl), (Nat.le_of_ble_eq_true rfl)⟩ (fun r147 u148 H locs h hP hD hS => ?_)
      have hP : va_P D vwCl (hW cI cS G o (u148, q.2)) H := vP_perm List.perm_append_comm hP
      have hD : va_D A (hW cI cS G o (u148, q.2)) := vD_perm List.perm_append_comm hD
      exact hQ h hP hD hS dL_act_407
    clear e146
    refine lv_if_lt (tgt := 399) hx hb dL_act_378 (by decide) (fun c149 => ?_) (fun c149 => ?_)
    · replace h := h.1 c149
      exact w145 _ _ _ (lv_sub hl [7, 6, 2] rfl) hP hD hS h
    · replace h := h.2 c149
      refine lv_iload hx hb dL_act_381 (lv_at hl 0 rfl) ?_
      refine lv_bipush (v := (12 : Int32)) hx hb dL_act_383 (by decide) ?_
      refine lv_icmp_ge (tgt := 399) hx hb dL_act_385 (by decide) (fun c150 => ?_) (fun c150 => ?_)
      · replace h := h.1 c150
        exact w145 _ _ _ (lv_sub hl [7, 6, 2] rfl) hP hD hS h
      · replace h := h.2 c150
        refine lv_aload_n hx hb dL_act_388 rfl (lv_at hl 7 rfl) ?_
        refine lv_iload hx hb dL_act_389 (lv_at hl 3 rfl) ?_
        refine lv_iload hx hb dL_act_391 (lv_at hl 2 rfl) ?_
        refine rwVi (wr := [(o, .inl (cI, 4, .inl q.2))]) (As := [.int r4, .int r5]) (rest := []) List.perm_append_comm F (c_X3_answer l D cI cS cJ G q.1 H.size r4 r5 h) (cw_L_49 hts (Nat.le_of_ble_eq_true rfl) (Nat.le_of_ble_eq_true rfl)) hK hP hD hS hA (recv (ci := 3) (k0 := 1) hK hP rfl rfl) rfl hl.1 rfl (Nat.le_of_ble_eq_true rfl) dL_act_393 ⟨(Nat.le_of_ble_eq_true rfl), (Nat.le_of_ble_eq_true rfl)⟩ (fun r151 u152 H locs h hP hD hS => ?_)
        have hP : va_P D vwCl (hW cI cS G o (u152, q.2)) H := vP_perm List.perm_append_comm hP
        have hD : va_D A (hW cI cS G o (u152, q.2)) := vD_perm List.perm_append_comm hD
        refine lv_goto (tgt := 407) hx hb dL_act_396 (by decide) ?_
        exact hQ h hP hD hS dL_act_407
  replace h := h.2 c143
  by_cases c153 : r8 = 11
  · replace h := h.1 c153
    refine lv_tableIn (tgt := 374) hx hb dL_act_85 (by rw [c153]; decide) (by rw [c153]; decide) (by rw [c153]; rfl) (by decide) ?_
    refine lv_aload_n hx hb dL_act_374 rfl (lv_at hl 8 rfl) ?_
    refine lv_iload hx hb dL_act_375 (lv_at hl 3 rfl) ?_
    refine va_iald hx hb hK.k hP 0 0 rfl rfl h.1 dL_act_377 ?_
    replace h := h.2
    refine jn_e h (fun J154 e156 h => ?_)
    have w155 : ∀  (ls : Array Slot) (H : Heap) (locs : List Loc), lv_has ls 13 [(0, .ref (G 2 0)), (4, .int r1), (8, .int r5)] → va_P D vwCl (hW cI cS G o (q.1, q.2)) H → va_D A (hW cI cS G o (q.1, q.2)) → va_S A H0 H locs → J154 → W p l e rm_L_act s m args below meth c H locs 0 0 Q (F0 m 399 ls []) := by
      intro ls H locs hl hP hD hS h
      subst e156
      refine lv_aload_n hx hb dL_act_399 rfl (lv_at hl 0 rfl) ?_
      refine lv_iload hx hb dL_act_400 (lv_at hl 1 rfl) ?_
      refine lv_iload hx hb dL_act_402 (lv_at hl 2 rfl) ?_
      refine rwVi (wr := [(o, .inl (cI, 4, .inl q.2))]) (As := [.int r1, .int r5]) (rest := []) List.perm_append_comm F (c_X3_setKey l D cI cS cJ G q.1 H.size r1 r5 h) (cw_L_28 hts (Nat.le_of_ble_eq_true rfl) (Nat.le_of_ble_eq_true rfl)) hK hP hD hS hA (recv (ci := 3) (k0 := 1) hK hP rfl rfl) rfl hl.1 rfl (Nat.le_of_ble_eq_true rfl) dL_act_404 ⟨(Nat.le_of_ble_eq_true rfl), (Nat.le_of_ble_eq_true rfl)⟩ (fun r157 u158 H locs h hP hD hS => ?_)
      have hP : va_P D vwCl (hW cI cS G o (u158, q.2)) H := vP_perm List.perm_append_comm hP
      have hD : va_D A (hW cI cS G o (u158, q.2)) := vD_perm List.perm_append_comm hD
      exact hQ h hP hD hS dL_act_407
    clear e156
    refine lv_if_lt (tgt := 399) hx hb dL_act_378 (by decide) (fun c159 => ?_) (fun c159 => ?_)
    · replace h := h.1 c159
      exact w155 _ _ _ (lv_sub hl [7, 6, 2] rfl) hP hD hS h
    · replace h := h.2 c159
      refine lv_iload hx hb dL_act_381 (lv_at hl 0 rfl) ?_
      refine lv_bipush (v := (12 : Int32)) hx hb dL_act_383 (by decide) ?_
      refine lv_icmp_ge (tgt := 399) hx hb dL_act_385 (by decide) (fun c160 => ?_) (fun c160 => ?_)
      · replace h := h.1 c160
        exact w155 _ _ _ (lv_sub hl [7, 6, 2] rfl) hP hD hS h
      · replace h := h.2 c160
        refine lv_aload_n hx hb dL_act_388 rfl (lv_at hl 7 rfl) ?_
        refine lv_iload hx hb dL_act_389 (lv_at hl 3 rfl) ?_
        refine lv_iload hx hb dL_act_391 (lv_at hl 2 rfl) ?_
        refine rwVi (wr := [(o, .inl (cI, 4, .inl q.2))]) (As := [.int r4, .int r5]) (rest := []) List.perm_append_comm F (c_X3_answer l D cI cS cJ G q.1 H.size r4 r5 h) (cw_L_49 hts (Nat.le_of_ble_eq_true rfl) (Nat.le_of_ble_eq_true rfl)) hK hP hD hS hA (recv (ci := 3) (k0 := 1) hK hP rfl rfl) rfl hl.1 rfl (Nat.le_of_ble_eq_true rfl) dL_act_393 ⟨(Nat.le_of_ble_eq_true rfl), (Nat.le_of_ble_eq_true rfl)⟩ (fun r161 u162 H locs h hP hD hS => ?_)
        have hP : va_P D vwCl (hW cI cS G o (u162, q.2)) H := vP_perm List.perm_append_comm hP
        have hD : va_D A (hW cI cS G o (u162, q.2)) := vD_perm List.perm_append_comm hD
        refine lv_goto (tgt := 407) hx hb dL_act_396 (by decide) ?_
        exact hQ h hP hD hS dL_act_407
  replace h := h.2 c153
  refine lv_tableOut (tgt := 408) hx hb dL_act_85 (by have := ne_toInt (k := 0) c9 rfl; have := ne_toInt (k := 1) c20 rfl; have := ne_toInt (k := 2) c31 rfl; have := ne_toInt (k := 3) c34 rfl; have := ne_toInt (k := 4) c53 rfl; have := ne_toInt (k := 5) c72 rfl; have := ne_toInt (k := 6) c91 rfl; have := ne_toInt (k := 7) c134 rfl; have := ne_toInt (k := 8) c137 rfl; have := ne_toInt (k := 9) c140 rfl; have := ne_toInt (k := 10) c143 rfl; have := ne_toInt (k := 11) c153 rfl; omega) (by decide) ?_
  refine lv_iload hx hb dL_act_408 (lv_at hl 1 rfl) ?_
  refine jn_e h (fun J163 e165 h => ?_)
  have w164 : ∀  (ls : Array Slot) (H : Heap) (locs : List Loc), lv_has ls 13 [(0, .ref (G 2 0)), (4, .int r1), (8, .int r5)] → va_P D vwCl (hW cI cS G o (q.1, q.2)) H → va_D A (hW cI cS G o (q.1, q.2)) → va_S A H0 H locs → J163 → W p l e rm_L_act s m args below meth c H locs 0 0 Q (F0 m 435 ls []) := by
    intro ls H locs hl hP hD hS h
    subst e165
    refine lv_aload_n hx hb dL_act_435 rfl (lv_at hl 0 rfl) ?_
    refine lv_iload hx hb dL_act_436 (lv_at hl 1 rfl) ?_
    refine lv_iload hx hb dL_act_438 (lv_at hl 2 rfl) ?_
    refine rwVi (wr := [(o, .inl (cI, 4, .inl q.2))]) (As := [.int r1, .int r5]) (rest := []) List.perm_append_comm F (c_X3_setKey l D cI cS cJ G q.1 H.size r1 r5 h) (cw_L_28 hts (Nat.le_of_ble_eq_true rfl) (Nat.le_of_ble_eq_true rfl)) hK hP hD hS hA (recv (ci := 3) (k0 := 1) hK hP rfl rfl) rfl hl.1 rfl (Nat.le_of_ble_eq_true rfl) dL_act_440 ⟨(Nat.le_of_ble_eq_true rfl), (Nat.le_of_ble_eq_true rfl)⟩ (fun r166 u167 H locs h hP hD hS => ?_)
    have hP : va_P D vwCl (hW cI cS G o (u167, q.2)) H := vP_perm List.perm_append_comm hP
    have hD : va_D A (hW cI cS G o (u167, q.2)) := vD_perm List.perm_append_comm hD
    exact hQ h hP hD hS dL_act_443
  clear e165
  refine lv_if_le (tgt := 435) hx hb dL_act_410 (by decide) (fun c168 => ?_) (fun c168 => ?_)
  · replace h := h.1 c168
    exact w164 _ _ _ (lv_sub hl [7, 6, 2] rfl) hP hD hS h
  · replace h := h.2 c168
    refine lv_iload hx hb dL_act_413 (lv_at hl 0 rfl) ?_
    refine lv_bipush (v := (12 : Int32)) hx hb dL_act_415 (by decide) ?_
    refine lv_icmp_ge (tgt := 435) hx hb dL_act_417 (by decide) (fun c169 => ?_) (fun c169 => ?_)
    · replace h := h.1 c169
      exact w164 _ _ _ (lv_sub hl [7, 6, 2] rfl) hP hD hS h
    · replace h := h.2 c169
      refine lv_aload_n hx hb dL_act_420 rfl (lv_at hl 7 rfl) ?_
      refine lv_iload_n hx hb dL_act_421 rfl (lv_at hl 10 rfl) ?_
      refine lv_iload hx hb dL_act_422 (lv_at hl 1 rfl) ?_
      refine roSi (As := [.int p3, .int r6]) (rest := [.ref (G 2 0)]) F (c_L_up l D cI cS cJ H p3 r6 h) (cw_L_9 hts (Nat.le_of_ble_eq_true rfl) (Nat.le_of_ble_eq_true rfl)) hK vP_nil rfl hl.1 rfl (Nat.le_of_ble_eq_true rfl) dL_act_424 ⟨(Nat.le_of_ble_eq_true rfl), (Nat.le_of_ble_eq_true rfl)⟩ (fun r170 h => ?_)
      refine lv_iload hx hb dL_act_427 (lv_at hl 2 rfl) ?_
      refine rwVi (wr := [(o, .inl (cI, 4, .inl q.2))]) (As := [.int r170, .int r5]) (rest := []) List.perm_append_comm F (c_X3_send l D cI cS cJ G q.1 H.size r170 r5 h) (cw_L_52 hts (Nat.le_of_ble_eq_true rfl) (Nat.le_of_ble_eq_true rfl)) hK hP hD hS hA (recv (ci := 3) (k0 := 1) hK hP rfl rfl) rfl hl.1 rfl (Nat.le_of_ble_eq_true rfl) dL_act_429 ⟨(Nat.le_of_ble_eq_true rfl), (Nat.le_of_ble_eq_true rfl)⟩ (fun r171 u172 H locs h hP hD hS => ?_)
      have hP : va_P D vwCl (hW cI cS G o (u172, q.2)) H := vP_perm List.perm_append_comm hP
      have hD : va_D A (hW cI cS G o (u172, q.2)) := vD_perm List.perm_append_comm hD
      refine lv_goto (tgt := 443) hx hb dL_act_432 (by decide) ?_
      exact hQ h hP hD hS dL_act_443

def wp_L_isCovered (u : Ne) (p1 : Int32) (p2 : Int32) (post : Int32 → Prop) : Prop :=
  wp_X3_cover u p1 p2 (fun r1 => wp_X3_uncover u p1 p2 (fun r2 => (r1 < 0 → post (0 : Int32)) ∧ (¬ r1 < 0 → ((9999 : Int32) < r1 → post (0 : Int32)) ∧ (¬ (9999 : Int32) < r1 → (r2 < 0 → post (0 : Int32)) ∧ (¬ r2 < 0 → ((9999 : Int32) < r2 → post (0 : Int32)) ∧ (¬ (9999 : Int32) < r2 → wp_X3_uncover u p1 r1 (fun r7 => (¬ r7 = p2 → post (0 : Int32)) ∧ (r7 = p2 → wp_X3_cover u p1 r2 (fun r9 => (¬ r9 = p2 → post (0 : Int32)) ∧ (r9 = p2 → post (1 : Int32)))))))))))
set_option maxHeartbeats 4000000 in
set_option maxRecDepth 100000 in
theorem c_L_isCovered (l : Launch) (D : va_G) (cI cS cJ : ClassId) (G : Nat → Nat → Nat) (u : Ne) (H0 : Heap) (p1 : Int32) (p2 : Int32) {post : Int32 → Prop} (h : wp_L_isCovered u p1 p2 post) : Met l yL_isCovered (wsA yL_isCovered cL_isCovered 5 (some .boolean)) rm_L_isCovered (va_Pc [.ref (G 2 0), .int p1, .int p2] (roP D (tysA cI cS cJ) (neW cI cS G u) H0)) (va_Qi (fun r (_ : Unit) => bz r ∧ post r) (fun _ t => t.heap = H0) nF) 0 0 nF := by
  refine mkROz (by decide +kernel) (Nat.le_of_ble_eq_true rfl) (fun {p e s m args below meth c Q ls} hx hb F hts hown hK hP hl hQ => ?_)
  have hown : s.vm.findClass RL = some m.cls := hown
  have F : CallFix p m c cL_isCovered 5 s args wsT RL := F
  have hl : lv_has ls 5 [(0, .ref (G 2 0)), (1, .int p1), (2, .int p2)] := hl
  unfold wp_L_isCovered at h
  refine lv_aload_n hx hb dL_isCovered_0 rfl (lv_at hl 0 rfl) ?_
  refine lv_iload_n hx hb dL_isCovered_1 rfl (lv_at hl 1 rfl) ?_
  refine lv_iload_n hx hb dL_isCovered_2 rfl (lv_at hl 2 rfl) ?_
  refine roVi (As := [.int p1, .int p2]) (rest := []) F (c_X3_cover l D cI cS cJ G u H0 p1 p2 h) (cw_L_104 hts (Nat.le_of_ble_eq_true rfl) (Nat.le_of_ble_eq_true rfl)) hK hP (recv (ci := 3) (k0 := 0) hK hP rfl rfl) rfl hl.1 rfl (Nat.le_of_ble_eq_true rfl) dL_isCovered_3 ⟨(Nat.le_of_ble_eq_true rfl), (Nat.le_of_ble_eq_true rfl)⟩ (fun r1 h => ?_)
  refine lv_istore_n (lv' := [(3, .int r1), (0, .ref (G 2 0)), (1, .int p1), (2, .int p2)]) hx hb dL_isCovered_6 rfl hl (by decide) rfl (fun ls hl => ?_)
  refine lv_aload_n hx hb dL_isCovered_7 rfl (lv_at hl 1 rfl) ?_
  refine lv_iload_n hx hb dL_isCovered_8 rfl (lv_at hl 2 rfl) ?_
  refine lv_iload_n hx hb dL_isCovered_9 rfl (lv_at hl 3 rfl) ?_
  refine roVi (As := [.int p1, .int p2]) (rest := []) F (c_X3_uncover l D cI cS cJ G u H0 p1 p2 h) (cw_L_107 hts (Nat.le_of_ble_eq_true rfl) (Nat.le_of_ble_eq_true rfl)) hK hP (recv (ci := 3) (k0 := 0) hK hP rfl rfl) rfl hl.1 rfl (Nat.le_of_ble_eq_true rfl) dL_isCovered_10 ⟨(Nat.le_of_ble_eq_true rfl), (Nat.le_of_ble_eq_true rfl)⟩ (fun r2 h => ?_)
  refine lv_istore (lv' := [(4, .int r2), (3, .int r1), (0, .ref (G 2 0)), (1, .int p1), (2, .int p2)]) hx hb dL_isCovered_13 hl (by decide) rfl (fun ls hl => ?_)
  refine lv_iload_n hx hb dL_isCovered_15 rfl (lv_at hl 1 rfl) ?_
  refine lv_if_lt (tgt := 64) hx hb dL_isCovered_16 (by decide) (fun c3 => ?_) (fun c3 => ?_)
  · replace h := h.1 c3
    refine lv_iconst (v := (0 : Int32)) hx hb dL_isCovered_64 (by decide) ?_
    exact hQ bz0 h dL_isCovered_65
  · replace h := h.2 c3
    refine lv_iload_n hx hb dL_isCovered_19 rfl (lv_at hl 1 rfl) ?_
    refine lv_sipush (v := (9999 : Int32)) hx hb dL_isCovered_20 (by decide) ?_
    refine lv_icmp_gt (tgt := 64) hx hb dL_isCovered_23 (by decide) (fun c4 => ?_) (fun c4 => ?_)
    · replace h := h.1 c4
      refine lv_iconst (v := (0 : Int32)) hx hb dL_isCovered_64 (by decide) ?_
      exact hQ bz0 h dL_isCovered_65
    · replace h := h.2 c4
      refine lv_iload hx hb dL_isCovered_26 (lv_at hl 0 rfl) ?_
      refine lv_if_lt (tgt := 64) hx hb dL_isCovered_28 (by decide) (fun c5 => ?_) (fun c5 => ?_)
      · replace h := h.1 c5
        refine lv_iconst (v := (0 : Int32)) hx hb dL_isCovered_64 (by decide) ?_
        exact hQ bz0 h dL_isCovered_65
      · replace h := h.2 c5
        refine lv_iload hx hb dL_isCovered_31 (lv_at hl 0 rfl) ?_
        refine lv_sipush (v := (9999 : Int32)) hx hb dL_isCovered_33 (by decide) ?_
        refine lv_icmp_gt (tgt := 64) hx hb dL_isCovered_36 (by decide) (fun c6 => ?_) (fun c6 => ?_)
        · replace h := h.1 c6
          refine lv_iconst (v := (0 : Int32)) hx hb dL_isCovered_64 (by decide) ?_
          exact hQ bz0 h dL_isCovered_65
        · replace h := h.2 c6
          refine lv_aload_n hx hb dL_isCovered_39 rfl (lv_at hl 2 rfl) ?_
          refine lv_iload_n hx hb dL_isCovered_40 rfl (lv_at hl 3 rfl) ?_
          refine lv_iload_n hx hb dL_isCovered_41 rfl (lv_at hl 1 rfl) ?_
          refine roVi (As := [.int p1, .int r1]) (rest := []) F (c_X3_uncover l D cI cS cJ G u H0 p1 r1 h) (cw_L_107 hts (Nat.le_of_ble_eq_true rfl) (Nat.le_of_ble_eq_true rfl)) hK hP (recv (ci := 3) (k0 := 0) hK hP rfl rfl) rfl hl.1 rfl (Nat.le_of_ble_eq_true rfl) dL_isCovered_42 ⟨(Nat.le_of_ble_eq_true rfl), (Nat.le_of_ble_eq_true rfl)⟩ (fun r7 h => ?_)
          refine lv_iload_n hx hb dL_isCovered_45 rfl (lv_at hl 4 rfl) ?_
          refine lv_icmp_ne (tgt := 64) hx hb dL_isCovered_46 (by decide) (fun c8 => ?_) (fun c8 => ?_)
          · replace h := h.1 c8
            refine lv_iconst (v := (0 : Int32)) hx hb dL_isCovered_64 (by decide) ?_
            exact hQ bz0 h dL_isCovered_65
          · replace h := h.2 c8
            refine lv_aload_n hx hb dL_isCovered_49 rfl (lv_at hl 2 rfl) ?_
            refine lv_iload_n hx hb dL_isCovered_50 rfl (lv_at hl 3 rfl) ?_
            refine lv_iload hx hb dL_isCovered_51 (lv_at hl 0 rfl) ?_
            refine roVi (As := [.int p1, .int r2]) (rest := []) F (c_X3_cover l D cI cS cJ G u H0 p1 r2 h) (cw_L_104 hts (Nat.le_of_ble_eq_true rfl) (Nat.le_of_ble_eq_true rfl)) hK hP (recv (ci := 3) (k0 := 0) hK hP rfl rfl) rfl hl.1 rfl (Nat.le_of_ble_eq_true rfl) dL_isCovered_53 ⟨(Nat.le_of_ble_eq_true rfl), (Nat.le_of_ble_eq_true rfl)⟩ (fun r9 h => ?_)
            refine lv_iload_n hx hb dL_isCovered_56 rfl (lv_at hl 4 rfl) ?_
            refine lv_icmp_ne (tgt := 64) hx hb dL_isCovered_57 (by decide) (fun c10 => ?_) (fun c10 => ?_)
            · replace h := h.1 c10
              refine lv_iconst (v := (0 : Int32)) hx hb dL_isCovered_64 (by decide) ?_
              exact hQ bz0 h dL_isCovered_65
            · replace h := h.2 c10
              refine lv_iconst (v := (1 : Int32)) hx hb dL_isCovered_60 (by decide) ?_
              refine lv_goto (tgt := 65) hx hb dL_isCovered_61 (by decide) ?_
              exact hQ bz1 h dL_isCovered_65
