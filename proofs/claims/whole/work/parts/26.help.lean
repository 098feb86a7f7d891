/-! the law's helpers -/
/-- the object beside the row that its answer is laid into -/
def hW (cI cS cJ : ClassId) (G : Nat → Nat → Nat) (o : Nat) (q : Ne × (Nat → Int64)) : va_W := [(o, .inl (cJ, 1, .inr (.inl q.2)))] ++ neW cI cS G q.1
theorem in01 : vp_in (0 : Int32) 1 := by rw [← nI_0]; exact vp_in_nI (by decide) (by decide)
theorem mkH {l : Launch} {y : MethodName} {cc : ByteArray} {nL : Nat} {rm : Room} {hh : List (Nat × Nat × Nat × Nat)} {D : va_G} {T : List (ClassId × FieldType)} {S : Type} {wc : va_W} {wf : S → va_W} {sz mc ms : Nat} {av : List Value} {post : Int32 → S → Prop} (hy : plainName y.cls = true) (hyc : y.cls = RL) (hnl : (lg_sl av).length ≤ nL)
    (body : ∀ {p : Program} {e : Env} {s : State} {m : MethodId} {args : Array Value} {below : List Frame} {meth : Method} {c : Code} {Q : State → Prop} {ls : Array Slot} {A : Nat → Prop} {H : Heap} {locs : List Loc}, p.tables.exec = Jvm.exec → c.code = cc → CallFix p m c cc nL s args wsT RL → (∀ w ∈ wsT, w.before args s = true) → s.vm.findClass RL = some m.cls → c.exceptionTable.toList = tableOf hh → KK D T s → XV s → XH A s s.heap → va_P D vwCl wc H → va_D A wc → va_S A s.heap H locs → (∀ q, s.heap.size ≤ q → A q) → lv_has ls nL (lv_args 0 av) →
      (∀ {v : Int32} {u : S} {H : Heap} {locs : List Loc} {pc : Nat} {ls : Array Slot}, post v u → va_P D vwCl (wf u) H → va_D A (wf u) → va_S A s.heap H locs → decode cc pc = .ok (.ireturn, 1) → W p l e rm s m args below meth c H locs mc ms Q (F0 m pc ls [.int v])) → W p l e rm s m args below meth c H locs 0 0 Q (F0 m 0 ls [])) :
    Met l y (Cond.codeWith y cc nL (some .int) hh :: wsT) rm (va_Pc av (rwX D T wc sz)) (va_Qi post (xQ D wf wc sz) (va_A wc sz)) mc ms (va_A wc sz) := by
  refine va_MetW (cc := cc) (maxL := nL) (ret := some .int) (hh := hh) hy rfl ?_
  intro p e s m args below meth c s₁ B hml hv
  obtain ⟨rfl, ⟨hsz, hP, hK, hD0⟩, hV, hH⟩ := hv
  have hts : ∀ w ∈ wsT, w.before av.toArray s = true := fun w h => atoms_spec (ws := Cond.codeWith y cc nL (some .int) hh :: wsT) B.pre w (List.mem_cons_of_mem _ h)
  have hT : c.exceptionTable.toList = tableOf hh := vx_table (x := y) B (atoms_spec (ws := Cond.codeWith y cc nL (some .int) hh :: wsT) B.pre _ List.mem_cons_self)
  have hl := lv_entry av (n := nL) hnl
  have hown : s.vm.findClass RL = some m.cls := by rw [← hyc]; exact findClass_of_methodNamed B.named
  rw [lg_entry_eq]
  subst hsz
  refine body (A := va_A wc s.heap.size) (H := s.heap) (locs := []) B.exec B.bytes ⟨B.exec, B.bytes, hml, hown, hts⟩ hts hown hT hK hV hH hP hD0.self va_S.rf (fun q h => Or.inr h) hl (fun {v u H locs pc ls} hpv hP1 hD1 hS hd => ?_)
  exact W.iret B.exec B.bytes B.returns (fun t ht hW => ⟨⟨v, u, rfl, hpv, by rw [ht]; exact hP1, hD1⟩, hS.F ht⟩) hS.2.2 hd B.notSynchronized
abbrev rm_L_setOpen : Room := { frames := 8, cells := 1, slots := 6, locals := 147 }
abbrev rm_L_setKey : Room := { frames := 8, cells := 1, slots := 6, locals := 147 }
abbrev rm_L_isOpen : Room := { frames := 8, cells := 1, slots := 6, locals := 131 }
abbrev rm_L_key : Room := { frames := 8, cells := 1, slots := 6, locals := 131 }
abbrev rm_L_cover : Room := { frames := 8, cells := 1, slots := 6, locals := 132 }
abbrev rm_L_uncover : Room := { frames := 8, cells := 1, slots := 6, locals := 132 }
abbrev rm_L_lay : Room := { frames := 8, cells := 1, slots := 6, locals := 148 }
abbrev rm_L_takeUp : Room := { frames := 7, cells := 1, slots := 6, locals := 144 }
abbrev rm_L_inn : Room := { frames := 8, cells := 1, slots := 6, locals := 132 }
abbrev rm_L_hall : Room := { frames := 8, cells := 1, slots := 6, locals := 131 }
abbrev rm_L_stands : Room := { frames := 8, cells := 1, slots := 6, locals := 131 }
abbrev rm_L_see : Room := { frames := 8, cells := 2, slots := 12, locals := 133 }
abbrev rm_L_known : Room := { frames := 8, cells := 1, slots := 6, locals := 135 }
abbrev rm_L_send : Room := { frames := 8, cells := 1, slots := 6, locals := 146 }
abbrev rm_L_answer : Room := { frames := 8, cells := 1, slots := 6, locals := 146 }
abbrev rm_L_pass : Room := { frames := 7, cells := 1, slots := 6, locals := 145 }
abbrev rm_L_envelope : Room := { frames := 8, cells := 1, slots := 6, locals := 132 }
abbrev rm_L_letter : Room := { frames := 8, cells := 1, slots := 6, locals := 131 }
abbrev rm_L_count : Room := { frames := 8, cells := 1, slots := 6, locals := 131 }
abbrev rm_L_lostIfClosed : Room := { frames := 8, cells := 1, slots := 6, locals := 131 }
abbrev rm_L_ticksTo : Room := { frames := 8, cells := 1, slots := 6, locals := 131 }
abbrev rm_L_leastWork : Room := { frames := 8, cells := 1, slots := 6, locals := 134 }
abbrev rm_L_append : Room := { frames := 7, cells := 1, slots := 6, locals := 111 }
abbrev rm_L_run : Room := { frames := 7, cells := 1, slots := 6, locals := 164 }
abbrev rm_L_undo : Room := { frames := 7, cells := 1, slots := 6, locals := 144 }
theorem q_346 : Cond.classLink RL 13 (exE 1) ∈ wsT := tw 346 (by decide +kernel) rfl
theorem q_347 : Cond.methodLink RL 7 yX3_setOpen ∈ wsT := tw 347 (by decide +kernel) rfl
theorem q_348 : Cond.instanceMethod yX3_setOpen ∈ wsT := tw 348 (by decide +kernel) rfl
theorem q_349 : Cond.selects RX3 yX3_setOpen yX3_setOpen ∈ wsT := tw 349 (by decide +kernel) rfl
theorem q_350 : Cond.code yX3_setOpen cX3_setOpen 4 (some .boolean) ∈ wsT := tw 350 (by decide +kernel) rfl
theorem q_487 : Cond.classLink RL 19 (exE 2) ∈ wsT := tw 487 (by decide +kernel) rfl
theorem q_488 : Cond.methodLink RL 15 yX3_setKey ∈ wsT := tw 488 (by decide +kernel) rfl
theorem q_489 : Cond.instanceMethod yX3_setKey ∈ wsT := tw 489 (by decide +kernel) rfl
theorem q_490 : Cond.selects RX3 yX3_setKey yX3_setKey ∈ wsT := tw 490 (by decide +kernel) rfl
theorem q_491 : Cond.code yX3_setKey cX3_setKey 4 (some .int) ∈ wsT := tw 491 (by decide +kernel) rfl
theorem q_504 : Cond.methodLink RL 21 yX3_isOpen ∈ wsT := tw 504 (by decide +kernel) rfl
theorem q_505 : Cond.instanceMethod yX3_isOpen ∈ wsT := tw 505 (by decide +kernel) rfl
theorem q_506 : Cond.selects RX3 yX3_isOpen yX3_isOpen ∈ wsT := tw 506 (by decide +kernel) rfl
theorem q_507 : Cond.code yX3_isOpen cX3_isOpen 2 (some .boolean) ∈ wsT := tw 507 (by decide +kernel) rfl
theorem q_511 : Cond.methodLink RL 25 yX3_key ∈ wsT := tw 511 (by decide +kernel) rfl
theorem q_512 : Cond.instanceMethod yX3_key ∈ wsT := tw 512 (by decide +kernel) rfl
theorem q_513 : Cond.selects RX3 yX3_key yX3_key ∈ wsT := tw 513 (by decide +kernel) rfl
theorem q_514 : Cond.code yX3_key cX3_key 2 (some .int) ∈ wsT := tw 514 (by decide +kernel) rfl
theorem q_518 : Cond.methodLink RL 29 yX3_cover ∈ wsT := tw 518 (by decide +kernel) rfl
theorem q_519 : Cond.instanceMethod yX3_cover ∈ wsT := tw 519 (by decide +kernel) rfl
theorem q_520 : Cond.selects RX3 yX3_cover yX3_cover ∈ wsT := tw 520 (by decide +kernel) rfl
theorem q_521 : Cond.code yX3_cover cX3_cover 3 (some .int) ∈ wsT := tw 521 (by decide +kernel) rfl
theorem q_531 : Cond.methodLink RL 32 yX3_uncover ∈ wsT := tw 531 (by decide +kernel) rfl
theorem q_532 : Cond.instanceMethod yX3_uncover ∈ wsT := tw 532 (by decide +kernel) rfl
theorem q_533 : Cond.selects RX3 yX3_uncover yX3_uncover ∈ wsT := tw 533 (by decide +kernel) rfl
theorem q_534 : Cond.code yX3_uncover cX3_uncover 3 (some .int) ∈ wsT := tw 534 (by decide +kernel) rfl
theorem q_541 : Cond.classLink RL 39 (exE 3) ∈ wsT := tw 541 (by decide +kernel) rfl
theorem q_542 : Cond.methodLink RL 35 yX3_lay ∈ wsT := tw 542 (by decide +kernel) rfl
theorem q_543 : Cond.instanceMethod yX3_lay ∈ wsT := tw 543 (by decide +kernel) rfl
theorem q_544 : Cond.selects RX3 yX3_lay yX3_lay ∈ wsT := tw 544 (by decide +kernel) rfl
theorem q_545 : Cond.code yX3_lay cX3_lay 5 (some .int) ∈ wsT := tw 545 (by decide +kernel) rfl
theorem q_565 : Cond.methodLink RL 41 yX3_takeUp ∈ wsT := tw 565 (by decide +kernel) rfl
theorem q_566 : Cond.instanceMethod yX3_takeUp ∈ wsT := tw 566 (by decide +kernel) rfl
theorem q_567 : Cond.selects RX3 yX3_takeUp yX3_takeUp ∈ wsT := tw 567 (by decide +kernel) rfl
theorem q_568 : Cond.code yX3_takeUp cX3_takeUp 1 (some .int) ∈ wsT := tw 568 (by decide +kernel) rfl
theorem q_581 : Cond.methodLink RL 45 yX3_inn ∈ wsT := tw 581 (by decide +kernel) rfl
theorem q_582 : Cond.instanceMethod yX3_inn ∈ wsT := tw 582 (by decide +kernel) rfl
theorem q_583 : Cond.selects RX3 yX3_inn yX3_inn ∈ wsT := tw 583 (by decide +kernel) rfl
theorem q_584 : Cond.code yX3_inn cX3_inn 3 (some .int) ∈ wsT := tw 584 (by decide +kernel) rfl
theorem q_592 : Cond.methodLink RL 48 yX3_hall ∈ wsT := tw 592 (by decide +kernel) rfl
theorem q_593 : Cond.instanceMethod yX3_hall ∈ wsT := tw 593 (by decide +kernel) rfl
theorem q_594 : Cond.selects RX3 yX3_hall yX3_hall ∈ wsT := tw 594 (by decide +kernel) rfl
theorem q_595 : Cond.code yX3_hall cX3_hall 2 (some .int) ∈ wsT := tw 595 (by decide +kernel) rfl
theorem q_599 : Cond.methodLink RL 51 yX3_stands ∈ wsT := tw 599 (by decide +kernel) rfl
theorem q_600 : Cond.instanceMethod yX3_stands ∈ wsT := tw 600 (by decide +kernel) rfl
theorem q_601 : Cond.selects RX3 yX3_stands yX3_stands ∈ wsT := tw 601 (by decide +kernel) rfl
theorem q_602 : Cond.code yX3_stands cX3_stands 2 (some .boolean) ∈ wsT := tw 602 (by decide +kernel) rfl
theorem q_606 : Cond.methodLink RL 54 yX3_see ∈ wsT := tw 606 (by decide +kernel) rfl
theorem q_607 : Cond.instanceMethod yX3_see ∈ wsT := tw 607 (by decide +kernel) rfl
theorem q_608 : Cond.selects RX3 yX3_see yX3_see ∈ wsT := tw 608 (by decide +kernel) rfl
theorem q_609 : Cond.code yX3_see cX3_see 4 (some .int) ∈ wsT := tw 609 (by decide +kernel) rfl
theorem q_614 : Cond.methodLink RL 58 yX3_known ∈ wsT := tw 614 (by decide +kernel) rfl
theorem q_615 : Cond.instanceMethod yX3_known ∈ wsT := tw 615 (by decide +kernel) rfl
theorem q_616 : Cond.selects RX3 yX3_known yX3_known ∈ wsT := tw 616 (by decide +kernel) rfl
theorem q_617 : Cond.code yX3_known cX3_known 2 (some .int) ∈ wsT := tw 617 (by decide +kernel) rfl
theorem q_621 : Cond.methodLink RL 61 yX3_send ∈ wsT := tw 621 (by decide +kernel) rfl
theorem q_622 : Cond.instanceMethod yX3_send ∈ wsT := tw 622 (by decide +kernel) rfl
theorem q_623 : Cond.selects RX3 yX3_send yX3_send ∈ wsT := tw 623 (by decide +kernel) rfl
theorem q_624 : Cond.code yX3_send cX3_send 3 (some .int) ∈ wsT := tw 624 (by decide +kernel) rfl
theorem q_653 : Cond.methodLink RL 64 yX3_answer ∈ wsT := tw 653 (by decide +kernel) rfl
theorem q_654 : Cond.instanceMethod yX3_answer ∈ wsT := tw 654 (by decide +kernel) rfl
theorem q_655 : Cond.selects RX3 yX3_answer yX3_answer ∈ wsT := tw 655 (by decide +kernel) rfl
theorem q_656 : Cond.code yX3_answer cX3_answer 3 (some .int) ∈ wsT := tw 656 (by decide +kernel) rfl
theorem q_668 : Cond.methodLink RL 67 yX3_pass ∈ wsT := tw 668 (by decide +kernel) rfl
theorem q_669 : Cond.instanceMethod yX3_pass ∈ wsT := tw 669 (by decide +kernel) rfl
theorem q_670 : Cond.selects RX3 yX3_pass yX3_pass ∈ wsT := tw 670 (by decide +kernel) rfl
theorem q_671 : Cond.code yX3_pass cX3_pass 2 (some .int) ∈ wsT := tw 671 (by decide +kernel) rfl
theorem q_701 : Cond.methodLink RL 70 yX3_envelope ∈ wsT := tw 701 (by decide +kernel) rfl
theorem q_702 : Cond.instanceMethod yX3_envelope ∈ wsT := tw 702 (by decide +kernel) rfl
theorem q_703 : Cond.selects RX3 yX3_envelope yX3_envelope ∈ wsT := tw 703 (by decide +kernel) rfl
theorem q_704 : Cond.code yX3_envelope cX3_envelope 3 (some .int) ∈ wsT := tw 704 (by decide +kernel) rfl
theorem q_712 : Cond.methodLink RL 73 yX3_letter ∈ wsT := tw 712 (by decide +kernel) rfl
theorem q_713 : Cond.instanceMethod yX3_letter ∈ wsT := tw 713 (by decide +kernel) rfl
theorem q_714 : Cond.selects RX3 yX3_letter yX3_letter ∈ wsT := tw 714 (by decide +kernel) rfl
theorem q_715 : Cond.code yX3_letter cX3_letter 2 (some .int) ∈ wsT := tw 715 (by decide +kernel) rfl
theorem q_719 : Cond.methodLink RL 76 yX3_count ∈ wsT := tw 719 (by decide +kernel) rfl
theorem q_720 : Cond.instanceMethod yX3_count ∈ wsT := tw 720 (by decide +kernel) rfl
theorem q_721 : Cond.selects RX3 yX3_count yX3_count ∈ wsT := tw 721 (by decide +kernel) rfl
theorem q_722 : Cond.code yX3_count cX3_count 2 (some .int) ∈ wsT := tw 722 (by decide +kernel) rfl
theorem q_726 : Cond.methodLink RL 79 yX3_lostIfClosed ∈ wsT := tw 726 (by decide +kernel) rfl
theorem q_727 : Cond.instanceMethod yX3_lostIfClosed ∈ wsT := tw 727 (by decide +kernel) rfl
theorem q_728 : Cond.selects RX3 yX3_lostIfClosed yX3_lostIfClosed ∈ wsT := tw 728 (by decide +kernel) rfl
theorem q_729 : Cond.code yX3_lostIfClosed cX3_lostIfClosed 2 (some .int) ∈ wsT := tw 729 (by decide +kernel) rfl
theorem q_733 : Cond.methodLink RL 82 yX3_ticksTo ∈ wsT := tw 733 (by decide +kernel) rfl
theorem q_734 : Cond.instanceMethod yX3_ticksTo ∈ wsT := tw 734 (by decide +kernel) rfl
theorem q_735 : Cond.selects RX3 yX3_ticksTo yX3_ticksTo ∈ wsT := tw 735 (by decide +kernel) rfl
theorem q_736 : Cond.code yX3_ticksTo cX3_ticksTo 2 (some .int) ∈ wsT := tw 736 (by decide +kernel) rfl
theorem q_740 : Cond.methodLink RL 85 yX3_leastWork ∈ wsT := tw 740 (by decide +kernel) rfl
theorem q_741 : Cond.instanceMethod yX3_leastWork ∈ wsT := tw 741 (by decide +kernel) rfl
theorem q_742 : Cond.selects RX3 yX3_leastWork yX3_leastWork ∈ wsT := tw 742 (by decide +kernel) rfl
theorem q_743 : Cond.code yX3_leastWork cX3_leastWork 2 (some .int) ∈ wsT := tw 743 (by decide +kernel) rfl
theorem q_747 : Cond.methodLink RL 88 yX3_append ∈ wsT := tw 747 (by decide +kernel) rfl
theorem q_748 : Cond.instanceMethod yX3_append ∈ wsT := tw 748 (by decide +kernel) rfl
theorem q_749 : Cond.selects RX3 yX3_append yX3_append ∈ wsT := tw 749 (by decide +kernel) rfl
theorem q_750 : Cond.code yX3_append cX3_append 2 (some .int) ∈ wsT := tw 750 (by decide +kernel) rfl
theorem q_761 : Cond.methodLink RL 91 yX3_run ∈ wsT := tw 761 (by decide +kernel) rfl
theorem q_762 : Cond.instanceMethod yX3_run ∈ wsT := tw 762 (by decide +kernel) rfl
theorem q_763 : Cond.selects RX3 yX3_run yX3_run ∈ wsT := tw 763 (by decide +kernel) rfl
theorem q_764 : Cond.code yX3_run cX3_run 4 (some .int) ∈ wsT := tw 764 (by decide +kernel) rfl
theorem q_804 : Cond.methodLink RL 94 yX3_undo ∈ wsT := tw 804 (by decide +kernel) rfl
theorem q_805 : Cond.instanceMethod yX3_undo ∈ wsT := tw 805 (by decide +kernel) rfl
theorem q_806 : Cond.selects RX3 yX3_undo yX3_undo ∈ wsT := tw 806 (by decide +kernel) rfl
theorem q_807 : Cond.code yX3_undo cX3_undo 1 (some .int) ∈ wsT := tw 807 (by decide +kernel) rfl
theorem cw_L_7 {R : Room} {s : State} {args : Array Value} (hts : ∀ w ∈ wsT, w.before args s = true) (hf : 7 + 1 ≤ R.frames) (hl : 8 + (4 + 11) + 124 ≤ R.locals) : CallW R s args RL RX3 7 yX3_setOpen cX3_setOpen 4 (some .boolean) (wsA yX3_setOpen cX3_setOpen 4 (some .boolean)) rm_X3_setOpen 1 6 2 := cwAV 2 hts q_347 q_348 q_349 q_76 q_350 rfl rfl (by decide +kernel) ⟨hf, hl⟩
theorem cw_L_15 {R : Room} {s : State} {args : Array Value} (hts : ∀ w ∈ wsT, w.before args s = true) (hf : 7 + 1 ≤ R.frames) (hl : 8 + (4 + 11) + 124 ≤ R.locals) : CallW R s args RL RX3 15 yX3_setKey cX3_setKey 4 (some .int) (wsA yX3_setKey cX3_setKey 4 (some .int)) rm_X3_setKey 1 6 2 := cwAV 2 hts q_488 q_489 q_490 q_76 q_491 rfl rfl (by decide +kernel) ⟨hf, hl⟩
theorem cw_L_21 {R : Room} {s : State} {args : Array Value} (hts : ∀ w ∈ wsT, w.before args s = true) (hf : 7 + 1 ≤ R.frames) (hl : 8 + (2 + 11) + 110 ≤ R.locals) : CallW R s args RL RX3 21 yX3_isOpen cX3_isOpen 2 (some .boolean) (wsA yX3_isOpen cX3_isOpen 2 (some .boolean)) rm_X3_isOpen 1 6 1 := cwAV 1 hts q_504 q_505 q_506 q_76 q_507 rfl rfl (by decide +kernel) ⟨hf, hl⟩
theorem cw_L_25 {R : Room} {s : State} {args : Array Value} (hts : ∀ w ∈ wsT, w.before args s = true) (hf : 7 + 1 ≤ R.frames) (hl : 8 + (2 + 11) + 110 ≤ R.locals) : CallW R s args RL RX3 25 yX3_key cX3_key 2 (some .int) (wsA yX3_key cX3_key 2 (some .int)) rm_X3_key 1 6 1 := cwAV 1 hts q_511 q_512 q_513 q_76 q_514 rfl rfl (by decide +kernel) ⟨hf, hl⟩
theorem cw_L_29 {R : Room} {s : State} {args : Array Value} (hts : ∀ w ∈ wsT, w.before args s = true) (hf : 7 + 1 ≤ R.frames) (hl : 8 + (3 + 11) + 110 ≤ R.locals) : CallW R s args RL RX3 29 yX3_cover cX3_cover 3 (some .int) (wsA yX3_cover cX3_cover 3 (some .int)) rm_X3_cover 1 6 2 := cwAV 2 hts q_518 q_519 q_520 q_76 q_521 rfl rfl (by decide +kernel) ⟨hf, hl⟩
theorem cw_L_32 {R : Room} {s : State} {args : Array Value} (hts : ∀ w ∈ wsT, w.before args s = true) (hf : 7 + 1 ≤ R.frames) (hl : 8 + (3 + 11) + 110 ≤ R.locals) : CallW R s args RL RX3 32 yX3_uncover cX3_uncover 3 (some .int) (wsA yX3_uncover cX3_uncover 3 (some .int)) rm_X3_uncover 1 6 2 := cwAV 2 hts q_531 q_532 q_533 q_76 q_534 rfl rfl (by decide +kernel) ⟨hf, hl⟩
theorem cw_L_35 {R : Room} {s : State} {args : Array Value} (hts : ∀ w ∈ wsT, w.before args s = true) (hf : 7 + 1 ≤ R.frames) (hl : 8 + (5 + 11) + 124 ≤ R.locals) : CallW R s args RL RX3 35 yX3_lay cX3_lay 5 (some .int) (wsA yX3_lay cX3_lay 5 (some .int)) rm_X3_lay 1 6 4 := cwAV 4 hts q_542 q_543 q_544 q_76 q_545 rfl rfl (by decide +kernel) ⟨hf, hl⟩
theorem cw_L_41 {R : Room} {s : State} {args : Array Value} (hts : ∀ w ∈ wsT, w.before args s = true) (hf : 6 + 1 ≤ R.frames) (hl : 8 + (1 + 11) + 124 ≤ R.locals) : CallW R s args RL RX3 41 yX3_takeUp cX3_takeUp 1 (some .int) (wsA yX3_takeUp cX3_takeUp 1 (some .int)) rm_X3_takeUp 1 6 0 := cwAV 0 hts q_565 q_566 q_567 q_76 q_568 rfl rfl (by decide +kernel) ⟨hf, hl⟩
theorem cw_L_45 {R : Room} {s : State} {args : Array Value} (hts : ∀ w ∈ wsT, w.before args s = true) (hf : 7 + 1 ≤ R.frames) (hl : 8 + (3 + 11) + 110 ≤ R.locals) : CallW R s args RL RX3 45 yX3_inn cX3_inn 3 (some .int) (wsA yX3_inn cX3_inn 3 (some .int)) rm_X3_inn 1 6 2 := cwAV 2 hts q_581 q_582 q_583 q_76 q_584 rfl rfl (by decide +kernel) ⟨hf, hl⟩
theorem cw_L_48 {R : Room} {s : State} {args : Array Value} (hts : ∀ w ∈ wsT, w.before args s = true) (hf : 7 + 1 ≤ R.frames) (hl : 8 + (2 + 11) + 110 ≤ R.locals) : CallW R s args RL RX3 48 yX3_hall cX3_hall 2 (some .int) (wsA yX3_hall cX3_hall 2 (some .int)) rm_X3_hall 1 6 1 := cwAV 1 hts q_592 q_593 q_594 q_76 q_595 rfl rfl (by decide +kernel) ⟨hf, hl⟩
theorem cw_L_51 {R : Room} {s : State} {args : Array Value} (hts : ∀ w ∈ wsT, w.before args s = true) (hf : 7 + 1 ≤ R.frames) (hl : 8 + (2 + 11) + 110 ≤ R.locals) : CallW R s args RL RX3 51 yX3_stands cX3_stands 2 (some .boolean) (wsA yX3_stands cX3_stands 2 (some .boolean)) rm_X3_stands 1 6 1 := cwAV 1 hts q_599 q_600 q_601 q_76 q_602 rfl rfl (by decide +kernel) ⟨hf, hl⟩
theorem cw_L_54 {R : Room} {s : State} {args : Array Value} (hts : ∀ w ∈ wsT, w.before args s = true) (hf : 7 + 1 ≤ R.frames) (hl : 8 + (4 + 11) + 110 ≤ R.locals) : CallW R s args RL RX3 54 yX3_see cX3_see 4 (some .int) (wsA yX3_see cX3_see 4 (some .int)) rm_X3_see 2 12 3 := cwAV 3 hts q_606 q_607 q_608 q_76 q_609 rfl rfl (by decide +kernel) ⟨hf, hl⟩
theorem cw_L_58 {R : Room} {s : State} {args : Array Value} (hts : ∀ w ∈ wsT, w.before args s = true) (hf : 7 + 1 ≤ R.frames) (hl : 8 + (2 + 11) + 114 ≤ R.locals) : CallW R s args RL RX3 58 yX3_known cX3_known 2 (some .int) (wsA yX3_known cX3_known 2 (some .int)) rm_X3_known 1 6 1 := cwAV 1 hts q_614 q_615 q_616 q_76 q_617 rfl rfl (by decide +kernel) ⟨hf, hl⟩
theorem cw_L_61 {R : Room} {s : State} {args : Array Value} (hts : ∀ w ∈ wsT, w.before args s = true) (hf : 7 + 1 ≤ R.frames) (hl : 8 + (3 + 11) + 124 ≤ R.locals) : CallW R s args RL RX3 61 yX3_send cX3_send 3 (some .int) (wsA yX3_send cX3_send 3 (some .int)) rm_X3_send 1 6 2 := cwAV 2 hts q_621 q_622 q_623 q_76 q_624 rfl rfl (by decide +kernel) ⟨hf, hl⟩
theorem cw_L_64 {R : Room} {s : State} {args : Array Value} (hts : ∀ w ∈ wsT, w.before args s = true) (hf : 7 + 1 ≤ R.frames) (hl : 8 + (3 + 11) + 124 ≤ R.locals) : CallW R s args RL RX3 64 yX3_answer cX3_answer 3 (some .int) (wsA yX3_answer cX3_answer 3 (some .int)) rm_X3_answer 1 6 2 := cwAV 2 hts q_653 q_654 q_655 q_76 q_656 rfl rfl (by decide +kernel) ⟨hf, hl⟩
theorem cw_L_67 {R : Room} {s : State} {args : Array Value} (hts : ∀ w ∈ wsT, w.before args s = true) (hf : 6 + 1 ≤ R.frames) (hl : 8 + (2 + 11) + 124 ≤ R.locals) : CallW R s args RL RX3 67 yX3_pass cX3_pass 2 (some .int) (wsA yX3_pass cX3_pass 2 (some .int)) rm_X3_pass 1 6 1 := cwAV 1 hts q_668 q_669 q_670 q_76 q_671 rfl rfl (by decide +kernel) ⟨hf, hl⟩
theorem cw_L_70 {R : Room} {s : State} {args : Array Value} (hts : ∀ w ∈ wsT, w.before args s = true) (hf : 7 + 1 ≤ R.frames) (hl : 8 + (3 + 11) + 110 ≤ R.locals) : CallW R s args RL RX3 70 yX3_envelope cX3_envelope 3 (some .int) (wsA yX3_envelope cX3_envelope 3 (some .int)) rm_X3_envelope 1 6 2 := cwAV 2 hts q_701 q_702 q_703 q_76 q_704 rfl rfl (by decide +kernel) ⟨hf, hl⟩
theorem cw_L_73 {R : Room} {s : State} {args : Array Value} (hts : ∀ w ∈ wsT, w.before args s = true) (hf : 7 + 1 ≤ R.frames) (hl : 8 + (2 + 11) + 110 ≤ R.locals) : CallW R s args RL RX3 73 yX3_letter cX3_letter 2 (some .int) (wsA yX3_letter cX3_letter 2 (some .int)) rm_X3_letter 1 6 1 := cwAV 1 hts q_712 q_713 q_714 q_76 q_715 rfl rfl (by decide +kernel) ⟨hf, hl⟩
theorem cw_L_76 {R : Room} {s : State} {args : Array Value} (hts : ∀ w ∈ wsT, w.before args s = true) (hf : 7 + 1 ≤ R.frames) (hl : 8 + (2 + 11) + 110 ≤ R.locals) : CallW R s args RL RX3 76 yX3_count cX3_count 2 (some .int) (wsA yX3_count cX3_count 2 (some .int)) rm_X3_count 1 6 1 := cwAV 1 hts q_719 q_720 q_721 q_76 q_722 rfl rfl (by decide +kernel) ⟨hf, hl⟩
theorem cw_L_79 {R : Room} {s : State} {args : Array Value} (hts : ∀ w ∈ wsT, w.before args s = true) (hf : 7 + 1 ≤ R.frames) (hl : 8 + (2 + 11) + 110 ≤ R.locals) : CallW R s args RL RX3 79 yX3_lostIfClosed cX3_lostIfClosed 2 (some .int) (wsA yX3_lostIfClosed cX3_lostIfClosed 2 (some .int)) rm_X3_lostIfClosed 1 6 1 := cwAV 1 hts q_726 q_727 q_728 q_76 q_729 rfl rfl (by decide +kernel) ⟨hf, hl⟩
theorem cw_L_82 {R : Room} {s : State} {args : Array Value} (hts : ∀ w ∈ wsT, w.before args s = true) (hf : 7 + 1 ≤ R.frames) (hl : 8 + (2 + 11) + 110 ≤ R.locals) : CallW R s args RL RX3 82 yX3_ticksTo cX3_ticksTo 2 (some .int) (wsA yX3_ticksTo cX3_ticksTo 2 (some .int)) rm_X3_ticksTo 1 6 1 := cwAV 1 hts q_733 q_734 q_735 q_76 q_736 rfl rfl (by decide +kernel) ⟨hf, hl⟩
theorem cw_L_85 {R : Room} {s : State} {args : Array Value} (hts : ∀ w ∈ wsT, w.before args s = true) (hf : 7 + 1 ≤ R.frames) (hl : 8 + (2 + 11) + 113 ≤ R.locals) : CallW R s args RL RX3 85 yX3_leastWork cX3_leastWork 2 (some .int) (wsA yX3_leastWork cX3_leastWork 2 (some .int)) rm_X3_leastWork 1 6 1 := cwAV 1 hts q_740 q_741 q_742 q_76 q_743 rfl rfl (by decide +kernel) ⟨hf, hl⟩
theorem cw_L_88 {R : Room} {s : State} {args : Array Value} (hts : ∀ w ∈ wsT, w.before args s = true) (hf : 6 + 1 ≤ R.frames) (hl : 8 + (2 + 11) + 90 ≤ R.locals) : CallW R s args RL RX3 88 yX3_append cX3_append 2 (some .int) (wsA yX3_append cX3_append 2 (some .int)) rm_X3_append 1 6 1 := cwAV 1 hts q_747 q_748 q_749 q_76 q_750 rfl rfl (by decide +kernel) ⟨hf, hl⟩
theorem cw_L_91 {R : Room} {s : State} {args : Array Value} (hts : ∀ w ∈ wsT, w.before args s = true) (hf : 6 + 1 ≤ R.frames) (hl : 8 + (4 + 11) + 141 ≤ R.locals) : CallW R s args RL RX3 91 yX3_run cX3_run 4 (some .int) (wsA yX3_run cX3_run 4 (some .int)) rm_X3_run 1 6 0 := cwAV 0 hts q_761 q_762 q_763 q_76 q_764 rfl rfl (by decide +kernel) ⟨hf, hl⟩
theorem cw_L_94 {R : Room} {s : State} {args : Array Value} (hts : ∀ w ∈ wsT, w.before args s = true) (hf : 6 + 1 ≤ R.frames) (hl : 8 + (1 + 11) + 124 ≤ R.locals) : CallW R s args RL RX3 94 yX3_undo cX3_undo 1 (some .int) (wsA yX3_undo cX3_undo 1 (some .int)) rm_X3_undo 1 6 0 := cwAV 0 hts q_804 q_805 q_806 q_76 q_807 rfl rfl (by decide +kernel) ⟨hf, hl⟩
def wp_L_setOpen (q : Ne × (Nat → Int64)) (p1 p2 : Int32) (post : Int32 → Ne × (Nat → Int64) → Prop) : Prop :=
  wp_X3_setOpen q.1 p1 p2 (fun r1 u3 => jn (fun (x4 : Int64) => post (0 : Int32) (u3, vp_updL q.2 (Int32.toNatClampNeg (0 : Int32)) x4)) (fun (J5 : Int64 → Prop) => (r1 = 0 → J5 (0 : Int64)) ∧ (¬ r1 = 0 → J5 (1 : Int64)))) (fun k9 u9 => (k9 = 1 ∧ post 1 (u9, q.2)))
set_option maxHeartbeats 4000000 in
set_option maxRecDepth 100000 in
theorem c_L_setOpen (l : Launch) (hst : l.stackTraces = false) (D : va_G) (cI cS cJ : ClassId) (G : Nat → Nat → Nat) (o : Nat) (q : Ne × (Nat → Int64)) (sz : Nat) (p1 p2 : Int32) {post : Int32 → Ne × (Nat → Int64) → Prop} (h : wp_L_setOpen q p1 p2 post) : Met l yL_setOpen (Cond.codeWith yL_setOpen cL_setOpen 5 (some .int) [(0, 17, 20, 13)] :: wsT) rm_L_setOpen (va_Pc [.ref (G 2 0), .int p1, .int p2, .ref o] (rwX D (tysA cI cS cJ) (hW cI cS cJ G o q) sz)) (va_Qi post (xQ D (hW cI cS cJ G o) (hW cI cS cJ G o q) sz) (va_A (hW cI cS cJ G o q) sz)) 1 6 (va_A (hW cI cS cJ G o q) sz) := by
  refine mkH (wf := hW cI cS cJ G o) (by decide +kernel) rfl (Nat.le_of_ble_eq_true rfl) (fun {p e s m args below meth c Q ls A H locs} hx hb F hts hown hT hK hV hH hP hD hS hA hl hQ => ?_)
  have hl : lv_has ls 5 [(0, .ref (G 2 0)), (1, .int p1), (2, .int p2), (3, .ref o)] := hl
  unfold wp_L_setOpen at h
  refine lv_aload_n hx hb dL_setOpen_0 rfl (lv_at hl 3 rfl) ?_
  refine lv_iconst (v := (0 : Int32)) hx hb dL_setOpen_1 (by decide) ?_
  refine lv_aload_n hx hb dL_setOpen_2 rfl (lv_at hl 0 rfl) ?_
  refine lv_iload_n hx hb dL_setOpen_3 rfl (lv_at hl 1 rfl) ?_
  refine lv_iload_n hx hb dL_setOpen_4 rfl (lv_at hl 2 rfl) ?_
  refine rxVi (wc := neW cI cS G q.1) (wr := [(o, .inl (cJ, 1, .inr (.inl q.2)))]) (As := [.int p1, .int p2]) (rest := [.int (0 : Int32), .ref o]) List.perm_append_comm F (c_X3_setOpen l hst D cI cS cJ G q.1 H.size p1 p2 h) (cw_L_7 hts (Nat.le_of_ble_eq_true rfl) (Nat.le_of_ble_eq_true rfl)) hK hV hH hP hD hS hA (recv (ci := 3) (k0 := 1) hK hP rfl rfl) rfl hl.1 rfl (Nat.le_of_ble_eq_true rfl) dL_setOpen_5 ⟨(Nat.le_of_ble_eq_true rfl), (Nat.le_of_ble_eq_true rfl)⟩ (fun {k u E ce q9 H locs} h hE9 hP hD hS h1 h2 h3 => ?_) (fun r1 u3 H locs h hP hD hS => ?_)
  · subst hE9
    have hP : va_P D vwCl (hW cI cS cJ G o (u, q.2)) H := vP_perm List.perm_append_comm hP
    have hD : va_D A (hW cI cS cJ G o (u, q.2)) := vD_perm List.perm_append_comm hD
    rcases h with ⟨rfl, h⟩
    · refine vx_catch (name := exE 1) hown ((tableOf [(0, 17, 20, 13)]).take 0) ((tableOf [(0, 17, 20, 13)])[0]) ((tableOf [(0, 17, 20, 13)]).drop 1) (hT.trans rfl) (fun _ h => nomatch h) rfl (by decide) (hts _ q_346) (va_Nw.use rfl (hV.1 1 (Or.inl rfl))) h1 h2 h3 ?_
      refine lv_astore (lv' := [(4, .ref q9), (0, .ref (G 2 0)), (1, .int p1), (2, .int p2), (3, .ref o)]) hx hb dL_setOpen_20 hl (by decide) rfl (fun ls hl => ?_)
      refine lv_iconst (v := (1 : Int32)) hx hb dL_setOpen_22 (by decide) ?_
      exact hQ h hP hD hS dL_setOpen_23
  obtain ⟨b2, h⟩ := h
  have hP : va_P D vwCl (hW cI cS cJ G o (u3, q.2)) H := vP_perm List.perm_append_comm hP
  have hD : va_D A (hW cI cS cJ G o (u3, q.2)) := vD_perm List.perm_append_comm hD
  refine jn_e h (fun J5 e7 h => ?_)
  have w6 : ∀ (x4 : Int64) (ls : Array Slot) (H : Heap) (locs : List Loc), lv_has ls 5 [] → va_P D vwCl (hW cI cS cJ G o (u3, q.2)) H → va_D A (hW cI cS cJ G o (u3, q.2)) → va_S A s.heap H locs → J5 x4 → W p l e rm_L_setOpen s m args below meth c H locs (0 + 1) (0 + 6) Q (F0 m 16 ls [.long x4, .int (0 : Int32), .ref o]) := by
    intro x4 ls H locs hl hP hD hS h
    subst e7
    refine va_last hx hb hK.k hP hD hS 0 2 rfl rfl in01 dL_setOpen_16 (fun H locs hP hD hS => ?_)
    have hP : va_P D vwCl (hW cI cS cJ G o (u3, vp_updL q.2 (Int32.toNatClampNeg (0 : Int32)) x4)) H := hP
    have hD : va_D A (hW cI cS cJ G o (u3, vp_updL q.2 (Int32.toNatClampNeg (0 : Int32)) x4)) := hD
    refine lv_goto (tgt := 24) hx hb dL_setOpen_17 (by decide) ?_
    refine lv_iconst (v := (0 : Int32)) hx hb dL_setOpen_24 (by decide) ?_
    exact hQ h hP hD hS dL_setOpen_25
  clear e7
  refine lv_if_eq (tgt := 15) hx hb dL_setOpen_8 (by decide) (fun c8 => ?_) (fun c8 => ?_)
  · replace h := h.1 c8
    refine lv_lconst (v := (0 : Int64)) hx hb dL_setOpen_15 rfl ?_
    exact w6 (0 : Int64) _ _ _ (lv_sub hl [] rfl) hP hD hS h
  · replace h := h.2 c8
    refine lv_lconst (v := (1 : Int64)) hx hb dL_setOpen_11 rfl ?_
    refine lv_goto (tgt := 16) hx hb dL_setOpen_12 (by decide) ?_
    exact w6 (1 : Int64) _ _ _ (lv_sub hl [] rfl) hP hD hS h

def wp_L_setKey (q : Ne × (Nat → Int64)) (p1 p2 : Int32) (post : Int32 → Ne × (Nat → Int64) → Prop) : Prop :=
  wp_X3_setKey q.1 p1 p2 (fun r1 u2 => post (0 : Int32) (u2, vp_updL q.2 (Int32.toNatClampNeg (0 : Int32)) (Int32.toInt64 r1))) (fun k9 u9 => (k9 = 1 ∧ post 1 (u9, q.2)) ∨ (k9 = 2 ∧ post 2 (u9, q.2)))
set_option maxHeartbeats 4000000 in
set_option maxRecDepth 100000 in
theorem c_L_setKey (l : Launch) (hst : l.stackTraces = false) (D : va_G) (cI cS cJ : ClassId) (G : Nat → Nat → Nat) (o : Nat) (q : Ne × (Nat → Int64)) (sz : Nat) (p1 p2 : Int32) {post : Int32 → Ne × (Nat → Int64) → Prop} (h : wp_L_setKey q p1 p2 post) : Met l yL_setKey (Cond.codeWith yL_setKey cL_setKey 5 (some .int) [(0, 10, 13, 13), (0, 10, 17, 19)] :: wsT) rm_L_setKey (va_Pc [.ref (G 2 0), .int p1, .int p2, .ref o] (rwX D (tysA cI cS cJ) (hW cI cS cJ G o q) sz)) (va_Qi post (xQ D (hW cI cS cJ G o) (hW cI cS cJ G o q) sz) (va_A (hW cI cS cJ G o q) sz)) 1 6 (va_A (hW cI cS cJ G o q) sz) := by
  refine mkH (wf := hW cI cS cJ G o) (by decide +kernel) rfl (Nat.le_of_ble_eq_true rfl) (fun {p e s m args below meth c Q ls A H locs} hx hb F hts hown hT hK hV hH hP hD hS hA hl hQ => ?_)
  have hl : lv_has ls 5 [(0, .ref (G 2 0)), (1, .int p1), (2, .int p2), (3, .ref o)] := hl
  unfold wp_L_setKey at h
  refine lv_aload_n hx hb dL_setKey_0 rfl (lv_at hl 3 rfl) ?_
  refine lv_iconst (v := (0 : Int32)) hx hb dL_setKey_1 (by decide) ?_
  refine lv_aload_n hx hb dL_setKey_2 rfl (lv_at hl 0 rfl) ?_
  refine lv_iload_n hx hb dL_setKey_3 rfl (lv_at hl 1 rfl) ?_
  refine lv_iload_n hx hb dL_setKey_4 rfl (lv_at hl 2 rfl) ?_
  refine rxVi (wc := neW cI cS G q.1) (wr := [(o, .inl (cJ, 1, .inr (.inl q.2)))]) (As := [.int p1, .int p2]) (rest := [.int (0 : Int32), .ref o]) List.perm_append_comm F (c_X3_setKey l hst D cI cS cJ G q.1 H.size p1 p2 h) (cw_L_15 hts (Nat.le_of_ble_eq_true rfl) (Nat.le_of_ble_eq_true rfl)) hK hV hH hP hD hS hA (recv (ci := 3) (k0 := 1) hK hP rfl rfl) rfl hl.1 rfl (Nat.le_of_ble_eq_true rfl) dL_setKey_5 ⟨(Nat.le_of_ble_eq_true rfl), (Nat.le_of_ble_eq_true rfl)⟩ (fun {k u E ce q9 H locs} h hE9 hP hD hS h1 h2 h3 => ?_) (fun r1 u2 H locs h hP hD hS => ?_)
  · subst hE9
    have hP : va_P D vwCl (hW cI cS cJ G o (u, q.2)) H := vP_perm List.perm_append_comm hP
    have hD : va_D A (hW cI cS cJ G o (u, q.2)) := vD_perm List.perm_append_comm hD
    rcases h with ⟨rfl, h⟩ | ⟨rfl, h⟩
    · refine vx_catch (name := exE 1) hown ((tableOf [(0, 10, 13, 13), (0, 10, 17, 19)]).take 0) ((tableOf [(0, 10, 13, 13), (0, 10, 17, 19)])[0]) ((tableOf [(0, 10, 13, 13), (0, 10, 17, 19)]).drop 1) (hT.trans rfl) (fun _ h => nomatch h) rfl (by decide) (hts _ q_346) (va_Nw.use rfl (hV.1 1 (Or.inl rfl))) h1 h2 h3 ?_
      refine lv_astore (lv' := [(4, .ref q9), (0, .ref (G 2 0)), (1, .int p1), (2, .int p2), (3, .ref o)]) hx hb dL_setKey_13 hl (by decide) rfl (fun ls hl => ?_)
      refine lv_iconst (v := (1 : Int32)) hx hb dL_setKey_15 (by decide) ?_
      exact hQ h hP hD hS dL_setKey_16
    · refine vx_catch (name := exE 2) hown ((tableOf [(0, 10, 13, 13), (0, 10, 17, 19)]).take 1) ((tableOf [(0, 10, 13, 13), (0, 10, 17, 19)])[1]) ((tableOf [(0, 10, 13, 13), (0, 10, 17, 19)]).drop 2) (hT.trans rfl) (List.forall_mem_cons.mpr ⟨Or.inr ⟨by decide, exE 1, hts _ q_346, hV.2.2.2 2 1 (Or.inr (Or.inl rfl)) (Or.inl rfl) (by decide)⟩, (fun _ h => nomatch h)⟩) rfl (by decide) (hts _ q_487) (va_Nw.use rfl (hV.1 2 (Or.inr (Or.inl rfl)))) h1 h2 h3 ?_
      refine lv_astore (lv' := [(4, .ref q9), (0, .ref (G 2 0)), (1, .int p1), (2, .int p2), (3, .ref o)]) hx hb dL_setKey_17 hl (by decide) rfl (fun ls hl => ?_)
      refine lv_iconst (v := (2 : Int32)) hx hb dL_setKey_19 (by decide) ?_
      exact hQ h hP hD hS dL_setKey_20
  have hP : va_P D vwCl (hW cI cS cJ G o (u2, q.2)) H := vP_perm List.perm_append_comm hP
  have hD : va_D A (hW cI cS cJ G o (u2, q.2)) := vD_perm List.perm_append_comm hD
  refine lv_i2l (v := (Int32.toInt64 r1)) hx hb dL_setKey_8 rfl ?_
  refine va_last hx hb hK.k hP hD hS 0 2 rfl rfl in01 dL_setKey_9 (fun H locs hP hD hS => ?_)
  have hP : va_P D vwCl (hW cI cS cJ G o (u2, vp_updL q.2 (Int32.toNatClampNeg (0 : Int32)) (Int32.toInt64 r1))) H := hP
  have hD : va_D A (hW cI cS cJ G o (u2, vp_updL q.2 (Int32.toNatClampNeg (0 : Int32)) (Int32.toInt64 r1))) := hD
  refine lv_goto (tgt := 21) hx hb dL_setKey_10 (by decide) ?_
  refine lv_iconst (v := (0 : Int32)) hx hb dL_setKey_21 (by decide) ?_
  exact hQ h hP hD hS dL_setKey_22

def wp_L_isOpen (q : Ne × (Nat → Int64)) (p1 : Int32) (post : Int32 → Ne × (Nat → Int64) → Prop) : Prop :=
  wp_X3_isOpen q.1 p1 (fun r1 u3 => jn (fun (x4 : Int64) => post (0 : Int32) (u3, vp_updL q.2 (Int32.toNatClampNeg (0 : Int32)) x4)) (fun (J5 : Int64 → Prop) => (r1 = 0 → J5 (0 : Int64)) ∧ (¬ r1 = 0 → J5 (1 : Int64)))) (fun k9 u9 => (k9 = 1 ∧ post 1 (u9, q.2)))
set_option maxHeartbeats 4000000 in
set_option maxRecDepth 100000 in
theorem c_L_isOpen (l : Launch) (hst : l.stackTraces = false) (D : va_G) (cI cS cJ : ClassId) (G : Nat → Nat → Nat) (o : Nat) (q : Ne × (Nat → Int64)) (sz : Nat) (p1 : Int32) {post : Int32 → Ne × (Nat → Int64) → Prop} (h : wp_L_isOpen q p1 post) : Met l yL_isOpen (Cond.codeWith yL_isOpen cL_isOpen 4 (some .int) [(0, 16, 19, 13)] :: wsT) rm_L_isOpen (va_Pc [.ref (G 2 0), .int p1, .ref o] (rwX D (tysA cI cS cJ) (hW cI cS cJ G o q) sz)) (va_Qi post (xQ D (hW cI cS cJ G o) (hW cI cS cJ G o q) sz) (va_A (hW cI cS cJ G o q) sz)) 1 6 (va_A (hW cI cS cJ G o q) sz) := by
  refine mkH (wf := hW cI cS cJ G o) (by decide +kernel) rfl (Nat.le_of_ble_eq_true rfl) (fun {p e s m args below meth c Q ls A H locs} hx hb F hts hown hT hK hV hH hP hD hS hA hl hQ => ?_)
  have hl : lv_has ls 4 [(0, .ref (G 2 0)), (1, .int p1), (2, .ref o)] := hl
  unfold wp_L_isOpen at h
  refine lv_aload_n hx hb dL_isOpen_0 rfl (lv_at hl 2 rfl) ?_
  refine lv_iconst (v := (0 : Int32)) hx hb dL_isOpen_1 (by decide) ?_
  refine lv_aload_n hx hb dL_isOpen_2 rfl (lv_at hl 0 rfl) ?_
  refine lv_iload_n hx hb dL_isOpen_3 rfl (lv_at hl 1 rfl) ?_
  refine rxVi (wc := neW cI cS G q.1) (wr := [(o, .inl (cJ, 1, .inr (.inl q.2)))]) (As := [.int p1]) (rest := [.int (0 : Int32), .ref o]) List.perm_append_comm F (c_X3_isOpen l hst D cI cS cJ G q.1 H.size p1 h) (cw_L_21 hts (Nat.le_of_ble_eq_true rfl) (Nat.le_of_ble_eq_true rfl)) hK hV hH hP hD hS hA (recv (ci := 3) (k0 := 1) hK hP rfl rfl) rfl hl.1 rfl (Nat.le_of_ble_eq_true rfl) dL_isOpen_4 ⟨(Nat.le_of_ble_eq_true rfl), (Nat.le_of_ble_eq_true rfl)⟩ (fun {k u E ce q9 H locs} h hE9 hP hD hS h1 h2 h3 => ?_) (fun r1 u3 H locs h hP hD hS => ?_)
  · subst hE9
    have hP : va_P D vwCl (hW cI cS cJ G o (u, q.2)) H := vP_perm List.perm_append_comm hP
    have hD : va_D A (hW cI cS cJ G o (u, q.2)) := vD_perm List.perm_append_comm hD
    rcases h with ⟨rfl, h⟩
    · refine vx_catch (name := exE 1) hown ((tableOf [(0, 16, 19, 13)]).take 0) ((tableOf [(0, 16, 19, 13)])[0]) ((tableOf [(0, 16, 19, 13)]).drop 1) (hT.trans rfl) (fun _ h => nomatch h) rfl (by decide) (hts _ q_346) (va_Nw.use rfl (hV.1 1 (Or.inl rfl))) h1 h2 h3 ?_
      refine lv_astore_n (lv' := [(3, .ref q9), (0, .ref (G 2 0)), (1, .int p1), (2, .ref o)]) hx hb dL_isOpen_19 rfl hl (by decide) rfl (fun ls hl => ?_)
      refine lv_iconst (v := (1 : Int32)) hx hb dL_isOpen_20 (by decide) ?_
      exact hQ h hP hD hS dL_isOpen_21
  obtain ⟨b2, h⟩ := h
  have hP : va_P D vwCl (hW cI cS cJ G o (u3, q.2)) H := vP_perm List.perm_append_comm hP
  have hD : va_D A (hW cI cS cJ G o (u3, q.2)) := vD_perm List.perm_append_comm hD
  refine jn_e h (fun J5 e7 h => ?_)
  have w6 : ∀ (x4 : Int64) (ls : Array Slot) (H : Heap) (locs : List Loc), lv_has ls 4 [] → va_P D vwCl (hW cI cS cJ G o (u3, q.2)) H → va_D A (hW cI cS cJ G o (u3, q.2)) → va_S A s.heap H locs → J5 x4 → W p l e rm_L_isOpen s m args below meth c H locs (0 + 1) (0 + 6) Q (F0 m 15 ls [.long x4, .int (0 : Int32), .ref o]) := by
    intro x4 ls H locs hl hP hD hS h
    subst e7
    refine va_last hx hb hK.k hP hD hS 0 2 rfl rfl in01 dL_isOpen_15 (fun H locs hP hD hS => ?_)
    have hP : va_P D vwCl (hW cI cS cJ G o (u3, vp_updL q.2 (Int32.toNatClampNeg (0 : Int32)) x4)) H := hP
    have hD : va_D A (hW cI cS cJ G o (u3, vp_updL q.2 (Int32.toNatClampNeg (0 : Int32)) x4)) := hD
    refine lv_goto (tgt := 22) hx hb dL_isOpen_16 (by decide) ?_
    refine lv_iconst (v := (0 : Int32)) hx hb dL_isOpen_22 (by decide) ?_
    exact hQ h hP hD hS dL_isOpen_23
  clear e7
  refine lv_if_eq (tgt := 14) hx hb dL_isOpen_7 (by decide) (fun c8 => ?_) (fun c8 => ?_)
  · replace h := h.1 c8
    refine lv_lconst (v := (0 : Int64)) hx hb dL_isOpen_14 rfl ?_
    exact w6 (0 : Int64) _ _ _ (lv_sub hl [] rfl) hP hD hS h
  · replace h := h.2 c8
    refine lv_lconst (v := (1 : Int64)) hx hb dL_isOpen_10 rfl ?_
    refine lv_goto (tgt := 15) hx hb dL_isOpen_11 (by decide) ?_
    exact w6 (1 : Int64) _ _ _ (lv_sub hl [] rfl) hP hD hS h

def wp_L_key (q : Ne × (Nat → Int64)) (p1 : Int32) (post : Int32 → Ne × (Nat → Int64) → Prop) : Prop :=
  wp_X3_key q.1 p1 (fun r1 u2 => post (0 : Int32) (u2, vp_updL q.2 (Int32.toNatClampNeg (0 : Int32)) (Int32.toInt64 r1))) (fun k9 u9 => (k9 = 1 ∧ post 1 (u9, q.2)))
set_option maxHeartbeats 4000000 in
set_option maxRecDepth 100000 in
theorem c_L_key (l : Launch) (hst : l.stackTraces = false) (D : va_G) (cI cS cJ : ClassId) (G : Nat → Nat → Nat) (o : Nat) (q : Ne × (Nat → Int64)) (sz : Nat) (p1 : Int32) {post : Int32 → Ne × (Nat → Int64) → Prop} (h : wp_L_key q p1 post) : Met l yL_key (Cond.codeWith yL_key cL_key 4 (some .int) [(0, 9, 12, 13)] :: wsT) rm_L_key (va_Pc [.ref (G 2 0), .int p1, .ref o] (rwX D (tysA cI cS cJ) (hW cI cS cJ G o q) sz)) (va_Qi post (xQ D (hW cI cS cJ G o) (hW cI cS cJ G o q) sz) (va_A (hW cI cS cJ G o q) sz)) 1 6 (va_A (hW cI cS cJ G o q) sz) := by
  refine mkH (wf := hW cI cS cJ G o) (by decide +kernel) rfl (Nat.le_of_ble_eq_true rfl) (fun {p e s m args below meth c Q ls A H locs} hx hb F hts hown hT hK hV hH hP hD hS hA hl hQ => ?_)
  have hl : lv_has ls 4 [(0, .ref (G 2 0)), (1, .int p1), (2, .ref o)] := hl
  unfold wp_L_key at h
  refine lv_aload_n hx hb dL_key_0 rfl (lv_at hl 2 rfl) ?_
  refine lv_iconst (v := (0 : Int32)) hx hb dL_key_1 (by decide) ?_
  refine lv_aload_n hx hb dL_key_2 rfl (lv_at hl 0 rfl) ?_
  refine lv_iload_n hx hb dL_key_3 rfl (lv_at hl 1 rfl) ?_
  refine rxVi (wc := neW cI cS G q.1) (wr := [(o, .inl (cJ, 1, .inr (.inl q.2)))]) (As := [.int p1]) (rest := [.int (0 : Int32), .ref o]) List.perm_append_comm F (c_X3_key l hst D cI cS cJ G q.1 H.size p1 h) (cw_L_25 hts (Nat.le_of_ble_eq_true rfl) (Nat.le_of_ble_eq_true rfl)) hK hV hH hP hD hS hA (recv (ci := 3) (k0 := 1) hK hP rfl rfl) rfl hl.1 rfl (Nat.le_of_ble_eq_true rfl) dL_key_4 ⟨(Nat.le_of_ble_eq_true rfl), (Nat.le_of_ble_eq_true rfl)⟩ (fun {k u E ce q9 H locs} h hE9 hP hD hS h1 h2 h3 => ?_) (fun r1 u2 H locs h hP hD hS => ?_)
  · subst hE9
    have hP : va_P D vwCl (hW cI cS cJ G o (u, q.2)) H := vP_perm List.perm_append_comm hP
    have hD : va_D A (hW cI cS cJ G o (u, q.2)) := vD_perm List.perm_append_comm hD
    rcases h with ⟨rfl, h⟩
    · refine vx_catch (name := exE 1) hown ((tableOf [(0, 9, 12, 13)]).take 0) ((tableOf [(0, 9, 12, 13)])[0]) ((tableOf [(0, 9, 12, 13)]).drop 1) (hT.trans rfl) (fun _ h => nomatch h) rfl (by decide) (hts _ q_346) (va_Nw.use rfl (hV.1 1 (Or.inl rfl))) h1 h2 h3 ?_
      refine lv_astore_n (lv' := [(3, .ref q9), (0, .ref (G 2 0)), (1, .int p1), (2, .ref o)]) hx hb dL_key_12 rfl hl (by decide) rfl (fun ls hl => ?_)
      refine lv_iconst (v := (1 : Int32)) hx hb dL_key_13 (by decide) ?_
      exact hQ h hP hD hS dL_key_14
  have hP : va_P D vwCl (hW cI cS cJ G o (u2, q.2)) H := vP_perm List.perm_append_comm hP
  have hD : va_D A (hW cI cS cJ G o (u2, q.2)) := vD_perm List.perm_append_comm hD
  refine lv_i2l (v := (Int32.toInt64 r1)) hx hb dL_key_7 rfl ?_
  refine va_last hx hb hK.k hP hD hS 0 2 rfl rfl in01 dL_key_8 (fun H locs hP hD hS => ?_)
  have hP : va_P D vwCl (hW cI cS cJ G o (u2, vp_updL q.2 (Int32.toNatClampNeg (0 : Int32)) (Int32.toInt64 r1))) H := hP
  have hD : va_D A (hW cI cS cJ G o (u2, vp_updL q.2 (Int32.toNatClampNeg (0 : Int32)) (Int32.toInt64 r1))) := hD
  refine lv_goto (tgt := 15) hx hb dL_key_9 (by decide) ?_
  refine lv_iconst (v := (0 : Int32)) hx hb dL_key_15 (by decide) ?_
  exact hQ h hP hD hS dL_key_16

def wp_L_cover (q : Ne × (Nat → Int64)) (p1 p2 : Int32) (post : Int32 → Ne × (Nat → Int64) → Prop) : Prop :=
  wp_X3_cover q.1 p1 p2 (fun r1 u2 => post (0 : Int32) (u2, vp_updL q.2 (Int32.toNatClampNeg (0 : Int32)) (Int32.toInt64 r1))) (fun k9 u9 => (k9 = 1 ∧ post 1 (u9, q.2)) ∨ (k9 = 2 ∧ post 2 (u9, q.2)))
set_option maxHeartbeats 4000000 in
set_option maxRecDepth 100000 in
theorem c_L_cover (l : Launch) (hst : l.stackTraces = false) (D : va_G) (cI cS cJ : ClassId) (G : Nat → Nat → Nat) (o : Nat) (q : Ne × (Nat → Int64)) (sz : Nat) (p1 p2 : Int32) {post : Int32 → Ne × (Nat → Int64) → Prop} (h : wp_L_cover q p1 p2 post) : Met l yL_cover (Cond.codeWith yL_cover cL_cover 5 (some .int) [(0, 10, 13, 13), (0, 10, 17, 19)] :: wsT) rm_L_cover (va_Pc [.ref (G 2 0), .int p1, .int p2, .ref o] (rwX D (tysA cI cS cJ) (hW cI cS cJ G o q) sz)) (va_Qi post (xQ D (hW cI cS cJ G o) (hW cI cS cJ G o q) sz) (va_A (hW cI cS cJ G o q) sz)) 1 6 (va_A (hW cI cS cJ G o q) sz) := by
  refine mkH (wf := hW cI cS cJ G o) (by decide +kernel) rfl (Nat.le_of_ble_eq_true rfl) (fun {p e s m args below meth c Q ls A H locs} hx hb F hts hown hT hK hV hH hP hD hS hA hl hQ => ?_)
  have hl : lv_has ls 5 [(0, .ref (G 2 0)), (1, .int p1), (2, .int p2), (3, .ref o)] := hl
  unfold wp_L_cover at h
  refine lv_aload_n hx hb dL_cover_0 rfl (lv_at hl 3 rfl) ?_
  refine lv_iconst (v := (0 : Int32)) hx hb dL_cover_1 (by decide) ?_
  refine lv_aload_n hx hb dL_cover_2 rfl (lv_at hl 0 rfl) ?_
  refine lv_iload_n hx hb dL_cover_3 rfl (lv_at hl 1 rfl) ?_
  refine lv_iload_n hx hb dL_cover_4 rfl (lv_at hl 2 rfl) ?_
  refine rxVi (wc := neW cI cS G q.1) (wr := [(o, .inl (cJ, 1, .inr (.inl q.2)))]) (As := [.int p1, .int p2]) (rest := [.int (0 : Int32), .ref o]) List.perm_append_comm F (c_X3_cover l hst D cI cS cJ G q.1 H.size p1 p2 h) (cw_L_29 hts (Nat.le_of_ble_eq_true rfl) (Nat.le_of_ble_eq_true rfl)) hK hV hH hP hD hS hA (recv (ci := 3) (k0 := 1) hK hP rfl rfl) rfl hl.1 rfl (Nat.le_of_ble_eq_true rfl) dL_cover_5 ⟨(Nat.le_of_ble_eq_true rfl), (Nat.le_of_ble_eq_true rfl)⟩ (fun {k u E ce q9 H locs} h hE9 hP hD hS h1 h2 h3 => ?_) (fun r1 u2 H locs h hP hD hS => ?_)
  · subst hE9
    have hP : va_P D vwCl (hW cI cS cJ G o (u, q.2)) H := vP_perm List.perm_append_comm hP
    have hD : va_D A (hW cI cS cJ G o (u, q.2)) := vD_perm List.perm_append_comm hD
    rcases h with ⟨rfl, h⟩ | ⟨rfl, h⟩
    · refine vx_catch (name := exE 1) hown ((tableOf [(0, 10, 13, 13), (0, 10, 17, 19)]).take 0) ((tableOf [(0, 10, 13, 13), (0, 10, 17, 19)])[0]) ((tableOf [(0, 10, 13, 13), (0, 10, 17, 19)]).drop 1) (hT.trans rfl) (fun _ h => nomatch h) rfl (by decide) (hts _ q_346) (va_Nw.use rfl (hV.1 1 (Or.inl rfl))) h1 h2 h3 ?_
      refine lv_astore (lv' := [(4, .ref q9), (0, .ref (G 2 0)), (1, .int p1), (2, .int p2), (3, .ref o)]) hx hb dL_cover_13 hl (by decide) rfl (fun ls hl => ?_)
      refine lv_iconst (v := (1 : Int32)) hx hb dL_cover_15 (by decide) ?_
      exact hQ h hP hD hS dL_cover_16
    · refine vx_catch (name := exE 2) hown ((tableOf [(0, 10, 13, 13), (0, 10, 17, 19)]).take 1) ((tableOf [(0, 10, 13, 13), (0, 10, 17, 19)])[1]) ((tableOf [(0, 10, 13, 13), (0, 10, 17, 19)]).drop 2) (hT.trans rfl) (List.forall_mem_cons.mpr ⟨Or.inr ⟨by decide, exE 1, hts _ q_346, hV.2.2.2 2 1 (Or.inr (Or.inl rfl)) (Or.inl rfl) (by decide)⟩, (fun _ h => nomatch h)⟩) rfl (by decide) (hts _ q_487) (va_Nw.use rfl (hV.1 2 (Or.inr (Or.inl rfl)))) h1 h2 h3 ?_
      refine lv_astore (lv' := [(4, .ref q9), (0, .ref (G 2 0)), (1, .int p1), (2, .int p2), (3, .ref o)]) hx hb dL_cover_17 hl (by decide) rfl (fun ls hl => ?_)
      refine lv_iconst (v := (2 : Int32)) hx hb dL_cover_19 (by decide) ?_
      exact hQ h hP hD hS dL_cover_20
  have hP : va_P D vwCl (hW cI cS cJ G o (u2, q.2)) H := vP_perm List.perm_append_comm hP
  have hD : va_D A (hW cI cS cJ G o (u2, q.2)) := vD_perm List.perm_append_comm hD
  refine lv_i2l (v := (Int32.toInt64 r1)) hx hb dL_cover_8 rfl ?_
  refine va_last hx hb hK.k hP hD hS 0 2 rfl rfl in01 dL_cover_9 (fun H locs hP hD hS => ?_)
  have hP : va_P D vwCl (hW cI cS cJ G o (u2, vp_updL q.2 (Int32.toNatClampNeg (0 : Int32)) (Int32.toInt64 r1))) H := hP
  have hD : va_D A (hW cI cS cJ G o (u2, vp_updL q.2 (Int32.toNatClampNeg (0 : Int32)) (Int32.toInt64 r1))) := hD
  refine lv_goto (tgt := 21) hx hb dL_cover_10 (by decide) ?_
  refine lv_iconst (v := (0 : Int32)) hx hb dL_cover_21 (by decide) ?_
  exact hQ h hP hD hS dL_cover_22

def wp_L_uncover (q : Ne × (Nat → Int64)) (p1 p2 : Int32) (post : Int32 → Ne × (Nat → Int64) → Prop) : Prop :=
  wp_X3_uncover q.1 p1 p2 (fun r1 u2 => post (0 : Int32) (u2, vp_updL q.2 (Int32.toNatClampNeg (0 : Int32)) (Int32.toInt64 r1))) (fun k9 u9 => (k9 = 1 ∧ post 1 (u9, q.2)) ∨ (k9 = 2 ∧ post 2 (u9, q.2)))
set_option maxHeartbeats 4000000 in
set_option maxRecDepth 100000 in
theorem c_L_uncover (l : Launch) (hst : l.stackTraces = false) (D : va_G) (cI cS cJ : ClassId) (G : Nat → Nat → Nat) (o : Nat) (q : Ne × (Nat → Int64)) (sz : Nat) (p1 p2 : Int32) {post : Int32 → Ne × (Nat → Int64) → Prop} (h : wp_L_uncover q p1 p2 post) : Met l yL_uncover (Cond.codeWith yL_uncover cL_uncover 5 (some .int) [(0, 10, 13, 13), (0, 10, 17, 19)] :: wsT) rm_L_uncover (va_Pc [.ref (G 2 0), .int p1, .int p2, .ref o] (rwX D (tysA cI cS cJ) (hW cI cS cJ G o q) sz)) (va_Qi post (xQ D (hW cI cS cJ G o) (hW cI cS cJ G o q) sz) (va_A (hW cI cS cJ G o q) sz)) 1 6 (va_A (hW cI cS cJ G o q) sz) := by
  refine mkH (wf := hW cI cS cJ G o) (by decide +kernel) rfl (Nat.le_of_ble_eq_true rfl) (fun {p e s m args below meth c Q ls A H locs} hx hb F hts hown hT hK hV hH hP hD hS hA hl hQ => ?_)
  have hl : lv_has ls 5 [(0, .ref (G 2 0)), (1, .int p1), (2, .int p2), (3, .ref o)] := hl
  unfold wp_L_uncover at h
  refine lv_aload_n hx hb dL_uncover_0 rfl (lv_at hl 3 rfl) ?_
  refine lv_iconst (v := (0 : Int32)) hx hb dL_uncover_1 (by decide) ?_
  refine lv_aload_n hx hb dL_uncover_2 rfl (lv_at hl 0 rfl) ?_
  refine lv_iload_n hx hb dL_uncover_3 rfl (lv_at hl 1 rfl) ?_
  refine lv_iload_n hx hb dL_uncover_4 rfl (lv_at hl 2 rfl) ?_
  refine rxVi (wc := neW cI cS G q.1) (wr := [(o, .inl (cJ, 1, .inr (.inl q.2)))]) (As := [.int p1, .int p2]) (rest := [.int (0 : Int32), .ref o]) List.perm_append_comm F (c_X3_uncover l hst D cI cS cJ G q.1 H.size p1 p2 h) (cw_L_32 hts (Nat.le_of_ble_eq_true rfl) (Nat.le_of_ble_eq_true rfl)) hK hV hH hP hD hS hA (recv (ci := 3) (k0 := 1) hK hP rfl rfl) rfl hl.1 rfl (Nat.le_of_ble_eq_true rfl) dL_uncover_5 ⟨(Nat.le_of_ble_eq_true rfl), (Nat.le_of_ble_eq_true rfl)⟩ (fun {k u E ce q9 H locs} h hE9 hP hD hS h1 h2 h3 => ?_) (fun r1 u2 H locs h hP hD hS => ?_)
  · subst hE9
    have hP : va_P D vwCl (hW cI cS cJ G o (u, q.2)) H := vP_perm List.perm_append_comm hP
    have hD : va_D A (hW cI cS cJ G o (u, q.2)) := vD_perm List.perm_append_comm hD
    rcases h with ⟨rfl, h⟩ | ⟨rfl, h⟩
    · refine vx_catch (name := exE 1) hown ((tableOf [(0, 10, 13, 13), (0, 10, 17, 19)]).take 0) ((tableOf [(0, 10, 13, 13), (0, 10, 17, 19)])[0]) ((tableOf [(0, 10, 13, 13), (0, 10, 17, 19)]).drop 1) (hT.trans rfl) (fun _ h => nomatch h) rfl (by decide) (hts _ q_346) (va_Nw.use rfl (hV.1 1 (Or.inl rfl))) h1 h2 h3 ?_
      refine lv_astore (lv' := [(4, .ref q9), (0, .ref (G 2 0)), (1, .int p1), (2, .int p2), (3, .ref o)]) hx hb dL_uncover_13 hl (by decide) rfl (fun ls hl => ?_)
      refine lv_iconst (v := (1 : Int32)) hx hb dL_uncover_15 (by decide) ?_
      exact hQ h hP hD hS dL_uncover_16
    · refine vx_catch (name := exE 2) hown ((tableOf [(0, 10, 13, 13), (0, 10, 17, 19)]).take 1) ((tableOf [(0, 10, 13, 13), (0, 10, 17, 19)])[1]) ((tableOf [(0, 10, 13, 13), (0, 10, 17, 19)]).drop 2) (hT.trans rfl) (List.forall_mem_cons.mpr ⟨Or.inr ⟨by decide, exE 1, hts _ q_346, hV.2.2.2 2 1 (Or.inr (Or.inl rfl)) (Or.inl rfl) (by decide)⟩, (fun _ h => nomatch h)⟩) rfl (by decide) (hts _ q_487) (va_Nw.use rfl (hV.1 2 (Or.inr (Or.inl rfl)))) h1 h2 h3 ?_
      refine lv_astore (lv' := [(4, .ref q9), (0, .ref (G 2 0)), (1, .int p1), (2, .int p2), (3, .ref o)]) hx hb dL_uncover_17 hl (by decide) rfl (fun ls hl => ?_)
      refine lv_iconst (v := (2 : Int32)) hx hb dL_uncover_19 (by decide) ?_
      exact hQ h hP hD hS dL_uncover_20
  have hP : va_P D vwCl (hW cI cS cJ G o (u2, q.2)) H := vP_perm List.perm_append_comm hP
  have hD : va_D A (hW cI cS cJ G o (u2, q.2)) := vD_perm List.perm_append_comm hD
  refine lv_i2l (v := (Int32.toInt64 r1)) hx hb dL_uncover_8 rfl ?_
  refine va_last hx hb hK.k hP hD hS 0 2 rfl rfl in01 dL_uncover_9 (fun H locs hP hD hS => ?_)
  have hP : va_P D vwCl (hW cI cS cJ G o (u2, vp_updL q.2 (Int32.toNatClampNeg (0 : Int32)) (Int32.toInt64 r1))) H := hP
  have hD : va_D A (hW cI cS cJ G o (u2, vp_updL q.2 (Int32.toNatClampNeg (0 : Int32)) (Int32.toInt64 r1))) := hD
  refine lv_goto (tgt := 21) hx hb dL_uncover_10 (by decide) ?_
  refine lv_iconst (v := (0 : Int32)) hx hb dL_uncover_21 (by decide) ?_
  exact hQ h hP hD hS dL_uncover_22

def wp_L_lay (q : Ne × (Nat → Int64)) (p1 p2 p3 p4 : Int32) (post : Int32 → Ne × (Nat → Int64) → Prop) : Prop :=
  wp_X3_lay q.1 p1 p2 p3 p4 (fun r1 u2 => post (0 : Int32) (u2, vp_updL q.2 (Int32.toNatClampNeg (0 : Int32)) (Int32.toInt64 r1))) (fun k9 u9 => (k9 = 1 ∧ post 1 (u9, q.2)) ∨ (k9 = 2 ∧ post 2 (u9, q.2)) ∨ (k9 = 3 ∧ post 3 (u9, q.2)))
set_option maxHeartbeats 4000000 in
set_option maxRecDepth 100000 in
theorem c_L_lay (l : Launch) (hst : l.stackTraces = false) (D : va_G) (cI cS cJ : ClassId) (G : Nat → Nat → Nat) (o : Nat) (q : Ne × (Nat → Int64)) (sz : Nat) (p1 p2 p3 p4 : Int32) {post : Int32 → Ne × (Nat → Int64) → Prop} (h : wp_L_lay q p1 p2 p3 p4 post) : Met l yL_lay (Cond.codeWith yL_lay cL_lay 7 (some .int) [(0, 14, 17, 13), (0, 14, 21, 19), (0, 14, 25, 39)] :: wsT) rm_L_lay (va_Pc [.ref (G 2 0), .int p1, .int p2, .int p3, .int p4, .ref o] (rwX D (tysA cI cS cJ) (hW cI cS cJ G o q) sz)) (va_Qi post (xQ D (hW cI cS cJ G o) (hW cI cS cJ G o q) sz) (va_A (hW cI cS cJ G o q) sz)) 1 6 (va_A (hW cI cS cJ G o q) sz) := by
  refine mkH (wf := hW cI cS cJ G o) (by decide +kernel) rfl (Nat.le_of_ble_eq_true rfl) (fun {p e s m args below meth c Q ls A H locs} hx hb F hts hown hT hK hV hH hP hD hS hA hl hQ => ?_)
  have hl : lv_has ls 7 [(0, .ref (G 2 0)), (1, .int p1), (2, .int p2), (3, .int p3), (4, .int p4), (5, .ref o)] := hl
  unfold wp_L_lay at h
  refine lv_aload hx hb dL_lay_0 (lv_at hl 5 rfl) ?_
  refine lv_iconst (v := (0 : Int32)) hx hb dL_lay_2 (by decide) ?_
  refine lv_aload_n hx hb dL_lay_3 rfl (lv_at hl 0 rfl) ?_
  refine lv_iload_n hx hb dL_lay_4 rfl (lv_at hl 1 rfl) ?_
  refine lv_iload_n hx hb dL_lay_5 rfl (lv_at hl 2 rfl) ?_
  refine lv_iload_n hx hb dL_lay_6 rfl (lv_at hl 3 rfl) ?_
  refine lv_iload hx hb dL_lay_7 (lv_at hl 4 rfl) ?_
  refine rxVi (wc := neW cI cS G q.1) (wr := [(o, .inl (cJ, 1, .inr (.inl q.2)))]) (As := [.int p1, .int p2, .int p3, .int p4]) (rest := [.int (0 : Int32), .ref o]) List.perm_append_comm F (c_X3_lay l hst D cI cS cJ G q.1 H.size p1 p2 p3 p4 h) (cw_L_35 hts (Nat.le_of_ble_eq_true rfl) (Nat.le_of_ble_eq_true rfl)) hK hV hH hP hD hS hA (recv (ci := 3) (k0 := 1) hK hP rfl rfl) rfl hl.1 rfl (Nat.le_of_ble_eq_true rfl) dL_lay_9 ⟨(Nat.le_of_ble_eq_true rfl), (Nat.le_of_ble_eq_true rfl)⟩ (fun {k u E ce q9 H locs} h hE9 hP hD hS h1 h2 h3 => ?_) (fun r1 u2 H locs h hP hD hS => ?_)
  · subst hE9
    have hP : va_P D vwCl (hW cI cS cJ G o (u, q.2)) H := vP_perm List.perm_append_comm hP
    have hD : va_D A (hW cI cS cJ G o (u, q.2)) := vD_perm List.perm_append_comm hD
    rcases h with ⟨rfl, h⟩ | ⟨rfl, h⟩ | ⟨rfl, h⟩
    · refine vx_catch (name := exE 1) hown ((tableOf [(0, 14, 17, 13), (0, 14, 21, 19), (0, 14, 25, 39)]).take 0) ((tableOf [(0, 14, 17, 13), (0, 14, 21, 19), (0, 14, 25, 39)])[0]) ((tableOf [(0, 14, 17, 13), (0, 14, 21, 19), (0, 14, 25, 39)]).drop 1) (hT.trans rfl) (fun _ h => nomatch h) rfl (by decide) (hts _ q_346) (va_Nw.use rfl (hV.1 1 (Or.inl rfl))) h1 h2 h3 ?_
      refine lv_astore (lv' := [(6, .ref q9), (0, .ref (G 2 0)), (1, .int p1), (2, .int p2), (3, .int p3), (4, .int p4), (5, .ref o)]) hx hb dL_lay_17 hl (by decide) rfl (fun ls hl => ?_)
      refine lv_iconst (v := (1 : Int32)) hx hb dL_lay_19 (by decide) ?_
      exact hQ h hP hD hS dL_lay_20
    · refine vx_catch (name := exE 2) hown ((tableOf [(0, 14, 17, 13), (0, 14, 21, 19), (0, 14, 25, 39)]).take 1) ((tableOf [(0, 14, 17, 13), (0, 14, 21, 19), (0, 14, 25, 39)])[1]) ((tableOf [(0, 14, 17, 13), (0, 14, 21, 19), (0, 14, 25, 39)]).drop 2) (hT.trans rfl) (List.forall_mem_cons.mpr ⟨Or.inr ⟨by decide, exE 1, hts _ q_346, hV.2.2.2 2 1 (Or.inr (Or.inl rfl)) (Or.inl rfl) (by decide)⟩, (fun _ h => nomatch h)⟩) rfl (by decide) (hts _ q_487) (va_Nw.use rfl (hV.1 2 (Or.inr (Or.inl rfl)))) h1 h2 h3 ?_
      refine lv_astore (lv' := [(6, .ref q9), (0, .ref (G 2 0)), (1, .int p1), (2, .int p2), (3, .int p3), (4, .int p4), (5, .ref o)]) hx hb dL_lay_21 hl (by decide) rfl (fun ls hl => ?_)
      refine lv_iconst (v := (2 : Int32)) hx hb dL_lay_23 (by decide) ?_
      exact hQ h hP hD hS dL_lay_24
    · refine vx_catch (name := exE 3) hown ((tableOf [(0, 14, 17, 13), (0, 14, 21, 19), (0, 14, 25, 39)]).take 2) ((tableOf [(0, 14, 17, 13), (0, 14, 21, 19), (0, 14, 25, 39)])[2]) ((tableOf [(0, 14, 17, 13), (0, 14, 21, 19), (0, 14, 25, 39)]).drop 3) (hT.trans rfl) (List.forall_mem_cons.mpr ⟨Or.inr ⟨by decide, exE 1, hts _ q_346, hV.2.2.2 3 1 (Or.inr (Or.inr rfl)) (Or.inl rfl) (by decide)⟩, (List.forall_mem_cons.mpr ⟨Or.inr ⟨by decide, exE 2, hts _ q_487, hV.2.2.2 3 2 (Or.inr (Or.inr rfl)) (Or.inr (Or.inl rfl)) (by decide)⟩, (fun _ h => nomatch h)⟩)⟩) rfl (by decide) (hts _ q_541) (va_Nw.use rfl (hV.1 3 (Or.inr (Or.inr rfl)))) h1 h2 h3 ?_
      refine lv_astore (lv' := [(6, .ref q9), (0, .ref (G 2 0)), (1, .int p1), (2, .int p2), (3, .int p3), (4, .int p4), (5, .ref o)]) hx hb dL_lay_25 hl (by decide) rfl (fun ls hl => ?_)
      refine lv_iconst (v := (3 : Int32)) hx hb dL_lay_27 (by decide) ?_
      exact hQ h hP hD hS dL_lay_28
  have hP : va_P D vwCl (hW cI cS cJ G o (u2, q.2)) H := vP_perm List.perm_append_comm hP
  have hD : va_D A (hW cI cS cJ G o (u2, q.2)) := vD_perm List.perm_append_comm hD
  refine lv_i2l (v := (Int32.toInt64 r1)) hx hb dL_lay_12 rfl ?_
  refine va_last hx hb hK.k hP hD hS 0 2 rfl rfl in01 dL_lay_13 (fun H locs hP hD hS => ?_)
  have hP : va_P D vwCl (hW cI cS cJ G o (u2, vp_updL q.2 (Int32.toNatClampNeg (0 : Int32)) (Int32.toInt64 r1))) H := hP
  have hD : va_D A (hW cI cS cJ G o (u2, vp_updL q.2 (Int32.toNatClampNeg (0 : Int32)) (Int32.toInt64 r1))) := hD
  refine lv_goto (tgt := 29) hx hb dL_lay_14 (by decide) ?_
  refine lv_iconst (v := (0 : Int32)) hx hb dL_lay_29 (by decide) ?_
  exact hQ h hP hD hS dL_lay_30

def wp_L_takeUp (q : Ne × (Nat → Int64))  (post : Int32 → Ne × (Nat → Int64) → Prop) : Prop :=
  wp_X3_takeUp q.1  (fun r1 u2 => post (0 : Int32) (u2, vp_updL q.2 (Int32.toNatClampNeg (0 : Int32)) (Int32.toInt64 r1))) (fun k9 u9 => (k9 = 3 ∧ post 1 (u9, q.2)))
set_option maxHeartbeats 4000000 in
set_option maxRecDepth 100000 in
theorem c_L_takeUp (l : Launch) (hst : l.stackTraces = false) (D : va_G) (cI cS cJ : ClassId) (G : Nat → Nat → Nat) (o : Nat) (q : Ne × (Nat → Int64)) (sz : Nat)  {post : Int32 → Ne × (Nat → Int64) → Prop} (h : wp_L_takeUp q  post) : Met l yL_takeUp (Cond.codeWith yL_takeUp cL_takeUp 3 (some .int) [(0, 8, 11, 39)] :: wsT) rm_L_takeUp (va_Pc [.ref (G 2 0), .ref o] (rwX D (tysA cI cS cJ) (hW cI cS cJ G o q) sz)) (va_Qi post (xQ D (hW cI cS cJ G o) (hW cI cS cJ G o q) sz) (va_A (hW cI cS cJ G o q) sz)) 1 6 (va_A (hW cI cS cJ G o q) sz) := by
  refine mkH (wf := hW cI cS cJ G o) (by decide +kernel) rfl (Nat.le_of_ble_eq_true rfl) (fun {p e s m args below meth c Q ls A H locs} hx hb F hts hown hT hK hV hH hP hD hS hA hl hQ => ?_)
  have hl : lv_has ls 3 [(0, .ref (G 2 0)), (1, .ref o)] := hl
  unfold wp_L_takeUp at h
  refine lv_aload_n hx hb dL_takeUp_0 rfl (lv_at hl 1 rfl) ?_
  refine lv_iconst (v := (0 : Int32)) hx hb dL_takeUp_1 (by decide) ?_
  refine lv_aload_n hx hb dL_takeUp_2 rfl (lv_at hl 0 rfl) ?_
  refine rxVi (wc := neW cI cS G q.1) (wr := [(o, .inl (cJ, 1, .inr (.inl q.2)))]) (As := []) (rest := [.int (0 : Int32), .ref o]) List.perm_append_comm F (c_X3_takeUp l hst D cI cS cJ G q.1 H.size  h) (cw_L_41 hts (Nat.le_of_ble_eq_true rfl) (Nat.le_of_ble_eq_true rfl)) hK hV hH hP hD hS hA (recv (ci := 3) (k0 := 1) hK hP rfl rfl) rfl hl.1 rfl (Nat.le_of_ble_eq_true rfl) dL_takeUp_3 ⟨(Nat.le_of_ble_eq_true rfl), (Nat.le_of_ble_eq_true rfl)⟩ (fun {k u E ce q9 H locs} h hE9 hP hD hS h1 h2 h3 => ?_) (fun r1 u2 H locs h hP hD hS => ?_)
  · subst hE9
    have hP : va_P D vwCl (hW cI cS cJ G o (u, q.2)) H := vP_perm List.perm_append_comm hP
    have hD : va_D A (hW cI cS cJ G o (u, q.2)) := vD_perm List.perm_append_comm hD
    rcases h with ⟨rfl, h⟩
    · refine vx_catch (name := exE 3) hown ((tableOf [(0, 8, 11, 39)]).take 0) ((tableOf [(0, 8, 11, 39)])[0]) ((tableOf [(0, 8, 11, 39)]).drop 1) (hT.trans rfl) (fun _ h => nomatch h) rfl (by decide) (hts _ q_541) (va_Nw.use rfl (hV.1 3 (Or.inr (Or.inr rfl)))) h1 h2 h3 ?_
      refine lv_astore_n (lv' := [(2, .ref q9), (0, .ref (G 2 0)), (1, .ref o)]) hx hb dL_takeUp_11 rfl hl (by decide) rfl (fun ls hl => ?_)
      refine lv_iconst (v := (1 : Int32)) hx hb dL_takeUp_12 (by decide) ?_
      exact hQ h hP hD hS dL_takeUp_13
  have hP : va_P D vwCl (hW cI cS cJ G o (u2, q.2)) H := vP_perm List.perm_append_comm hP
  have hD : va_D A (hW cI cS cJ G o (u2, q.2)) := vD_perm List.perm_append_comm hD
  refine lv_i2l (v := (Int32.toInt64 r1)) hx hb dL_takeUp_6 rfl ?_
  refine va_last hx hb hK.k hP hD hS 0 2 rfl rfl in01 dL_takeUp_7 (fun H locs hP hD hS => ?_)
  have hP : va_P D vwCl (hW cI cS cJ G o (u2, vp_updL q.2 (Int32.toNatClampNeg (0 : Int32)) (Int32.toInt64 r1))) H := hP
  have hD : va_D A (hW cI cS cJ G o (u2, vp_updL q.2 (Int32.toNatClampNeg (0 : Int32)) (Int32.toInt64 r1))) := hD
  refine lv_goto (tgt := 14) hx hb dL_takeUp_8 (by decide) ?_
  refine lv_iconst (v := (0 : Int32)) hx hb dL_takeUp_14 (by decide) ?_
  exact hQ h hP hD hS dL_takeUp_15

def wp_L_inn (q : Ne × (Nat → Int64)) (p1 p2 : Int32) (post : Int32 → Ne × (Nat → Int64) → Prop) : Prop :=
  wp_X3_inn q.1 p1 p2 (fun r1 u2 => post (0 : Int32) (u2, vp_updL q.2 (Int32.toNatClampNeg (0 : Int32)) (Int32.toInt64 r1))) (fun k9 u9 => (k9 = 1 ∧ post 1 (u9, q.2)))
set_option maxHeartbeats 4000000 in
set_option maxRecDepth 100000 in
theorem c_L_inn (l : Launch) (hst : l.stackTraces = false) (D : va_G) (cI cS cJ : ClassId) (G : Nat → Nat → Nat) (o : Nat) (q : Ne × (Nat → Int64)) (sz : Nat) (p1 p2 : Int32) {post : Int32 → Ne × (Nat → Int64) → Prop} (h : wp_L_inn q p1 p2 post) : Met l yL_inn (Cond.codeWith yL_inn cL_inn 5 (some .int) [(0, 10, 13, 13)] :: wsT) rm_L_inn (va_Pc [.ref (G 2 0), .int p1, .int p2, .ref o] (rwX D (tysA cI cS cJ) (hW cI cS cJ G o q) sz)) (va_Qi post (xQ D (hW cI cS cJ G o) (hW cI cS cJ G o q) sz) (va_A (hW cI cS cJ G o q) sz)) 1 6 (va_A (hW cI cS cJ G o q) sz) := by
  refine mkH (wf := hW cI cS cJ G o) (by decide +kernel) rfl (Nat.le_of_ble_eq_true rfl) (fun {p e s m args below meth c Q ls A H locs} hx hb F hts hown hT hK hV hH hP hD hS hA hl hQ => ?_)
  have hl : lv_has ls 5 [(0, .ref (G 2 0)), (1, .int p1), (2, .int p2), (3, .ref o)] := hl
  unfold wp_L_inn at h
  refine lv_aload_n hx hb dL_inn_0 rfl (lv_at hl 3 rfl) ?_
  refine lv_iconst (v := (0 : Int32)) hx hb dL_inn_1 (by decide) ?_
  refine lv_aload_n hx hb dL_inn_2 rfl (lv_at hl 0 rfl) ?_
  refine lv_iload_n hx hb dL_inn_3 rfl (lv_at hl 1 rfl) ?_
  refine lv_iload_n hx hb dL_inn_4 rfl (lv_at hl 2 rfl) ?_
  refine rxVi (wc := neW cI cS G q.1) (wr := [(o, .inl (cJ, 1, .inr (.inl q.2)))]) (As := [.int p1, .int p2]) (rest := [.int (0 : Int32), .ref o]) List.perm_append_comm F (c_X3_inn l hst D cI cS cJ G q.1 H.size p1 p2 h) (cw_L_45 hts (Nat.le_of_ble_eq_true rfl) (Nat.le_of_ble_eq_true rfl)) hK hV hH hP hD hS hA (recv (ci := 3) (k0 := 1) hK hP rfl rfl) rfl hl.1 rfl (Nat.le_of_ble_eq_true rfl) dL_inn_5 ⟨(Nat.le_of_ble_eq_true rfl), (Nat.le_of_ble_eq_true rfl)⟩ (fun {k u E ce q9 H locs} h hE9 hP hD hS h1 h2 h3 => ?_) (fun r1 u2 H locs h hP hD hS => ?_)
  · subst hE9
    have hP : va_P D vwCl (hW cI cS cJ G o (u, q.2)) H := vP_perm List.perm_append_comm hP
    have hD : va_D A (hW cI cS cJ G o (u, q.2)) := vD_perm List.perm_append_comm hD
    rcases h with ⟨rfl, h⟩
    · refine vx_catch (name := exE 1) hown ((tableOf [(0, 10, 13, 13)]).take 0) ((tableOf [(0, 10, 13, 13)])[0]) ((tableOf [(0, 10, 13, 13)]).drop 1) (hT.trans rfl) (fun _ h => nomatch h) rfl (by decide) (hts _ q_346) (va_Nw.use rfl (hV.1 1 (Or.inl rfl))) h1 h2 h3 ?_
      refine lv_astore (lv' := [(4, .ref q9), (0, .ref (G 2 0)), (1, .int p1), (2, .int p2), (3, .ref o)]) hx hb dL_inn_13 hl (by decide) rfl (fun ls hl => ?_)
      refine lv_iconst (v := (1 : Int32)) hx hb dL_inn_15 (by decide) ?_
      exact hQ h hP hD hS dL_inn_16
  have hP : va_P D vwCl (hW cI cS cJ G o (u2, q.2)) H := vP_perm List.perm_append_comm hP
  have hD : va_D A (hW cI cS cJ G o (u2, q.2)) := vD_perm List.perm_append_comm hD
  refine lv_i2l (v := (Int32.toInt64 r1)) hx hb dL_inn_8 rfl ?_
  refine va_last hx hb hK.k hP hD hS 0 2 rfl rfl in01 dL_inn_9 (fun H locs hP hD hS => ?_)
  have hP : va_P D vwCl (hW cI cS cJ G o (u2, vp_updL q.2 (Int32.toNatClampNeg (0 : Int32)) (Int32.toInt64 r1))) H := hP
  have hD : va_D A (hW cI cS cJ G o (u2, vp_updL q.2 (Int32.toNatClampNeg (0 : Int32)) (Int32.toInt64 r1))) := hD
  refine lv_goto (tgt := 17) hx hb dL_inn_10 (by decide) ?_
  refine lv_iconst (v := (0 : Int32)) hx hb dL_inn_17 (by decide) ?_
  exact hQ h hP hD hS dL_inn_18

def wp_L_hall (q : Ne × (Nat → Int64)) (p1 : Int32) (post : Int32 → Ne × (Nat → Int64) → Prop) : Prop :=
  wp_X3_hall q.1 p1 (fun r1 u2 => post (0 : Int32) (u2, vp_updL q.2 (Int32.toNatClampNeg (0 : Int32)) (Int32.toInt64 r1))) (fun k9 u9 => (k9 = 1 ∧ post 1 (u9, q.2)))
set_option maxHeartbeats 4000000 in
set_option maxRecDepth 100000 in
theorem c_L_hall (l : Launch) (hst : l.stackTraces = false) (D : va_G) (cI cS cJ : ClassId) (G : Nat → Nat → Nat) (o : Nat) (q : Ne × (Nat → Int64)) (sz : Nat) (p1 : Int32) {post : Int32 → Ne × (Nat → Int64) → Prop} (h : wp_L_hall q p1 post) : Met l yL_hall (Cond.codeWith yL_hall cL_hall 4 (some .int) [(0, 9, 12, 13)] :: wsT) rm_L_hall (va_Pc [.ref (G 2 0), .int p1, .ref o] (rwX D (tysA cI cS cJ) (hW cI cS cJ G o q) sz)) (va_Qi post (xQ D (hW cI cS cJ G o) (hW cI cS cJ G o q) sz) (va_A (hW cI cS cJ G o q) sz)) 1 6 (va_A (hW cI cS cJ G o q) sz) := by
  refine mkH (wf := hW cI cS cJ G o) (by decide +kernel) rfl (Nat.le_of_ble_eq_true rfl) (fun {p e s m args below meth c Q ls A H locs} hx hb F hts hown hT hK hV hH hP hD hS hA hl hQ => ?_)
  have hl : lv_has ls 4 [(0, .ref (G 2 0)), (1, .int p1), (2, .ref o)] := hl
  unfold wp_L_hall at h
  refine lv_aload_n hx hb dL_hall_0 rfl (lv_at hl 2 rfl) ?_
  refine lv_iconst (v := (0 : Int32)) hx hb dL_hall_1 (by decide) ?_
  refine lv_aload_n hx hb dL_hall_2 rfl (lv_at hl 0 rfl) ?_
  refine lv_iload_n hx hb dL_hall_3 rfl (lv_at hl 1 rfl) ?_
  refine rxVi (wc := neW cI cS G q.1) (wr := [(o, .inl (cJ, 1, .inr (.inl q.2)))]) (As := [.int p1]) (rest := [.int (0 : Int32), .ref o]) List.perm_append_comm F (c_X3_hall l hst D cI cS cJ G q.1 H.size p1 h) (cw_L_48 hts (Nat.le_of_ble_eq_true rfl) (Nat.le_of_ble_eq_true rfl)) hK hV hH hP hD hS hA (recv (ci := 3) (k0 := 1) hK hP rfl rfl) rfl hl.1 rfl (Nat.le_of_ble_eq_true rfl) dL_hall_4 ⟨(Nat.le_of_ble_eq_true rfl), (Nat.le_of_ble_eq_true rfl)⟩ (fun {k u E ce q9 H locs} h hE9 hP hD hS h1 h2 h3 => ?_) (fun r1 u2 H locs h hP hD hS => ?_)
  · subst hE9
    have hP : va_P D vwCl (hW cI cS cJ G o (u, q.2)) H := vP_perm List.perm_append_comm hP
    have hD : va_D A (hW cI cS cJ G o (u, q.2)) := vD_perm List.perm_append_comm hD
    rcases h with ⟨rfl, h⟩
    · refine vx_catch (name := exE 1) hown ((tableOf [(0, 9, 12, 13)]).take 0) ((tableOf [(0, 9, 12, 13)])[0]) ((tableOf [(0, 9, 12, 13)]).drop 1) (hT.trans rfl) (fun _ h => nomatch h) rfl (by decide) (hts _ q_346) (va_Nw.use rfl (hV.1 1 (Or.inl rfl))) h1 h2 h3 ?_
      refine lv_astore_n (lv' := [(3, .ref q9), (0, .ref (G 2 0)), (1, .int p1), (2, .ref o)]) hx hb dL_hall_12 rfl hl (by decide) rfl (fun ls hl => ?_)
      refine lv_iconst (v := (1 : Int32)) hx hb dL_hall_13 (by decide) ?_
      exact hQ h hP hD hS dL_hall_14
  have hP : va_P D vwCl (hW cI cS cJ G o (u2, q.2)) H := vP_perm List.perm_append_comm hP
  have hD : va_D A (hW cI cS cJ G o (u2, q.2)) := vD_perm List.perm_append_comm hD
  refine lv_i2l (v := (Int32.toInt64 r1)) hx hb dL_hall_7 rfl ?_
  refine va_last hx hb hK.k hP hD hS 0 2 rfl rfl in01 dL_hall_8 (fun H locs hP hD hS => ?_)
  have hP : va_P D vwCl (hW cI cS cJ G o (u2, vp_updL q.2 (Int32.toNatClampNeg (0 : Int32)) (Int32.toInt64 r1))) H := hP
  have hD : va_D A (hW cI cS cJ G o (u2, vp_updL q.2 (Int32.toNatClampNeg (0 : Int32)) (Int32.toInt64 r1))) := hD
  refine lv_goto (tgt := 15) hx hb dL_hall_9 (by decide) ?_
  refine lv_iconst (v := (0 : Int32)) hx hb dL_hall_15 (by decide) ?_
  exact hQ h hP hD hS dL_hall_16

def wp_L_stands (q : Ne × (Nat → Int64)) (p1 : Int32) (post : Int32 → Ne × (Nat → Int64) → Prop) : Prop :=
  wp_X3_stands q.1 p1 (fun r1 u3 => jn (fun (x4 : Int64) => post (0 : Int32) (u3, vp_updL q.2 (Int32.toNatClampNeg (0 : Int32)) x4)) (fun (J5 : Int64 → Prop) => (r1 = 0 → J5 (0 : Int64)) ∧ (¬ r1 = 0 → J5 (1 : Int64)))) (fun k9 u9 => (k9 = 1 ∧ post 1 (u9, q.2)))
set_option maxHeartbeats 4000000 in
set_option maxRecDepth 100000 in
theorem c_L_stands (l : Launch) (hst : l.stackTraces = false) (D : va_G) (cI cS cJ : ClassId) (G : Nat → Nat → Nat) (o : Nat) (q : Ne × (Nat → Int64)) (sz : Nat) (p1 : Int32) {post : Int32 → Ne × (Nat → Int64) → Prop} (h : wp_L_stands q p1 post) : Met l yL_stands (Cond.codeWith yL_stands cL_stands 4 (some .int) [(0, 16, 19, 13)] :: wsT) rm_L_stands (va_Pc [.ref (G 2 0), .int p1, .ref o] (rwX D (tysA cI cS cJ) (hW cI cS cJ G o q) sz)) (va_Qi post (xQ D (hW cI cS cJ G o) (hW cI cS cJ G o q) sz) (va_A (hW cI cS cJ G o q) sz)) 1 6 (va_A (hW cI cS cJ G o q) sz) := by
  refine mkH (wf := hW cI cS cJ G o) (by decide +kernel) rfl (Nat.le_of_ble_eq_true rfl) (fun {p e s m args below meth c Q ls A H locs} hx hb F hts hown hT hK hV hH hP hD hS hA hl hQ => ?_)
  have hl : lv_has ls 4 [(0, .ref (G 2 0)), (1, .int p1), (2, .ref o)] := hl
  unfold wp_L_stands at h
  refine lv_aload_n hx hb dL_stands_0 rfl (lv_at hl 2 rfl) ?_
  refine lv_iconst (v := (0 : Int32)) hx hb dL_stands_1 (by decide) ?_
  refine lv_aload_n hx hb dL_stands_2 rfl (lv_at hl 0 rfl) ?_
  refine lv_iload_n hx hb dL_stands_3 rfl (lv_at hl 1 rfl) ?_
  refine rxVi (wc := neW cI cS G q.1) (wr := [(o, .inl (cJ, 1, .inr (.inl q.2)))]) (As := [.int p1]) (rest := [.int (0 : Int32), .ref o]) List.perm_append_comm F (c_X3_stands l hst D cI cS cJ G q.1 H.size p1 h) (cw_L_51 hts (Nat.le_of_ble_eq_true rfl) (Nat.le_of_ble_eq_true rfl)) hK hV hH hP hD hS hA (recv (ci := 3) (k0 := 1) hK hP rfl rfl) rfl hl.1 rfl (Nat.le_of_ble_eq_true rfl) dL_stands_4 ⟨(Nat.le_of_ble_eq_true rfl), (Nat.le_of_ble_eq_true rfl)⟩ (fun {k u E ce q9 H locs} h hE9 hP hD hS h1 h2 h3 => ?_) (fun r1 u3 H locs h hP hD hS => ?_)
  · subst hE9
    have hP : va_P D vwCl (hW cI cS cJ G o (u, q.2)) H := vP_perm List.perm_append_comm hP
    have hD : va_D A (hW cI cS cJ G o (u, q.2)) := vD_perm List.perm_append_comm hD
    rcases h with ⟨rfl, h⟩
    · refine vx_catch (name := exE 1) hown ((tableOf [(0, 16, 19, 13)]).take 0) ((tableOf [(0, 16, 19, 13)])[0]) ((tableOf [(0, 16, 19, 13)]).drop 1) (hT.trans rfl) (fun _ h => nomatch h) rfl (by decide) (hts _ q_346) (va_Nw.use rfl (hV.1 1 (Or.inl rfl))) h1 h2 h3 ?_
      refine lv_astore_n (lv' := [(3, .ref q9), (0, .ref (G 2 0)), (1, .int p1), (2, .ref o)]) hx hb dL_stands_19 rfl hl (by decide) rfl (fun ls hl => ?_)
      refine lv_iconst (v := (1 : Int32)) hx hb dL_stands_20 (by decide) ?_
      exact hQ h hP hD hS dL_stands_21
  obtain ⟨b2, h⟩ := h
  have hP : va_P D vwCl (hW cI cS cJ G o (u3, q.2)) H := vP_perm List.perm_append_comm hP
  have hD : va_D A (hW cI cS cJ G o (u3, q.2)) := vD_perm List.perm_append_comm hD
  refine jn_e h (fun J5 e7 h => ?_)
  have w6 : ∀ (x4 : Int64) (ls : Array Slot) (H : Heap) (locs : List Loc), lv_has ls 4 [] → va_P D vwCl (hW cI cS cJ G o (u3, q.2)) H → va_D A (hW cI cS cJ G o (u3, q.2)) → va_S A s.heap H locs → J5 x4 → W p l e rm_L_stands s m args below meth c H locs (0 + 1) (0 + 6) Q (F0 m 15 ls [.long x4, .int (0 : Int32), .ref o]) := by
    intro x4 ls H locs hl hP hD hS h
    subst e7
    refine va_last hx hb hK.k hP hD hS 0 2 rfl rfl in01 dL_stands_15 (fun H locs hP hD hS => ?_)
    have hP : va_P D vwCl (hW cI cS cJ G o (u3, vp_updL q.2 (Int32.toNatClampNeg (0 : Int32)) x4)) H := hP
    have hD : va_D A (hW cI cS cJ G o (u3, vp_updL q.2 (Int32.toNatClampNeg (0 : Int32)) x4)) := hD
    refine lv_goto (tgt := 22) hx hb dL_stands_16 (by decide) ?_
    refine lv_iconst (v := (0 : Int32)) hx hb dL_stands_22 (by decide) ?_
    exact hQ h hP hD hS dL_stands_23
  clear e7
  refine lv_if_eq (tgt := 14) hx hb dL_stands_7 (by decide) (fun c8 => ?_) (fun c8 => ?_)
  · replace h := h.1 c8
    refine lv_lconst (v := (0 : Int64)) hx hb dL_stands_14 rfl ?_
    exact w6 (0 : Int64) _ _ _ (lv_sub hl [] rfl) hP hD hS h
  · replace h := h.2 c8
    refine lv_lconst (v := (1 : Int64)) hx hb dL_stands_10 rfl ?_
    refine lv_goto (tgt := 15) hx hb dL_stands_11 (by decide) ?_
    exact w6 (1 : Int64) _ _ _ (lv_sub hl [] rfl) hP hD hS h

def wp_L_see (q : Ne × (Nat → Int64)) (p1 p2 p3 : Int32) (post : Int32 → Ne × (Nat → Int64) → Prop) : Prop :=
  wp_X3_see q.1 p1 p2 p3 (fun r1 u2 => post (0 : Int32) (u2, vp_updL q.2 (Int32.toNatClampNeg (0 : Int32)) (Int32.toInt64 r1))) (fun k9 u9 => (k9 = 1 ∧ post 1 (u9, q.2)))
set_option maxHeartbeats 4000000 in
set_option maxRecDepth 100000 in
theorem c_L_see (l : Launch) (hst : l.stackTraces = false) (D : va_G) (cI cS cJ : ClassId) (G : Nat → Nat → Nat) (o : Nat) (q : Ne × (Nat → Int64)) (sz : Nat) (p1 p2 p3 : Int32) {post : Int32 → Ne × (Nat → Int64) → Prop} (h : wp_L_see q p1 p2 p3 post) : Met l yL_see (Cond.codeWith yL_see cL_see 6 (some .int) [(0, 12, 15, 13)] :: wsT) rm_L_see (va_Pc [.ref (G 2 0), .int p1, .int p2, .int p3, .ref o] (rwX D (tysA cI cS cJ) (hW cI cS cJ G o q) sz)) (va_Qi post (xQ D (hW cI cS cJ G o) (hW cI cS cJ G o q) sz) (va_A (hW cI cS cJ G o q) sz)) 2 12 (va_A (hW cI cS cJ G o q) sz) := by
  refine mkH (wf := hW cI cS cJ G o) (by decide +kernel) rfl (Nat.le_of_ble_eq_true rfl) (fun {p e s m args below meth c Q ls A H locs} hx hb F hts hown hT hK hV hH hP hD hS hA hl hQ => ?_)
  have hl : lv_has ls 6 [(0, .ref (G 2 0)), (1, .int p1), (2, .int p2), (3, .int p3), (4, .ref o)] := hl
  unfold wp_L_see at h
  refine lv_aload hx hb dL_see_0 (lv_at hl 4 rfl) ?_
  refine lv_iconst (v := (0 : Int32)) hx hb dL_see_2 (by decide) ?_
  refine lv_aload_n hx hb dL_see_3 rfl (lv_at hl 0 rfl) ?_
  refine lv_iload_n hx hb dL_see_4 rfl (lv_at hl 1 rfl) ?_
  refine lv_iload_n hx hb dL_see_5 rfl (lv_at hl 2 rfl) ?_
  refine lv_iload_n hx hb dL_see_6 rfl (lv_at hl 3 rfl) ?_
  refine rxVi (wc := neW cI cS G q.1) (wr := [(o, .inl (cJ, 1, .inr (.inl q.2)))]) (As := [.int p1, .int p2, .int p3]) (rest := [.int (0 : Int32), .ref o]) List.perm_append_comm F (c_X3_see l hst D cI cS cJ G q.1 H.size p1 p2 p3 h) (cw_L_54 hts (Nat.le_of_ble_eq_true rfl) (Nat.le_of_ble_eq_true rfl)) hK hV hH hP hD hS hA (recv (ci := 3) (k0 := 1) hK hP rfl rfl) rfl hl.1 rfl (Nat.le_of_ble_eq_true rfl) dL_see_7 ⟨(Nat.le_of_ble_eq_true rfl), (Nat.le_of_ble_eq_true rfl)⟩ (fun {k u E ce q9 H locs} h hE9 hP hD hS h1 h2 h3 => ?_) (fun r1 u2 H locs h hP hD hS => ?_)
  · subst hE9
    have hP : va_P D vwCl (hW cI cS cJ G o (u, q.2)) H := vP_perm List.perm_append_comm hP
    have hD : va_D A (hW cI cS cJ G o (u, q.2)) := vD_perm List.perm_append_comm hD
    rcases h with ⟨rfl, h⟩
    · refine vx_catch (name := exE 1) hown ((tableOf [(0, 12, 15, 13)]).take 0) ((tableOf [(0, 12, 15, 13)])[0]) ((tableOf [(0, 12, 15, 13)]).drop 1) (hT.trans rfl) (fun _ h => nomatch h) rfl (by decide) (hts _ q_346) (va_Nw.use rfl (hV.1 1 (Or.inl rfl))) h1 h2 h3 ?_
      refine lv_astore (lv' := [(5, .ref q9), (0, .ref (G 2 0)), (1, .int p1), (2, .int p2), (3, .int p3), (4, .ref o)]) hx hb dL_see_15 hl (by decide) rfl (fun ls hl => ?_)
      refine lv_iconst (v := (1 : Int32)) hx hb dL_see_17 (by decide) ?_
      exact hQ h hP hD hS dL_see_18
  have hP : va_P D vwCl (hW cI cS cJ G o (u2, q.2)) H := vP_perm List.perm_append_comm hP
  have hD : va_D A (hW cI cS cJ G o (u2, q.2)) := vD_perm List.perm_append_comm hD
  refine lv_i2l (v := (Int32.toInt64 r1)) hx hb dL_see_10 rfl ?_
  refine va_last hx hb hK.k hP hD hS 0 2 rfl rfl in01 dL_see_11 (fun H locs hP hD hS => ?_)
  have hP : va_P D vwCl (hW cI cS cJ G o (u2, vp_updL q.2 (Int32.toNatClampNeg (0 : Int32)) (Int32.toInt64 r1))) H := hP
  have hD : va_D A (hW cI cS cJ G o (u2, vp_updL q.2 (Int32.toNatClampNeg (0 : Int32)) (Int32.toInt64 r1))) := hD
  refine lv_goto (tgt := 19) hx hb dL_see_12 (by decide) ?_
  refine lv_iconst (v := (0 : Int32)) hx hb dL_see_19 (by decide) ?_
  exact hQ h hP hD hS dL_see_20

def wp_L_known (q : Ne × (Nat → Int64)) (p1 : Int32) (post : Int32 → Ne × (Nat → Int64) → Prop) : Prop :=
  wp_X3_known q.1 p1 (fun r1 u2 => post (0 : Int32) (u2, vp_updL q.2 (Int32.toNatClampNeg (0 : Int32)) (Int32.toInt64 r1))) (fun k9 u9 => (k9 = 1 ∧ post 1 (u9, q.2)))
set_option maxHeartbeats 4000000 in
set_option maxRecDepth 100000 in
theorem c_L_known (l : Launch) (hst : l.stackTraces = false) (D : va_G) (cI cS cJ : ClassId) (G : Nat → Nat → Nat) (o : Nat) (q : Ne × (Nat → Int64)) (sz : Nat) (p1 : Int32) {post : Int32 → Ne × (Nat → Int64) → Prop} (h : wp_L_known q p1 post) : Met l yL_known (Cond.codeWith yL_known cL_known 4 (some .int) [(0, 9, 12, 13)] :: wsT) rm_L_known (va_Pc [.ref (G 2 0), .int p1, .ref o] (rwX D (tysA cI cS cJ) (hW cI cS cJ G o q) sz)) (va_Qi post (xQ D (hW cI cS cJ G o) (hW cI cS cJ G o q) sz) (va_A (hW cI cS cJ G o q) sz)) 1 6 (va_A (hW cI cS cJ G o q) sz) := by
  refine mkH (wf := hW cI cS cJ G o) (by decide +kernel) rfl (Nat.le_of_ble_eq_true rfl) (fun {p e s m args below meth c Q ls A H locs} hx hb F hts hown hT hK hV hH hP hD hS hA hl hQ => ?_)
  have hl : lv_has ls 4 [(0, .ref (G 2 0)), (1, .int p1), (2, .ref o)] := hl
  unfold wp_L_known at h
  refine lv_aload_n hx hb dL_known_0 rfl (lv_at hl 2 rfl) ?_
  refine lv_iconst (v := (0 : Int32)) hx hb dL_known_1 (by decide) ?_
  refine lv_aload_n hx hb dL_known_2 rfl (lv_at hl 0 rfl) ?_
  refine lv_iload_n hx hb dL_known_3 rfl (lv_at hl 1 rfl) ?_
  refine rxVi (wc := neW cI cS G q.1) (wr := [(o, .inl (cJ, 1, .inr (.inl q.2)))]) (As := [.int p1]) (rest := [.int (0 : Int32), .ref o]) List.perm_append_comm F (c_X3_known l hst D cI cS cJ G q.1 H.size p1 h) (cw_L_58 hts (Nat.le_of_ble_eq_true rfl) (Nat.le_of_ble_eq_true rfl)) hK hV hH hP hD hS hA (recv (ci := 3) (k0 := 1) hK hP rfl rfl) rfl hl.1 rfl (Nat.le_of_ble_eq_true rfl) dL_known_4 ⟨(Nat.le_of_ble_eq_true rfl), (Nat.le_of_ble_eq_true rfl)⟩ (fun {k u E ce q9 H locs} h hE9 hP hD hS h1 h2 h3 => ?_) (fun r1 u2 H locs h hP hD hS => ?_)
  · subst hE9
    have hP : va_P D vwCl (hW cI cS cJ G o (u, q.2)) H := vP_perm List.perm_append_comm hP
    have hD : va_D A (hW cI cS cJ G o (u, q.2)) := vD_perm List.perm_append_comm hD
    rcases h with ⟨rfl, h⟩
    · refine vx_catch (name := exE 1) hown ((tableOf [(0, 9, 12, 13)]).take 0) ((tableOf [(0, 9, 12, 13)])[0]) ((tableOf [(0, 9, 12, 13)]).drop 1) (hT.trans rfl) (fun _ h => nomatch h) rfl (by decide) (hts _ q_346) (va_Nw.use rfl (hV.1 1 (Or.inl rfl))) h1 h2 h3 ?_
      refine lv_astore_n (lv' := [(3, .ref q9), (0, .ref (G 2 0)), (1, .int p1), (2, .ref o)]) hx hb dL_known_12 rfl hl (by decide) rfl (fun ls hl => ?_)
      refine lv_iconst (v := (1 : Int32)) hx hb dL_known_13 (by decide) ?_
      exact hQ h hP hD hS dL_known_14
  have hP : va_P D vwCl (hW cI cS cJ G o (u2, q.2)) H := vP_perm List.perm_append_comm hP
  have hD : va_D A (hW cI cS cJ G o (u2, q.2)) := vD_perm List.perm_append_comm hD
  refine lv_i2l (v := (Int32.toInt64 r1)) hx hb dL_known_7 rfl ?_
  refine va_last hx hb hK.k hP hD hS 0 2 rfl rfl in01 dL_known_8 (fun H locs hP hD hS => ?_)
  have hP : va_P D vwCl (hW cI cS cJ G o (u2, vp_updL q.2 (Int32.toNatClampNeg (0 : Int32)) (Int32.toInt64 r1))) H := hP
  have hD : va_D A (hW cI cS cJ G o (u2, vp_updL q.2 (Int32.toNatClampNeg (0 : Int32)) (Int32.toInt64 r1))) := hD
  refine lv_goto (tgt := 15) hx hb dL_known_9 (by decide) ?_
  refine lv_iconst (v := (0 : Int32)) hx hb dL_known_15 (by decide) ?_
  exact hQ h hP hD hS dL_known_16

def wp_L_send (q : Ne × (Nat → Int64)) (p1 p2 : Int32) (post : Int32 → Ne × (Nat → Int64) → Prop) : Prop :=
  wp_X3_send q.1 p1 p2 (fun r1 u2 => post (0 : Int32) (u2, vp_updL q.2 (Int32.toNatClampNeg (0 : Int32)) (Int32.toInt64 r1))) (fun k9 u9 => (k9 = 1 ∧ post 1 (u9, q.2)) ∨ (k9 = 2 ∧ post 2 (u9, q.2)) ∨ (k9 = 3 ∧ post 3 (u9, q.2)))
set_option maxHeartbeats 4000000 in
set_option maxRecDepth 100000 in
theorem c_L_send (l : Launch) (hst : l.stackTraces = false) (D : va_G) (cI cS cJ : ClassId) (G : Nat → Nat → Nat) (o : Nat) (q : Ne × (Nat → Int64)) (sz : Nat) (p1 p2 : Int32) {post : Int32 → Ne × (Nat → Int64) → Prop} (h : wp_L_send q p1 p2 post) : Met l yL_send (Cond.codeWith yL_send cL_send 5 (some .int) [(0, 10, 13, 13), (0, 10, 17, 19), (0, 10, 21, 39)] :: wsT) rm_L_send (va_Pc [.ref (G 2 0), .int p1, .int p2, .ref o] (rwX D (tysA cI cS cJ) (hW cI cS cJ G o q) sz)) (va_Qi post (xQ D (hW cI cS cJ G o) (hW cI cS cJ G o q) sz) (va_A (hW cI cS cJ G o q) sz)) 1 6 (va_A (hW cI cS cJ G o q) sz) := by
  refine mkH (wf := hW cI cS cJ G o) (by decide +kernel) rfl (Nat.le_of_ble_eq_true rfl) (fun {p e s m args below meth c Q ls A H locs} hx hb F hts hown hT hK hV hH hP hD hS hA hl hQ => ?_)
  have hl : lv_has ls 5 [(0, .ref (G 2 0)), (1, .int p1), (2, .int p2), (3, .ref o)] := hl
  unfold wp_L_send at h
  refine lv_aload_n hx hb dL_send_0 rfl (lv_at hl 3 rfl) ?_
  refine lv_iconst (v := (0 : Int32)) hx hb dL_send_1 (by decide) ?_
  refine lv_aload_n hx hb dL_send_2 rfl (lv_at hl 0 rfl) ?_
  refine lv_iload_n hx hb dL_send_3 rfl (lv_at hl 1 rfl) ?_
  refine lv_iload_n hx hb dL_send_4 rfl (lv_at hl 2 rfl) ?_
  refine rxVi (wc := neW cI cS G q.1) (wr := [(o, .inl (cJ, 1, .inr (.inl q.2)))]) (As := [.int p1, .int p2]) (rest := [.int (0 : Int32), .ref o]) List.perm_append_comm F (c_X3_send l hst D cI cS cJ G q.1 H.size p1 p2 h) (cw_L_61 hts (Nat.le_of_ble_eq_true rfl) (Nat.le_of_ble_eq_true rfl)) hK hV hH hP hD hS hA (recv (ci := 3) (k0 := 1) hK hP rfl rfl) rfl hl.1 rfl (Nat.le_of_ble_eq_true rfl) dL_send_5 ⟨(Nat.le_of_ble_eq_true rfl), (Nat.le_of_ble_eq_true rfl)⟩ (fun {k u E ce q9 H locs} h hE9 hP hD hS h1 h2 h3 => ?_) (fun r1 u2 H locs h hP hD hS => ?_)
  · subst hE9
    have hP : va_P D vwCl (hW cI cS cJ G o (u, q.2)) H := vP_perm List.perm_append_comm hP
    have hD : va_D A (hW cI cS cJ G o (u, q.2)) := vD_perm List.perm_append_comm hD
    rcases h with ⟨rfl, h⟩ | ⟨rfl, h⟩ | ⟨rfl, h⟩
    · refine vx_catch (name := exE 1) hown ((tableOf [(0, 10, 13, 13), (0, 10, 17, 19), (0, 10, 21, 39)]).take 0) ((tableOf [(0, 10, 13, 13), (0, 10, 17, 19), (0, 10, 21, 39)])[0]) ((tableOf [(0, 10, 13, 13), (0, 10, 17, 19), (0, 10, 21, 39)]).drop 1) (hT.trans rfl) (fun _ h => nomatch h) rfl (by decide) (hts _ q_346) (va_Nw.use rfl (hV.1 1 (Or.inl rfl))) h1 h2 h3 ?_
      refine lv_astore (lv' := [(4, .ref q9), (0, .ref (G 2 0)), (1, .int p1), (2, .int p2), (3, .ref o)]) hx hb dL_send_13 hl (by decide) rfl (fun ls hl => ?_)
      refine lv_iconst (v := (1 : Int32)) hx hb dL_send_15 (by decide) ?_
      exact hQ h hP hD hS dL_send_16
    · refine vx_catch (name := exE 2) hown ((tableOf [(0, 10, 13, 13), (0, 10, 17, 19), (0, 10, 21, 39)]).take 1) ((tableOf [(0, 10, 13, 13), (0, 10, 17, 19), (0, 10, 21, 39)])[1]) ((tableOf [(0, 10, 13, 13), (0, 10, 17, 19), (0, 10, 21, 39)]).drop 2) (hT.trans rfl) (List.forall_mem_cons.mpr ⟨Or.inr ⟨by decide, exE 1, hts _ q_346, hV.2.2.2 2 1 (Or.inr (Or.inl rfl)) (Or.inl rfl) (by decide)⟩, (fun _ h => nomatch h)⟩) rfl (by decide) (hts _ q_487) (va_Nw.use rfl (hV.1 2 (Or.inr (Or.inl rfl)))) h1 h2 h3 ?_
      refine lv_astore (lv' := [(4, .ref q9), (0, .ref (G 2 0)), (1, .int p1), (2, .int p2), (3, .ref o)]) hx hb dL_send_17 hl (by decide) rfl (fun ls hl => ?_)
      refine lv_iconst (v := (2 : Int32)) hx hb dL_send_19 (by decide) ?_
      exact hQ h hP hD hS dL_send_20
    · refine vx_catch (name := exE 3) hown ((tableOf [(0, 10, 13, 13), (0, 10, 17, 19), (0, 10, 21, 39)]).take 2) ((tableOf [(0, 10, 13, 13), (0, 10, 17, 19), (0, 10, 21, 39)])[2]) ((tableOf [(0, 10, 13, 13), (0, 10, 17, 19), (0, 10, 21, 39)]).drop 3) (hT.trans rfl) (List.forall_mem_cons.mpr ⟨Or.inr ⟨by decide, exE 1, hts _ q_346, hV.2.2.2 3 1 (Or.inr (Or.inr rfl)) (Or.inl rfl) (by decide)⟩, (List.forall_mem_cons.mpr ⟨Or.inr ⟨by decide, exE 2, hts _ q_487, hV.2.2.2 3 2 (Or.inr (Or.inr rfl)) (Or.inr (Or.inl rfl)) (by decide)⟩, (fun _ h => nomatch h)⟩)⟩) rfl (by decide) (hts _ q_541) (va_Nw.use rfl (hV.1 3 (Or.inr (Or.inr rfl)))) h1 h2 h3 ?_
      refine lv_astore (lv' := [(4, .ref q9), (0, .ref (G 2 0)), (1, .int p1), (2, .int p2), (3, .ref o)]) hx hb dL_send_21 hl (by decide) rfl (fun ls hl => ?_)
      refine lv_iconst (v := (3 : Int32)) hx hb dL_send_23 (by decide) ?_
      exact hQ h hP hD hS dL_send_24
  have hP : va_P D vwCl (hW cI cS cJ G o (u2, q.2)) H := vP_perm List.perm_append_comm hP
  have hD : va_D A (hW cI cS cJ G o (u2, q.2)) := vD_perm List.perm_append_comm hD
  refine lv_i2l (v := (Int32.toInt64 r1)) hx hb dL_send_8 rfl ?_
  refine va_last hx hb hK.k hP hD hS 0 2 rfl rfl in01 dL_send_9 (fun H locs hP hD hS => ?_)
  have hP : va_P D vwCl (hW cI cS cJ G o (u2, vp_updL q.2 (Int32.toNatClampNeg (0 : Int32)) (Int32.toInt64 r1))) H := hP
  have hD : va_D A (hW cI cS cJ G o (u2, vp_updL q.2 (Int32.toNatClampNeg (0 : Int32)) (Int32.toInt64 r1))) := hD
  refine lv_goto (tgt := 25) hx hb dL_send_10 (by decide) ?_
  refine lv_iconst (v := (0 : Int32)) hx hb dL_send_25 (by decide) ?_
  exact hQ h hP hD hS dL_send_26

def wp_L_answer (q : Ne × (Nat → Int64)) (p1 p2 : Int32) (post : Int32 → Ne × (Nat → Int64) → Prop) : Prop :=
  wp_X3_answer q.1 p1 p2 (fun r1 u2 => post (0 : Int32) (u2, vp_updL q.2 (Int32.toNatClampNeg (0 : Int32)) (Int32.toInt64 r1))) (fun k9 u9 => (k9 = 1 ∧ post 1 (u9, q.2)) ∨ (k9 = 2 ∧ post 2 (u9, q.2)) ∨ (k9 = 3 ∧ post 3 (u9, q.2)))
set_option maxHeartbeats 4000000 in
set_option maxRecDepth 100000 in
theorem c_L_answer (l : Launch) (hst : l.stackTraces = false) (D : va_G) (cI cS cJ : ClassId) (G : Nat → Nat → Nat) (o : Nat) (q : Ne × (Nat → Int64)) (sz : Nat) (p1 p2 : Int32) {post : Int32 → Ne × (Nat → Int64) → Prop} (h : wp_L_answer q p1 p2 post) : Met l yL_answer (Cond.codeWith yL_answer cL_answer 5 (some .int) [(0, 10, 13, 13), (0, 10, 17, 19), (0, 10, 21, 39)] :: wsT) rm_L_answer (va_Pc [.ref (G 2 0), .int p1, .int p2, .ref o] (rwX D (tysA cI cS cJ) (hW cI cS cJ G o q) sz)) (va_Qi post (xQ D (hW cI cS cJ G o) (hW cI cS cJ G o q) sz) (va_A (hW cI cS cJ G o q) sz)) 1 6 (va_A (hW cI cS cJ G o q) sz) := by
  refine mkH (wf := hW cI cS cJ G o) (by decide +kernel) rfl (Nat.le_of_ble_eq_true rfl) (fun {p e s m args below meth c Q ls A H locs} hx hb F hts hown hT hK hV hH hP hD hS hA hl hQ => ?_)
  have hl : lv_has ls 5 [(0, .ref (G 2 0)), (1, .int p1), (2, .int p2), (3, .ref o)] := hl
  unfold wp_L_answer at h
  refine lv_aload_n hx hb dL_answer_0 rfl (lv_at hl 3 rfl) ?_
  refine lv_iconst (v := (0 : Int32)) hx hb dL_answer_1 (by decide) ?_
  refine lv_aload_n hx hb dL_answer_2 rfl (lv_at hl 0 rfl) ?_
  refine lv_iload_n hx hb dL_answer_3 rfl (lv_at hl 1 rfl) ?_
  refine lv_iload_n hx hb dL_answer_4 rfl (lv_at hl 2 rfl) ?_
  refine rxVi (wc := neW cI cS G q.1) (wr := [(o, .inl (cJ, 1, .inr (.inl q.2)))]) (As := [.int p1, .int p2]) (rest := [.int (0 : Int32), .ref o]) List.perm_append_comm F (c_X3_answer l hst D cI cS cJ G q.1 H.size p1 p2 h) (cw_L_64 hts (Nat.le_of_ble_eq_true rfl) (Nat.le_of_ble_eq_true rfl)) hK hV hH hP hD hS hA (recv (ci := 3) (k0 := 1) hK hP rfl rfl) rfl hl.1 rfl (Nat.le_of_ble_eq_true rfl) dL_answer_5 ⟨(Nat.le_of_ble_eq_true rfl), (Nat.le_of_ble_eq_true rfl)⟩ (fun {k u E ce q9 H locs} h hE9 hP hD hS h1 h2 h3 => ?_) (fun r1 u2 H locs h hP hD hS => ?_)
  · subst hE9
    have hP : va_P D vwCl (hW cI cS cJ G o (u, q.2)) H := vP_perm List.perm_append_comm hP
    have hD : va_D A (hW cI cS cJ G o (u, q.2)) := vD_perm List.perm_append_comm hD
    rcases h with ⟨rfl, h⟩ | ⟨rfl, h⟩ | ⟨rfl, h⟩
    · refine vx_catch (name := exE 1) hown ((tableOf [(0, 10, 13, 13), (0, 10, 17, 19), (0, 10, 21, 39)]).take 0) ((tableOf [(0, 10, 13, 13), (0, 10, 17, 19), (0, 10, 21, 39)])[0]) ((tableOf [(0, 10, 13, 13), (0, 10, 17, 19), (0, 10, 21, 39)]).drop 1) (hT.trans rfl) (fun _ h => nomatch h) rfl (by decide) (hts _ q_346) (va_Nw.use rfl (hV.1 1 (Or.inl rfl))) h1 h2 h3 ?_
      refine lv_astore (lv' := [(4, .ref q9), (0, .ref (G 2 0)), (1, .int p1), (2, .int p2), (3, .ref o)]) hx hb dL_answer_13 hl (by decide) rfl (fun ls hl => ?_)
      refine lv_iconst (v := (1 : Int32)) hx hb dL_answer_15 (by decide) ?_
      exact hQ h hP hD hS dL_answer_16
    · refine vx_catch (name := exE 2) hown ((tableOf [(0, 10, 13, 13), (0, 10, 17, 19), (0, 10, 21, 39)]).take 1) ((tableOf [(0, 10, 13, 13), (0, 10, 17, 19), (0, 10, 21, 39)])[1]) ((tableOf [(0, 10, 13, 13), (0, 10, 17, 19), (0, 10, 21, 39)]).drop 2) (hT.trans rfl) (List.forall_mem_cons.mpr ⟨Or.inr ⟨by decide, exE 1, hts _ q_346, hV.2.2.2 2 1 (Or.inr (Or.inl rfl)) (Or.inl rfl) (by decide)⟩, (fun _ h => nomatch h)⟩) rfl (by decide) (hts _ q_487) (va_Nw.use rfl (hV.1 2 (Or.inr (Or.inl rfl)))) h1 h2 h3 ?_
      refine lv_astore (lv' := [(4, .ref q9), (0, .ref (G 2 0)), (1, .int p1), (2, .int p2), (3, .ref o)]) hx hb dL_answer_17 hl (by decide) rfl (fun ls hl => ?_)
      refine lv_iconst (v := (2 : Int32)) hx hb dL_answer_19 (by decide) ?_
      exact hQ h hP hD hS dL_answer_20
    · refine vx_catch (name := exE 3) hown ((tableOf [(0, 10, 13, 13), (0, 10, 17, 19), (0, 10, 21, 39)]).take 2) ((tableOf [(0, 10, 13, 13), (0, 10, 17, 19), (0, 10, 21, 39)])[2]) ((tableOf [(0, 10, 13, 13), (0, 10, 17, 19), (0, 10, 21, 39)]).drop 3) (hT.trans rfl) (List.forall_mem_cons.mpr ⟨Or.inr ⟨by decide, exE 1, hts _ q_346, hV.2.2.2 3 1 (Or.inr (Or.inr rfl)) (Or.inl rfl) (by decide)⟩, (List.forall_mem_cons.mpr ⟨Or.inr ⟨by decide, exE 2, hts _ q_487, hV.2.2.2 3 2 (Or.inr (Or.inr rfl)) (Or.inr (Or.inl rfl)) (by decide)⟩, (fun _ h => nomatch h)⟩)⟩) rfl (by decide) (hts _ q_541) (va_Nw.use rfl (hV.1 3 (Or.inr (Or.inr rfl)))) h1 h2 h3 ?_
      refine lv_astore (lv' := [(4, .ref q9), (0, .ref (G 2 0)), (1, .int p1), (2, .int p2), (3, .ref o)]) hx hb dL_answer_21 hl (by decide) rfl (fun ls hl => ?_)
      refine lv_iconst (v := (3 : Int32)) hx hb dL_answer_23 (by decide) ?_
      exact hQ h hP hD hS dL_answer_24
  have hP : va_P D vwCl (hW cI cS cJ G o (u2, q.2)) H := vP_perm List.perm_append_comm hP
  have hD : va_D A (hW cI cS cJ G o (u2, q.2)) := vD_perm List.perm_append_comm hD
  refine lv_i2l (v := (Int32.toInt64 r1)) hx hb dL_answer_8 rfl ?_
  refine va_last hx hb hK.k hP hD hS 0 2 rfl rfl in01 dL_answer_9 (fun H locs hP hD hS => ?_)
  have hP : va_P D vwCl (hW cI cS cJ G o (u2, vp_updL q.2 (Int32.toNatClampNeg (0 : Int32)) (Int32.toInt64 r1))) H := hP
  have hD : va_D A (hW cI cS cJ G o (u2, vp_updL q.2 (Int32.toNatClampNeg (0 : Int32)) (Int32.toInt64 r1))) := hD
  refine lv_goto (tgt := 25) hx hb dL_answer_10 (by decide) ?_
  refine lv_iconst (v := (0 : Int32)) hx hb dL_answer_25 (by decide) ?_
  exact hQ h hP hD hS dL_answer_26

def wp_L_pass (q : Ne × (Nat → Int64)) (p1 : Int32) (post : Int32 → Ne × (Nat → Int64) → Prop) : Prop :=
  wp_X3_pass q.1 p1 (fun r1 u2 => post (0 : Int32) (u2, vp_updL q.2 (Int32.toNatClampNeg (0 : Int32)) (Int32.toInt64 r1))) (fun k9 u9 => (k9 = 2 ∧ post 1 (u9, q.2)))
set_option maxHeartbeats 4000000 in
set_option maxRecDepth 100000 in
theorem c_L_pass (l : Launch) (hst : l.stackTraces = false) (D : va_G) (cI cS cJ : ClassId) (G : Nat → Nat → Nat) (o : Nat) (q : Ne × (Nat → Int64)) (sz : Nat) (p1 : Int32) {post : Int32 → Ne × (Nat → Int64) → Prop} (h : wp_L_pass q p1 post) : Met l yL_pass (Cond.codeWith yL_pass cL_pass 4 (some .int) [(0, 9, 12, 19)] :: wsT) rm_L_pass (va_Pc [.ref (G 2 0), .int p1, .ref o] (rwX D (tysA cI cS cJ) (hW cI cS cJ G o q) sz)) (va_Qi post (xQ D (hW cI cS cJ G o) (hW cI cS cJ G o q) sz) (va_A (hW cI cS cJ G o q) sz)) 1 6 (va_A (hW cI cS cJ G o q) sz) := by
  refine mkH (wf := hW cI cS cJ G o) (by decide +kernel) rfl (Nat.le_of_ble_eq_true rfl) (fun {p e s m args below meth c Q ls A H locs} hx hb F hts hown hT hK hV hH hP hD hS hA hl hQ => ?_)
  have hl : lv_has ls 4 [(0, .ref (G 2 0)), (1, .int p1), (2, .ref o)] := hl
  unfold wp_L_pass at h
  refine lv_aload_n hx hb dL_pass_0 rfl (lv_at hl 2 rfl) ?_
  refine lv_iconst (v := (0 : Int32)) hx hb dL_pass_1 (by decide) ?_
  refine lv_aload_n hx hb dL_pass_2 rfl (lv_at hl 0 rfl) ?_
  refine lv_iload_n hx hb dL_pass_3 rfl (lv_at hl 1 rfl) ?_
  refine rxVi (wc := neW cI cS G q.1) (wr := [(o, .inl (cJ, 1, .inr (.inl q.2)))]) (As := [.int p1]) (rest := [.int (0 : Int32), .ref o]) List.perm_append_comm F (c_X3_pass l hst D cI cS cJ G q.1 H.size p1 h) (cw_L_67 hts (Nat.le_of_ble_eq_true rfl) (Nat.le_of_ble_eq_true rfl)) hK hV hH hP hD hS hA (recv (ci := 3) (k0 := 1) hK hP rfl rfl) rfl hl.1 rfl (Nat.le_of_ble_eq_true rfl) dL_pass_4 ⟨(Nat.le_of_ble_eq_true rfl), (Nat.le_of_ble_eq_true rfl)⟩ (fun {k u E ce q9 H locs} h hE9 hP hD hS h1 h2 h3 => ?_) (fun r1 u2 H locs h hP hD hS => ?_)
  · subst hE9
    have hP : va_P D vwCl (hW cI cS cJ G o (u, q.2)) H := vP_perm List.perm_append_comm hP
    have hD : va_D A (hW cI cS cJ G o (u, q.2)) := vD_perm List.perm_append_comm hD
    rcases h with ⟨rfl, h⟩
    · refine vx_catch (name := exE 2) hown ((tableOf [(0, 9, 12, 19)]).take 0) ((tableOf [(0, 9, 12, 19)])[0]) ((tableOf [(0, 9, 12, 19)]).drop 1) (hT.trans rfl) (fun _ h => nomatch h) rfl (by decide) (hts _ q_487) (va_Nw.use rfl (hV.1 2 (Or.inr (Or.inl rfl)))) h1 h2 h3 ?_
      refine lv_astore_n (lv' := [(3, .ref q9), (0, .ref (G 2 0)), (1, .int p1), (2, .ref o)]) hx hb dL_pass_12 rfl hl (by decide) rfl (fun ls hl => ?_)
      refine lv_iconst (v := (1 : Int32)) hx hb dL_pass_13 (by decide) ?_
      exact hQ h hP hD hS dL_pass_14
  have hP : va_P D vwCl (hW cI cS cJ G o (u2, q.2)) H := vP_perm List.perm_append_comm hP
  have hD : va_D A (hW cI cS cJ G o (u2, q.2)) := vD_perm List.perm_append_comm hD
  refine lv_i2l (v := (Int32.toInt64 r1)) hx hb dL_pass_7 rfl ?_
  refine va_last hx hb hK.k hP hD hS 0 2 rfl rfl in01 dL_pass_8 (fun H locs hP hD hS => ?_)
  have hP : va_P D vwCl (hW cI cS cJ G o (u2, vp_updL q.2 (Int32.toNatClampNeg (0 : Int32)) (Int32.toInt64 r1))) H := hP
  have hD : va_D A (hW cI cS cJ G o (u2, vp_updL q.2 (Int32.toNatClampNeg (0 : Int32)) (Int32.toInt64 r1))) := hD
  refine lv_goto (tgt := 15) hx hb dL_pass_9 (by decide) ?_
  refine lv_iconst (v := (0 : Int32)) hx hb dL_pass_15 (by decide) ?_
  exact hQ h hP hD hS dL_pass_16

def wp_L_envelope (q : Ne × (Nat → Int64)) (p1 p2 : Int32) (post : Int32 → Ne × (Nat → Int64) → Prop) : Prop :=
  wp_X3_envelope q.1 p1 p2 (fun r1 u2 => post (0 : Int32) (u2, vp_updL q.2 (Int32.toNatClampNeg (0 : Int32)) (Int32.toInt64 r1))) (fun k9 u9 => (k9 = 1 ∧ post 1 (u9, q.2)))
set_option maxHeartbeats 4000000 in
set_option maxRecDepth 100000 in
theorem c_L_envelope (l : Launch) (hst : l.stackTraces = false) (D : va_G) (cI cS cJ : ClassId) (G : Nat → Nat → Nat) (o : Nat) (q : Ne × (Nat → Int64)) (sz : Nat) (p1 p2 : Int32) {post : Int32 → Ne × (Nat → Int64) → Prop} (h : wp_L_envelope q p1 p2 post) : Met l yL_envelope (Cond.codeWith yL_envelope cL_envelope 5 (some .int) [(0, 10, 13, 13)] :: wsT) rm_L_envelope (va_Pc [.ref (G 2 0), .int p1, .int p2, .ref o] (rwX D (tysA cI cS cJ) (hW cI cS cJ G o q) sz)) (va_Qi post (xQ D (hW cI cS cJ G o) (hW cI cS cJ G o q) sz) (va_A (hW cI cS cJ G o q) sz)) 1 6 (va_A (hW cI cS cJ G o q) sz) := by
  refine mkH (wf := hW cI cS cJ G o) (by decide +kernel) rfl (Nat.le_of_ble_eq_true rfl) (fun {p e s m args below meth c Q ls A H locs} hx hb F hts hown hT hK hV hH hP hD hS hA hl hQ => ?_)
  have hl : lv_has ls 5 [(0, .ref (G 2 0)), (1, .int p1), (2, .int p2), (3, .ref o)] := hl
  unfold wp_L_envelope at h
  refine lv_aload_n hx hb dL_envelope_0 rfl (lv_at hl 3 rfl) ?_
  refine lv_iconst (v := (0 : Int32)) hx hb dL_envelope_1 (by decide) ?_
  refine lv_aload_n hx hb dL_envelope_2 rfl (lv_at hl 0 rfl) ?_
  refine lv_iload_n hx hb dL_envelope_3 rfl (lv_at hl 1 rfl) ?_
  refine lv_iload_n hx hb dL_envelope_4 rfl (lv_at hl 2 rfl) ?_
  refine rxVi (wc := neW cI cS G q.1) (wr := [(o, .inl (cJ, 1, .inr (.inl q.2)))]) (As := [.int p1, .int p2]) (rest := [.int (0 : Int32), .ref o]) List.perm_append_comm F (c_X3_envelope l hst D cI cS cJ G q.1 H.size p1 p2 h) (cw_L_70 hts (Nat.le_of_ble_eq_true rfl) (Nat.le_of_ble_eq_true rfl)) hK hV hH hP hD hS hA (recv (ci := 3) (k0 := 1) hK hP rfl rfl) rfl hl.1 rfl (Nat.le_of_ble_eq_true rfl) dL_envelope_5 ⟨(Nat.le_of_ble_eq_true rfl), (Nat.le_of_ble_eq_true rfl)⟩ (fun {k u E ce q9 H locs} h hE9 hP hD hS h1 h2 h3 => ?_) (fun r1 u2 H locs h hP hD hS => ?_)
  · subst hE9
    have hP : va_P D vwCl (hW cI cS cJ G o (u, q.2)) H := vP_perm List.perm_append_comm hP
    have hD : va_D A (hW cI cS cJ G o (u, q.2)) := vD_perm List.perm_append_comm hD
    rcases h with ⟨rfl, h⟩
    · refine vx_catch (name := exE 1) hown ((tableOf [(0, 10, 13, 13)]).take 0) ((tableOf [(0, 10, 13, 13)])[0]) ((tableOf [(0, 10, 13, 13)]).drop 1) (hT.trans rfl) (fun _ h => nomatch h) rfl (by decide) (hts _ q_346) (va_Nw.use rfl (hV.1 1 (Or.inl rfl))) h1 h2 h3 ?_
      refine lv_astore (lv' := [(4, .ref q9), (0, .ref (G 2 0)), (1, .int p1), (2, .int p2), (3, .ref o)]) hx hb dL_envelope_13 hl (by decide) rfl (fun ls hl => ?_)
      refine lv_iconst (v := (1 : Int32)) hx hb dL_envelope_15 (by decide) ?_
      exact hQ h hP hD hS dL_envelope_16
  have hP : va_P D vwCl (hW cI cS cJ G o (u2, q.2)) H := vP_perm List.perm_append_comm hP
  have hD : va_D A (hW cI cS cJ G o (u2, q.2)) := vD_perm List.perm_append_comm hD
  refine lv_i2l (v := (Int32.toInt64 r1)) hx hb dL_envelope_8 rfl ?_
  refine va_last hx hb hK.k hP hD hS 0 2 rfl rfl in01 dL_envelope_9 (fun H locs hP hD hS => ?_)
  have hP : va_P D vwCl (hW cI cS cJ G o (u2, vp_updL q.2 (Int32.toNatClampNeg (0 : Int32)) (Int32.toInt64 r1))) H := hP
  have hD : va_D A (hW cI cS cJ G o (u2, vp_updL q.2 (Int32.toNatClampNeg (0 : Int32)) (Int32.toInt64 r1))) := hD
  refine lv_goto (tgt := 17) hx hb dL_envelope_10 (by decide) ?_
  refine lv_iconst (v := (0 : Int32)) hx hb dL_envelope_17 (by decide) ?_
  exact hQ h hP hD hS dL_envelope_18

def wp_L_letter (q : Ne × (Nat → Int64)) (p1 : Int32) (post : Int32 → Ne × (Nat → Int64) → Prop) : Prop :=
  wp_X3_letter q.1 p1 (fun r1 u2 => post (0 : Int32) (u2, vp_updL q.2 (Int32.toNatClampNeg (0 : Int32)) (Int32.toInt64 r1))) (fun k9 u9 => (k9 = 1 ∧ post 1 (u9, q.2)))
set_option maxHeartbeats 4000000 in
set_option maxRecDepth 100000 in
theorem c_L_letter (l : Launch) (hst : l.stackTraces = false) (D : va_G) (cI cS cJ : ClassId) (G : Nat → Nat → Nat) (o : Nat) (q : Ne × (Nat → Int64)) (sz : Nat) (p1 : Int32) {post : Int32 → Ne × (Nat → Int64) → Prop} (h : wp_L_letter q p1 post) : Met l yL_letter (Cond.codeWith yL_letter cL_letter 4 (some .int) [(0, 9, 12, 13)] :: wsT) rm_L_letter (va_Pc [.ref (G 2 0), .int p1, .ref o] (rwX D (tysA cI cS cJ) (hW cI cS cJ G o q) sz)) (va_Qi post (xQ D (hW cI cS cJ G o) (hW cI cS cJ G o q) sz) (va_A (hW cI cS cJ G o q) sz)) 1 6 (va_A (hW cI cS cJ G o q) sz) := by
  refine mkH (wf := hW cI cS cJ G o) (by decide +kernel) rfl (Nat.le_of_ble_eq_true rfl) (fun {p e s m args below meth c Q ls A H locs} hx hb F hts hown hT hK hV hH hP hD hS hA hl hQ => ?_)
  have hl : lv_has ls 4 [(0, .ref (G 2 0)), (1, .int p1), (2, .ref o)] := hl
  unfold wp_L_letter at h
  refine lv_aload_n hx hb dL_letter_0 rfl (lv_at hl 2 rfl) ?_
  refine lv_iconst (v := (0 : Int32)) hx hb dL_letter_1 (by decide) ?_
  refine lv_aload_n hx hb dL_letter_2 rfl (lv_at hl 0 rfl) ?_
  refine lv_iload_n hx hb dL_letter_3 rfl (lv_at hl 1 rfl) ?_
  refine rxVi (wc := neW cI cS G q.1) (wr := [(o, .inl (cJ, 1, .inr (.inl q.2)))]) (As := [.int p1]) (rest := [.int (0 : Int32), .ref o]) List.perm_append_comm F (c_X3_letter l hst D cI cS cJ G q.1 H.size p1 h) (cw_L_73 hts (Nat.le_of_ble_eq_true rfl) (Nat.le_of_ble_eq_true rfl)) hK hV hH hP hD hS hA (recv (ci := 3) (k0 := 1) hK hP rfl rfl) rfl hl.1 rfl (Nat.le_of_ble_eq_true rfl) dL_letter_4 ⟨(Nat.le_of_ble_eq_true rfl), (Nat.le_of_ble_eq_true rfl)⟩ (fun {k u E ce q9 H locs} h hE9 hP hD hS h1 h2 h3 => ?_) (fun r1 u2 H locs h hP hD hS => ?_)
  · subst hE9
    have hP : va_P D vwCl (hW cI cS cJ G o (u, q.2)) H := vP_perm List.perm_append_comm hP
    have hD : va_D A (hW cI cS cJ G o (u, q.2)) := vD_perm List.perm_append_comm hD
    rcases h with ⟨rfl, h⟩
    · refine vx_catch (name := exE 1) hown ((tableOf [(0, 9, 12, 13)]).take 0) ((tableOf [(0, 9, 12, 13)])[0]) ((tableOf [(0, 9, 12, 13)]).drop 1) (hT.trans rfl) (fun _ h => nomatch h) rfl (by decide) (hts _ q_346) (va_Nw.use rfl (hV.1 1 (Or.inl rfl))) h1 h2 h3 ?_
      refine lv_astore_n (lv' := [(3, .ref q9), (0, .ref (G 2 0)), (1, .int p1), (2, .ref o)]) hx hb dL_letter_12 rfl hl (by decide) rfl (fun ls hl => ?_)
      refine lv_iconst (v := (1 : Int32)) hx hb dL_letter_13 (by decide) ?_
      exact hQ h hP hD hS dL_letter_14
  have hP : va_P D vwCl (hW cI cS cJ G o (u2, q.2)) H := vP_perm List.perm_append_comm hP
  have hD : va_D A (hW cI cS cJ G o (u2, q.2)) := vD_perm List.perm_append_comm hD
  refine lv_i2l (v := (Int32.toInt64 r1)) hx hb dL_letter_7 rfl ?_
  refine va_last hx hb hK.k hP hD hS 0 2 rfl rfl in01 dL_letter_8 (fun H locs hP hD hS => ?_)
  have hP : va_P D vwCl (hW cI cS cJ G o (u2, vp_updL q.2 (Int32.toNatClampNeg (0 : Int32)) (Int32.toInt64 r1))) H := hP
  have hD : va_D A (hW cI cS cJ G o (u2, vp_updL q.2 (Int32.toNatClampNeg (0 : Int32)) (Int32.toInt64 r1))) := hD
  refine lv_goto (tgt := 15) hx hb dL_letter_9 (by decide) ?_
  refine lv_iconst (v := (0 : Int32)) hx hb dL_letter_15 (by decide) ?_
  exact hQ h hP hD hS dL_letter_16

def wp_L_count (q : Ne × (Nat → Int64)) (p1 : Int32) (post : Int32 → Ne × (Nat → Int64) → Prop) : Prop :=
  wp_X3_count q.1 p1 (fun r1 u2 => post (0 : Int32) (u2, vp_updL q.2 (Int32.toNatClampNeg (0 : Int32)) (Int32.toInt64 r1))) (fun k9 u9 => (k9 = 1 ∧ post 1 (u9, q.2)))
set_option maxHeartbeats 4000000 in
set_option maxRecDepth 100000 in
theorem c_L_count (l : Launch) (hst : l.stackTraces = false) (D : va_G) (cI cS cJ : ClassId) (G : Nat → Nat → Nat) (o : Nat) (q : Ne × (Nat → Int64)) (sz : Nat) (p1 : Int32) {post : Int32 → Ne × (Nat → Int64) → Prop} (h : wp_L_count q p1 post) : Met l yL_count (Cond.codeWith yL_count cL_count 4 (some .int) [(0, 9, 12, 13)] :: wsT) rm_L_count (va_Pc [.ref (G 2 0), .int p1, .ref o] (rwX D (tysA cI cS cJ) (hW cI cS cJ G o q) sz)) (va_Qi post (xQ D (hW cI cS cJ G o) (hW cI cS cJ G o q) sz) (va_A (hW cI cS cJ G o q) sz)) 1 6 (va_A (hW cI cS cJ G o q) sz) := by
  refine mkH (wf := hW cI cS cJ G o) (by decide +kernel) rfl (Nat.le_of_ble_eq_true rfl) (fun {p e s m args below meth c Q ls A H locs} hx hb F hts hown hT hK hV hH hP hD hS hA hl hQ => ?_)
  have hl : lv_has ls 4 [(0, .ref (G 2 0)), (1, .int p1), (2, .ref o)] := hl
  unfold wp_L_count at h
  refine lv_aload_n hx hb dL_count_0 rfl (lv_at hl 2 rfl) ?_
  refine lv_iconst (v := (0 : Int32)) hx hb dL_count_1 (by decide) ?_
  refine lv_aload_n hx hb dL_count_2 rfl (lv_at hl 0 rfl) ?_
  refine lv_iload_n hx hb dL_count_3 rfl (lv_at hl 1 rfl) ?_
  refine rxVi (wc := neW cI cS G q.1) (wr := [(o, .inl (cJ, 1, .inr (.inl q.2)))]) (As := [.int p1]) (rest := [.int (0 : Int32), .ref o]) List.perm_append_comm F (c_X3_count l hst D cI cS cJ G q.1 H.size p1 h) (cw_L_76 hts (Nat.le_of_ble_eq_true rfl) (Nat.le_of_ble_eq_true rfl)) hK hV hH hP hD hS hA (recv (ci := 3) (k0 := 1) hK hP rfl rfl) rfl hl.1 rfl (Nat.le_of_ble_eq_true rfl) dL_count_4 ⟨(Nat.le_of_ble_eq_true rfl), (Nat.le_of_ble_eq_true rfl)⟩ (fun {k u E ce q9 H locs} h hE9 hP hD hS h1 h2 h3 => ?_) (fun r1 u2 H locs h hP hD hS => ?_)
  · subst hE9
    have hP : va_P D vwCl (hW cI cS cJ G o (u, q.2)) H := vP_perm List.perm_append_comm hP
    have hD : va_D A (hW cI cS cJ G o (u, q.2)) := vD_perm List.perm_append_comm hD
    rcases h with ⟨rfl, h⟩
    · refine vx_catch (name := exE 1) hown ((tableOf [(0, 9, 12, 13)]).take 0) ((tableOf [(0, 9, 12, 13)])[0]) ((tableOf [(0, 9, 12, 13)]).drop 1) (hT.trans rfl) (fun _ h => nomatch h) rfl (by decide) (hts _ q_346) (va_Nw.use rfl (hV.1 1 (Or.inl rfl))) h1 h2 h3 ?_
      refine lv_astore_n (lv' := [(3, .ref q9), (0, .ref (G 2 0)), (1, .int p1), (2, .ref o)]) hx hb dL_count_12 rfl hl (by decide) rfl (fun ls hl => ?_)
      refine lv_iconst (v := (1 : Int32)) hx hb dL_count_13 (by decide) ?_
      exact hQ h hP hD hS dL_count_14
  have hP : va_P D vwCl (hW cI cS cJ G o (u2, q.2)) H := vP_perm List.perm_append_comm hP
  have hD : va_D A (hW cI cS cJ G o (u2, q.2)) := vD_perm List.perm_append_comm hD
  refine lv_i2l (v := (Int32.toInt64 r1)) hx hb dL_count_7 rfl ?_
  refine va_last hx hb hK.k hP hD hS 0 2 rfl rfl in01 dL_count_8 (fun H locs hP hD hS => ?_)
  have hP : va_P D vwCl (hW cI cS cJ G o (u2, vp_updL q.2 (Int32.toNatClampNeg (0 : Int32)) (Int32.toInt64 r1))) H := hP
  have hD : va_D A (hW cI cS cJ G o (u2, vp_updL q.2 (Int32.toNatClampNeg (0 : Int32)) (Int32.toInt64 r1))) := hD
  refine lv_goto (tgt := 15) hx hb dL_count_9 (by decide) ?_
  refine lv_iconst (v := (0 : Int32)) hx hb dL_count_15 (by decide) ?_
  exact hQ h hP hD hS dL_count_16

def wp_L_lostIfClosed (q : Ne × (Nat → Int64)) (p1 : Int32) (post : Int32 → Ne × (Nat → Int64) → Prop) : Prop :=
  wp_X3_lostIfClosed q.1 p1 (fun r1 u2 => post (0 : Int32) (u2, vp_updL q.2 (Int32.toNatClampNeg (0 : Int32)) (Int32.toInt64 r1))) (fun k9 u9 => (k9 = 1 ∧ post 1 (u9, q.2)))
set_option maxHeartbeats 4000000 in
set_option maxRecDepth 100000 in
theorem c_L_lostIfClosed (l : Launch) (hst : l.stackTraces = false) (D : va_G) (cI cS cJ : ClassId) (G : Nat → Nat → Nat) (o : Nat) (q : Ne × (Nat → Int64)) (sz : Nat) (p1 : Int32) {post : Int32 → Ne × (Nat → Int64) → Prop} (h : wp_L_lostIfClosed q p1 post) : Met l yL_lostIfClosed (Cond.codeWith yL_lostIfClosed cL_lostIfClosed 4 (some .int) [(0, 9, 12, 13)] :: wsT) rm_L_lostIfClosed (va_Pc [.ref (G 2 0), .int p1, .ref o] (rwX D (tysA cI cS cJ) (hW cI cS cJ G o q) sz)) (va_Qi post (xQ D (hW cI cS cJ G o) (hW cI cS cJ G o q) sz) (va_A (hW cI cS cJ G o q) sz)) 1 6 (va_A (hW cI cS cJ G o q) sz) := by
  refine mkH (wf := hW cI cS cJ G o) (by decide +kernel) rfl (Nat.le_of_ble_eq_true rfl) (fun {p e s m args below meth c Q ls A H locs} hx hb F hts hown hT hK hV hH hP hD hS hA hl hQ => ?_)
  have hl : lv_has ls 4 [(0, .ref (G 2 0)), (1, .int p1), (2, .ref o)] := hl
  unfold wp_L_lostIfClosed at h
  refine lv_aload_n hx hb dL_lostIfClosed_0 rfl (lv_at hl 2 rfl) ?_
  refine lv_iconst (v := (0 : Int32)) hx hb dL_lostIfClosed_1 (by decide) ?_
  refine lv_aload_n hx hb dL_lostIfClosed_2 rfl (lv_at hl 0 rfl) ?_
  refine lv_iload_n hx hb dL_lostIfClosed_3 rfl (lv_at hl 1 rfl) ?_
  refine rxVi (wc := neW cI cS G q.1) (wr := [(o, .inl (cJ, 1, .inr (.inl q.2)))]) (As := [.int p1]) (rest := [.int (0 : Int32), .ref o]) List.perm_append_comm F (c_X3_lostIfClosed l hst D cI cS cJ G q.1 H.size p1 h) (cw_L_79 hts (Nat.le_of_ble_eq_true rfl) (Nat.le_of_ble_eq_true rfl)) hK hV hH hP hD hS hA (recv (ci := 3) (k0 := 1) hK hP rfl rfl) rfl hl.1 rfl (Nat.le_of_ble_eq_true rfl) dL_lostIfClosed_4 ⟨(Nat.le_of_ble_eq_true rfl), (Nat.le_of_ble_eq_true rfl)⟩ (fun {k u E ce q9 H locs} h hE9 hP hD hS h1 h2 h3 => ?_) (fun r1 u2 H locs h hP hD hS => ?_)
  · subst hE9
    have hP : va_P D vwCl (hW cI cS cJ G o (u, q.2)) H := vP_perm List.perm_append_comm hP
    have hD : va_D A (hW cI cS cJ G o (u, q.2)) := vD_perm List.perm_append_comm hD
    rcases h with ⟨rfl, h⟩
    · refine vx_catch (name := exE 1) hown ((tableOf [(0, 9, 12, 13)]).take 0) ((tableOf [(0, 9, 12, 13)])[0]) ((tableOf [(0, 9, 12, 13)]).drop 1) (hT.trans rfl) (fun _ h => nomatch h) rfl (by decide) (hts _ q_346) (va_Nw.use rfl (hV.1 1 (Or.inl rfl))) h1 h2 h3 ?_
      refine lv_astore_n (lv' := [(3, .ref q9), (0, .ref (G 2 0)), (1, .int p1), (2, .ref o)]) hx hb dL_lostIfClosed_12 rfl hl (by decide) rfl (fun ls hl => ?_)
      refine lv_iconst (v := (1 : Int32)) hx hb dL_lostIfClosed_13 (by decide) ?_
      exact hQ h hP hD hS dL_lostIfClosed_14
  have hP : va_P D vwCl (hW cI cS cJ G o (u2, q.2)) H := vP_perm List.perm_append_comm hP
  have hD : va_D A (hW cI cS cJ G o (u2, q.2)) := vD_perm List.perm_append_comm hD
  refine lv_i2l (v := (Int32.toInt64 r1)) hx hb dL_lostIfClosed_7 rfl ?_
  refine va_last hx hb hK.k hP hD hS 0 2 rfl rfl in01 dL_lostIfClosed_8 (fun H locs hP hD hS => ?_)
  have hP : va_P D vwCl (hW cI cS cJ G o (u2, vp_updL q.2 (Int32.toNatClampNeg (0 : Int32)) (Int32.toInt64 r1))) H := hP
  have hD : va_D A (hW cI cS cJ G o (u2, vp_updL q.2 (Int32.toNatClampNeg (0 : Int32)) (Int32.toInt64 r1))) := hD
  refine lv_goto (tgt := 15) hx hb dL_lostIfClosed_9 (by decide) ?_
  refine lv_iconst (v := (0 : Int32)) hx hb dL_lostIfClosed_15 (by decide) ?_
  exact hQ h hP hD hS dL_lostIfClosed_16

def wp_L_ticksTo (q : Ne × (Nat → Int64)) (p1 : Int32) (post : Int32 → Ne × (Nat → Int64) → Prop) : Prop :=
  wp_X3_ticksTo q.1 p1 (fun r1 u2 => post (0 : Int32) (u2, vp_updL q.2 (Int32.toNatClampNeg (0 : Int32)) (Int32.toInt64 r1))) (fun k9 u9 => (k9 = 1 ∧ post 1 (u9, q.2)))
set_option maxHeartbeats 4000000 in
set_option maxRecDepth 100000 in
theorem c_L_ticksTo (l : Launch) (hst : l.stackTraces = false) (D : va_G) (cI cS cJ : ClassId) (G : Nat → Nat → Nat) (o : Nat) (q : Ne × (Nat → Int64)) (sz : Nat) (p1 : Int32) {post : Int32 → Ne × (Nat → Int64) → Prop} (h : wp_L_ticksTo q p1 post) : Met l yL_ticksTo (Cond.codeWith yL_ticksTo cL_ticksTo 4 (some .int) [(0, 9, 12, 13)] :: wsT) rm_L_ticksTo (va_Pc [.ref (G 2 0), .int p1, .ref o] (rwX D (tysA cI cS cJ) (hW cI cS cJ G o q) sz)) (va_Qi post (xQ D (hW cI cS cJ G o) (hW cI cS cJ G o q) sz) (va_A (hW cI cS cJ G o q) sz)) 1 6 (va_A (hW cI cS cJ G o q) sz) := by
  refine mkH (wf := hW cI cS cJ G o) (by decide +kernel) rfl (Nat.le_of_ble_eq_true rfl) (fun {p e s m args below meth c Q ls A H locs} hx hb F hts hown hT hK hV hH hP hD hS hA hl hQ => ?_)
  have hl : lv_has ls 4 [(0, .ref (G 2 0)), (1, .int p1), (2, .ref o)] := hl
  unfold wp_L_ticksTo at h
  refine lv_aload_n hx hb dL_ticksTo_0 rfl (lv_at hl 2 rfl) ?_
  refine lv_iconst (v := (0 : Int32)) hx hb dL_ticksTo_1 (by decide) ?_
  refine lv_aload_n hx hb dL_ticksTo_2 rfl (lv_at hl 0 rfl) ?_
  refine lv_iload_n hx hb dL_ticksTo_3 rfl (lv_at hl 1 rfl) ?_
  refine rxVi (wc := neW cI cS G q.1) (wr := [(o, .inl (cJ, 1, .inr (.inl q.2)))]) (As := [.int p1]) (rest := [.int (0 : Int32), .ref o]) List.perm_append_comm F (c_X3_ticksTo l hst D cI cS cJ G q.1 H.size p1 h) (cw_L_82 hts (Nat.le_of_ble_eq_true rfl) (Nat.le_of_ble_eq_true rfl)) hK hV hH hP hD hS hA (recv (ci := 3) (k0 := 1) hK hP rfl rfl) rfl hl.1 rfl (Nat.le_of_ble_eq_true rfl) dL_ticksTo_4 ⟨(Nat.le_of_ble_eq_true rfl), (Nat.le_of_ble_eq_true rfl)⟩ (fun {k u E ce q9 H locs} h hE9 hP hD hS h1 h2 h3 => ?_) (fun r1 u2 H locs h hP hD hS => ?_)
  · subst hE9
    have hP : va_P D vwCl (hW cI cS cJ G o (u, q.2)) H := vP_perm List.perm_append_comm hP
    have hD : va_D A (hW cI cS cJ G o (u, q.2)) := vD_perm List.perm_append_comm hD
    rcases h with ⟨rfl, h⟩
    · refine vx_catch (name := exE 1) hown ((tableOf [(0, 9, 12, 13)]).take 0) ((tableOf [(0, 9, 12, 13)])[0]) ((tableOf [(0, 9, 12, 13)]).drop 1) (hT.trans rfl) (fun _ h => nomatch h) rfl (by decide) (hts _ q_346) (va_Nw.use rfl (hV.1 1 (Or.inl rfl))) h1 h2 h3 ?_
      refine lv_astore_n (lv' := [(3, .ref q9), (0, .ref (G 2 0)), (1, .int p1), (2, .ref o)]) hx hb dL_ticksTo_12 rfl hl (by decide) rfl (fun ls hl => ?_)
      refine lv_iconst (v := (1 : Int32)) hx hb dL_ticksTo_13 (by decide) ?_
      exact hQ h hP hD hS dL_ticksTo_14
  have hP : va_P D vwCl (hW cI cS cJ G o (u2, q.2)) H := vP_perm List.perm_append_comm hP
  have hD : va_D A (hW cI cS cJ G o (u2, q.2)) := vD_perm List.perm_append_comm hD
  refine lv_i2l (v := (Int32.toInt64 r1)) hx hb dL_ticksTo_7 rfl ?_
  refine va_last hx hb hK.k hP hD hS 0 2 rfl rfl in01 dL_ticksTo_8 (fun H locs hP hD hS => ?_)
  have hP : va_P D vwCl (hW cI cS cJ G o (u2, vp_updL q.2 (Int32.toNatClampNeg (0 : Int32)) (Int32.toInt64 r1))) H := hP
  have hD : va_D A (hW cI cS cJ G o (u2, vp_updL q.2 (Int32.toNatClampNeg (0 : Int32)) (Int32.toInt64 r1))) := hD
  refine lv_goto (tgt := 15) hx hb dL_ticksTo_9 (by decide) ?_
  refine lv_iconst (v := (0 : Int32)) hx hb dL_ticksTo_15 (by decide) ?_
  exact hQ h hP hD hS dL_ticksTo_16

def wp_L_leastWork (q : Ne × (Nat → Int64)) (p1 : Int32) (post : Int32 → Ne × (Nat → Int64) → Prop) : Prop :=
  wp_X3_leastWork q.1 p1 (fun r1 u2 => post (0 : Int32) (u2, vp_updL q.2 (Int32.toNatClampNeg (0 : Int32)) (Int32.toInt64 r1))) (fun k9 u9 => (k9 = 1 ∧ post 1 (u9, q.2)))
set_option maxHeartbeats 4000000 in
set_option maxRecDepth 100000 in
theorem c_L_leastWork (l : Launch) (hst : l.stackTraces = false) (D : va_G) (cI cS cJ : ClassId) (G : Nat → Nat → Nat) (o : Nat) (q : Ne × (Nat → Int64)) (sz : Nat) (p1 : Int32) {post : Int32 → Ne × (Nat → Int64) → Prop} (h : wp_L_leastWork q p1 post) : Met l yL_leastWork (Cond.codeWith yL_leastWork cL_leastWork 4 (some .int) [(0, 9, 12, 13)] :: wsT) rm_L_leastWork (va_Pc [.ref (G 2 0), .int p1, .ref o] (rwX D (tysA cI cS cJ) (hW cI cS cJ G o q) sz)) (va_Qi post (xQ D (hW cI cS cJ G o) (hW cI cS cJ G o q) sz) (va_A (hW cI cS cJ G o q) sz)) 1 6 (va_A (hW cI cS cJ G o q) sz) := by
  refine mkH (wf := hW cI cS cJ G o) (by decide +kernel) rfl (Nat.le_of_ble_eq_true rfl) (fun {p e s m args below meth c Q ls A H locs} hx hb F hts hown hT hK hV hH hP hD hS hA hl hQ => ?_)
  have hl : lv_has ls 4 [(0, .ref (G 2 0)), (1, .int p1), (2, .ref o)] := hl
  unfold wp_L_leastWork at h
  refine lv_aload_n hx hb dL_leastWork_0 rfl (lv_at hl 2 rfl) ?_
  refine lv_iconst (v := (0 : Int32)) hx hb dL_leastWork_1 (by decide) ?_
  refine lv_aload_n hx hb dL_leastWork_2 rfl (lv_at hl 0 rfl) ?_
  refine lv_iload_n hx hb dL_leastWork_3 rfl (lv_at hl 1 rfl) ?_
  refine rxVi (wc := neW cI cS G q.1) (wr := [(o, .inl (cJ, 1, .inr (.inl q.2)))]) (As := [.int p1]) (rest := [.int (0 : Int32), .ref o]) List.perm_append_comm F (c_X3_leastWork l hst D cI cS cJ G q.1 H.size p1 h) (cw_L_85 hts (Nat.le_of_ble_eq_true rfl) (Nat.le_of_ble_eq_true rfl)) hK hV hH hP hD hS hA (recv (ci := 3) (k0 := 1) hK hP rfl rfl) rfl hl.1 rfl (Nat.le_of_ble_eq_true rfl) dL_leastWork_4 ⟨(Nat.le_of_ble_eq_true rfl), (Nat.le_of_ble_eq_true rfl)⟩ (fun {k u E ce q9 H locs} h hE9 hP hD hS h1 h2 h3 => ?_) (fun r1 u2 H locs h hP hD hS => ?_)
  · subst hE9
    have hP : va_P D vwCl (hW cI cS cJ G o (u, q.2)) H := vP_perm List.perm_append_comm hP
    have hD : va_D A (hW cI cS cJ G o (u, q.2)) := vD_perm List.perm_append_comm hD
    rcases h with ⟨rfl, h⟩
    · refine vx_catch (name := exE 1) hown ((tableOf [(0, 9, 12, 13)]).take 0) ((tableOf [(0, 9, 12, 13)])[0]) ((tableOf [(0, 9, 12, 13)]).drop 1) (hT.trans rfl) (fun _ h => nomatch h) rfl (by decide) (hts _ q_346) (va_Nw.use rfl (hV.1 1 (Or.inl rfl))) h1 h2 h3 ?_
      refine lv_astore_n (lv' := [(3, .ref q9), (0, .ref (G 2 0)), (1, .int p1), (2, .ref o)]) hx hb dL_leastWork_12 rfl hl (by decide) rfl (fun ls hl => ?_)
      refine lv_iconst (v := (1 : Int32)) hx hb dL_leastWork_13 (by decide) ?_
      exact hQ h hP hD hS dL_leastWork_14
  have hP : va_P D vwCl (hW cI cS cJ G o (u2, q.2)) H := vP_perm List.perm_append_comm hP
  have hD : va_D A (hW cI cS cJ G o (u2, q.2)) := vD_perm List.perm_append_comm hD
  refine lv_i2l (v := (Int32.toInt64 r1)) hx hb dL_leastWork_7 rfl ?_
  refine va_last hx hb hK.k hP hD hS 0 2 rfl rfl in01 dL_leastWork_8 (fun H locs hP hD hS => ?_)
  have hP : va_P D vwCl (hW cI cS cJ G o (u2, vp_updL q.2 (Int32.toNatClampNeg (0 : Int32)) (Int32.toInt64 r1))) H := hP
  have hD : va_D A (hW cI cS cJ G o (u2, vp_updL q.2 (Int32.toNatClampNeg (0 : Int32)) (Int32.toInt64 r1))) := hD
  refine lv_goto (tgt := 15) hx hb dL_leastWork_9 (by decide) ?_
  refine lv_iconst (v := (0 : Int32)) hx hb dL_leastWork_15 (by decide) ?_
  exact hQ h hP hD hS dL_leastWork_16

def wp_L_append (q : Ne × (Nat → Int64)) (p1 : Int32) (post : Int32 → Ne × (Nat → Int64) → Prop) : Prop :=
  wp_X3_append q.1 p1 (fun r1 u2 => post (0 : Int32) (u2, vp_updL q.2 (Int32.toNatClampNeg (0 : Int32)) (Int32.toInt64 r1))) (fun k9 u9 => (k9 = 2 ∧ post 1 (u9, q.2)) ∨ (k9 = 3 ∧ post 2 (u9, q.2)))
set_option maxHeartbeats 4000000 in
set_option maxRecDepth 100000 in
theorem c_L_append (l : Launch) (hst : l.stackTraces = false) (D : va_G) (cI cS cJ : ClassId) (G : Nat → Nat → Nat) (o : Nat) (q : Ne × (Nat → Int64)) (sz : Nat) (p1 : Int32) {post : Int32 → Ne × (Nat → Int64) → Prop} (h : wp_L_append q p1 post) : Met l yL_append (Cond.codeWith yL_append cL_append 4 (some .int) [(0, 9, 12, 19), (0, 9, 15, 39)] :: wsT) rm_L_append (va_Pc [.ref (G 2 0), .int p1, .ref o] (rwX D (tysA cI cS cJ) (hW cI cS cJ G o q) sz)) (va_Qi post (xQ D (hW cI cS cJ G o) (hW cI cS cJ G o q) sz) (va_A (hW cI cS cJ G o q) sz)) 1 6 (va_A (hW cI cS cJ G o q) sz) := by
  refine mkH (wf := hW cI cS cJ G o) (by decide +kernel) rfl (Nat.le_of_ble_eq_true rfl) (fun {p e s m args below meth c Q ls A H locs} hx hb F hts hown hT hK hV hH hP hD hS hA hl hQ => ?_)
  have hl : lv_has ls 4 [(0, .ref (G 2 0)), (1, .int p1), (2, .ref o)] := hl
  unfold wp_L_append at h
  refine lv_aload_n hx hb dL_append_0 rfl (lv_at hl 2 rfl) ?_
  refine lv_iconst (v := (0 : Int32)) hx hb dL_append_1 (by decide) ?_
  refine lv_aload_n hx hb dL_append_2 rfl (lv_at hl 0 rfl) ?_
  refine lv_iload_n hx hb dL_append_3 rfl (lv_at hl 1 rfl) ?_
  refine rxVi (wc := neW cI cS G q.1) (wr := [(o, .inl (cJ, 1, .inr (.inl q.2)))]) (As := [.int p1]) (rest := [.int (0 : Int32), .ref o]) List.perm_append_comm F (c_X3_append l hst D cI cS cJ G q.1 H.size p1 h) (cw_L_88 hts (Nat.le_of_ble_eq_true rfl) (Nat.le_of_ble_eq_true rfl)) hK hV hH hP hD hS hA (recv (ci := 3) (k0 := 1) hK hP rfl rfl) rfl hl.1 rfl (Nat.le_of_ble_eq_true rfl) dL_append_4 ⟨(Nat.le_of_ble_eq_true rfl), (Nat.le_of_ble_eq_true rfl)⟩ (fun {k u E ce q9 H locs} h hE9 hP hD hS h1 h2 h3 => ?_) (fun r1 u2 H locs h hP hD hS => ?_)
  · subst hE9
    have hP : va_P D vwCl (hW cI cS cJ G o (u, q.2)) H := vP_perm List.perm_append_comm hP
    have hD : va_D A (hW cI cS cJ G o (u, q.2)) := vD_perm List.perm_append_comm hD
    rcases h with ⟨rfl, h⟩ | ⟨rfl, h⟩
    · refine vx_catch (name := exE 2) hown ((tableOf [(0, 9, 12, 19), (0, 9, 15, 39)]).take 0) ((tableOf [(0, 9, 12, 19), (0, 9, 15, 39)])[0]) ((tableOf [(0, 9, 12, 19), (0, 9, 15, 39)]).drop 1) (hT.trans rfl) (fun _ h => nomatch h) rfl (by decide) (hts _ q_487) (va_Nw.use rfl (hV.1 2 (Or.inr (Or.inl rfl)))) h1 h2 h3 ?_
      refine lv_astore_n (lv' := [(3, .ref q9), (0, .ref (G 2 0)), (1, .int p1), (2, .ref o)]) hx hb dL_append_12 rfl hl (by decide) rfl (fun ls hl => ?_)
      refine lv_iconst (v := (1 : Int32)) hx hb dL_append_13 (by decide) ?_
      exact hQ h hP hD hS dL_append_14
    · refine vx_catch (name := exE 3) hown ((tableOf [(0, 9, 12, 19), (0, 9, 15, 39)]).take 1) ((tableOf [(0, 9, 12, 19), (0, 9, 15, 39)])[1]) ((tableOf [(0, 9, 12, 19), (0, 9, 15, 39)]).drop 2) (hT.trans rfl) (List.forall_mem_cons.mpr ⟨Or.inr ⟨by decide, exE 2, hts _ q_487, hV.2.2.2 3 2 (Or.inr (Or.inr rfl)) (Or.inr (Or.inl rfl)) (by decide)⟩, (fun _ h => nomatch h)⟩) rfl (by decide) (hts _ q_541) (va_Nw.use rfl (hV.1 3 (Or.inr (Or.inr rfl)))) h1 h2 h3 ?_
      refine lv_astore_n (lv' := [(3, .ref q9), (0, .ref (G 2 0)), (1, .int p1), (2, .ref o)]) hx hb dL_append_15 rfl hl (by decide) rfl (fun ls hl => ?_)
      refine lv_iconst (v := (2 : Int32)) hx hb dL_append_16 (by decide) ?_
      exact hQ h hP hD hS dL_append_17
  have hP : va_P D vwCl (hW cI cS cJ G o (u2, q.2)) H := vP_perm List.perm_append_comm hP
  have hD : va_D A (hW cI cS cJ G o (u2, q.2)) := vD_perm List.perm_append_comm hD
  refine lv_i2l (v := (Int32.toInt64 r1)) hx hb dL_append_7 rfl ?_
  refine va_last hx hb hK.k hP hD hS 0 2 rfl rfl in01 dL_append_8 (fun H locs hP hD hS => ?_)
  have hP : va_P D vwCl (hW cI cS cJ G o (u2, vp_updL q.2 (Int32.toNatClampNeg (0 : Int32)) (Int32.toInt64 r1))) H := hP
  have hD : va_D A (hW cI cS cJ G o (u2, vp_updL q.2 (Int32.toNatClampNeg (0 : Int32)) (Int32.toInt64 r1))) := hD
  refine lv_goto (tgt := 18) hx hb dL_append_9 (by decide) ?_
  refine lv_iconst (v := (0 : Int32)) hx hb dL_append_18 (by decide) ?_
  exact hQ h hP hD hS dL_append_19

def wp_L_run (q : Ne × (Nat → Int64))  (post : Int32 → Ne × (Nat → Int64) → Prop) : Prop :=
  wp_X3_run q.1  (fun r1 u2 => post (0 : Int32) (u2, vp_updL q.2 (Int32.toNatClampNeg (0 : Int32)) (Int32.toInt64 r1))) (fun k9 u9 => (k9 = 2 ∧ post 1 (u9, q.2)))
set_option maxHeartbeats 4000000 in
set_option maxRecDepth 100000 in
theorem c_L_run (l : Launch) (hst : l.stackTraces = false) (D : va_G) (cI cS cJ : ClassId) (G : Nat → Nat → Nat) (o : Nat) (q : Ne × (Nat → Int64)) (sz : Nat)  {post : Int32 → Ne × (Nat → Int64) → Prop} (h : wp_L_run q  post) : Met l yL_run (Cond.codeWith yL_run cL_run 3 (some .int) [(0, 8, 11, 19)] :: wsT) rm_L_run (va_Pc [.ref (G 2 0), .ref o] (rwX D (tysA cI cS cJ) (hW cI cS cJ G o q) sz)) (va_Qi post (xQ D (hW cI cS cJ G o) (hW cI cS cJ G o q) sz) (va_A (hW cI cS cJ G o q) sz)) 1 6 (va_A (hW cI cS cJ G o q) sz) := by
  refine mkH (wf := hW cI cS cJ G o) (by decide +kernel) rfl (Nat.le_of_ble_eq_true rfl) (fun {p e s m args below meth c Q ls A H locs} hx hb F hts hown hT hK hV hH hP hD hS hA hl hQ => ?_)
  have hl : lv_has ls 3 [(0, .ref (G 2 0)), (1, .ref o)] := hl
  unfold wp_L_run at h
  refine lv_aload_n hx hb dL_run_0 rfl (lv_at hl 1 rfl) ?_
  refine lv_iconst (v := (0 : Int32)) hx hb dL_run_1 (by decide) ?_
  refine lv_aload_n hx hb dL_run_2 rfl (lv_at hl 0 rfl) ?_
  refine rxVi (wc := neW cI cS G q.1) (wr := [(o, .inl (cJ, 1, .inr (.inl q.2)))]) (As := []) (rest := [.int (0 : Int32), .ref o]) List.perm_append_comm F (c_X3_run l hst D cI cS cJ G q.1 H.size  h) (cw_L_91 hts (Nat.le_of_ble_eq_true rfl) (Nat.le_of_ble_eq_true rfl)) hK hV hH hP hD hS hA (recv (ci := 3) (k0 := 1) hK hP rfl rfl) rfl hl.1 rfl (Nat.le_of_ble_eq_true rfl) dL_run_3 ⟨(Nat.le_of_ble_eq_true rfl), (Nat.le_of_ble_eq_true rfl)⟩ (fun {k u E ce q9 H locs} h hE9 hP hD hS h1 h2 h3 => ?_) (fun r1 u2 H locs h hP hD hS => ?_)
  · subst hE9
    have hP : va_P D vwCl (hW cI cS cJ G o (u, q.2)) H := vP_perm List.perm_append_comm hP
    have hD : va_D A (hW cI cS cJ G o (u, q.2)) := vD_perm List.perm_append_comm hD
    rcases h with ⟨rfl, h⟩
    · refine vx_catch (name := exE 2) hown ((tableOf [(0, 8, 11, 19)]).take 0) ((tableOf [(0, 8, 11, 19)])[0]) ((tableOf [(0, 8, 11, 19)]).drop 1) (hT.trans rfl) (fun _ h => nomatch h) rfl (by decide) (hts _ q_487) (va_Nw.use rfl (hV.1 2 (Or.inr (Or.inl rfl)))) h1 h2 h3 ?_
      refine lv_astore_n (lv' := [(2, .ref q9), (0, .ref (G 2 0)), (1, .ref o)]) hx hb dL_run_11 rfl hl (by decide) rfl (fun ls hl => ?_)
      refine lv_iconst (v := (1 : Int32)) hx hb dL_run_12 (by decide) ?_
      exact hQ h hP hD hS dL_run_13
  have hP : va_P D vwCl (hW cI cS cJ G o (u2, q.2)) H := vP_perm List.perm_append_comm hP
  have hD : va_D A (hW cI cS cJ G o (u2, q.2)) := vD_perm List.perm_append_comm hD
  refine lv_i2l (v := (Int32.toInt64 r1)) hx hb dL_run_6 rfl ?_
  refine va_last hx hb hK.k hP hD hS 0 2 rfl rfl in01 dL_run_7 (fun H locs hP hD hS => ?_)
  have hP : va_P D vwCl (hW cI cS cJ G o (u2, vp_updL q.2 (Int32.toNatClampNeg (0 : Int32)) (Int32.toInt64 r1))) H := hP
  have hD : va_D A (hW cI cS cJ G o (u2, vp_updL q.2 (Int32.toNatClampNeg (0 : Int32)) (Int32.toInt64 r1))) := hD
  refine lv_goto (tgt := 14) hx hb dL_run_8 (by decide) ?_
  refine lv_iconst (v := (0 : Int32)) hx hb dL_run_14 (by decide) ?_
  exact hQ h hP hD hS dL_run_15

def wp_L_undo (q : Ne × (Nat → Int64))  (post : Int32 → Ne × (Nat → Int64) → Prop) : Prop :=
  wp_X3_undo q.1  (fun r1 u2 => post (0 : Int32) (u2, vp_updL q.2 (Int32.toNatClampNeg (0 : Int32)) (Int32.toInt64 r1))) (fun k9 u9 => (k9 = 3 ∧ post 1 (u9, q.2)))
set_option maxHeartbeats 4000000 in
set_option maxRecDepth 100000 in
theorem c_L_undo (l : Launch) (hst : l.stackTraces = false) (D : va_G) (cI cS cJ : ClassId) (G : Nat → Nat → Nat) (o : Nat) (q : Ne × (Nat → Int64)) (sz : Nat)  {post : Int32 → Ne × (Nat → Int64) → Prop} (h : wp_L_undo q  post) : Met l yL_undo (Cond.codeWith yL_undo cL_undo 3 (some .int) [(0, 8, 11, 39)] :: wsT) rm_L_undo (va_Pc [.ref (G 2 0), .ref o] (rwX D (tysA cI cS cJ) (hW cI cS cJ G o q) sz)) (va_Qi post (xQ D (hW cI cS cJ G o) (hW cI cS cJ G o q) sz) (va_A (hW cI cS cJ G o q) sz)) 1 6 (va_A (hW cI cS cJ G o q) sz) := by
  refine mkH (wf := hW cI cS cJ G o) (by decide +kernel) rfl (Nat.le_of_ble_eq_true rfl) (fun {p e s m args below meth c Q ls A H locs} hx hb F hts hown hT hK hV hH hP hD hS hA hl hQ => ?_)
  have hl : lv_has ls 3 [(0, .ref (G 2 0)), (1, .ref o)] := hl
  unfold wp_L_undo at h
  refine lv_aload_n hx hb dL_undo_0 rfl (lv_at hl 1 rfl) ?_
  refine lv_iconst (v := (0 : Int32)) hx hb dL_undo_1 (by decide) ?_
  refine lv_aload_n hx hb dL_undo_2 rfl (lv_at hl 0 rfl) ?_
  refine rxVi (wc := neW cI cS G q.1) (wr := [(o, .inl (cJ, 1, .inr (.inl q.2)))]) (As := []) (rest := [.int (0 : Int32), .ref o]) List.perm_append_comm F (c_X3_undo l hst D cI cS cJ G q.1 H.size  h) (cw_L_94 hts (Nat.le_of_ble_eq_true rfl) (Nat.le_of_ble_eq_true rfl)) hK hV hH hP hD hS hA (recv (ci := 3) (k0 := 1) hK hP rfl rfl) rfl hl.1 rfl (Nat.le_of_ble_eq_true rfl) dL_undo_3 ⟨(Nat.le_of_ble_eq_true rfl), (Nat.le_of_ble_eq_true rfl)⟩ (fun {k u E ce q9 H locs} h hE9 hP hD hS h1 h2 h3 => ?_) (fun r1 u2 H locs h hP hD hS => ?_)
  · subst hE9
    have hP : va_P D vwCl (hW cI cS cJ G o (u, q.2)) H := vP_perm List.perm_append_comm hP
    have hD : va_D A (hW cI cS cJ G o (u, q.2)) := vD_perm List.perm_append_comm hD
    rcases h with ⟨rfl, h⟩
    · refine vx_catch (name := exE 3) hown ((tableOf [(0, 8, 11, 39)]).take 0) ((tableOf [(0, 8, 11, 39)])[0]) ((tableOf [(0, 8, 11, 39)]).drop 1) (hT.trans rfl) (fun _ h => nomatch h) rfl (by decide) (hts _ q_541) (va_Nw.use rfl (hV.1 3 (Or.inr (Or.inr rfl)))) h1 h2 h3 ?_
      refine lv_astore_n (lv' := [(2, .ref q9), (0, .ref (G 2 0)), (1, .ref o)]) hx hb dL_undo_11 rfl hl (by decide) rfl (fun ls hl => ?_)
      refine lv_iconst (v := (1 : Int32)) hx hb dL_undo_12 (by decide) ?_
      exact hQ h hP hD hS dL_undo_13
  have hP : va_P D vwCl (hW cI cS cJ G o (u2, q.2)) H := vP_perm List.perm_append_comm hP
  have hD : va_D A (hW cI cS cJ G o (u2, q.2)) := vD_perm List.perm_append_comm hD
  refine lv_i2l (v := (Int32.toInt64 r1)) hx hb dL_undo_6 rfl ?_
  refine va_last hx hb hK.k hP hD hS 0 2 rfl rfl in01 dL_undo_7 (fun H locs hP hD hS => ?_)
  have hP : va_P D vwCl (hW cI cS cJ G o (u2, vp_updL q.2 (Int32.toNatClampNeg (0 : Int32)) (Int32.toInt64 r1))) H := hP
  have hD : va_D A (hW cI cS cJ G o (u2, vp_updL q.2 (Int32.toNatClampNeg (0 : Int32)) (Int32.toInt64 r1))) := hD
  refine lv_goto (tgt := 14) hx hb dL_undo_8 (by decide) ?_
  refine lv_iconst (v := (0 : Int32)) hx hb dL_undo_14 (by decide) ?_
  exact hQ h hP hD hS dL_undo_15
