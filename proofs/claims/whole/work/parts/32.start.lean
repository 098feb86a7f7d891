/-! the law's entry -/
theorem wt {w : Cond} (h1 : w ∈ lw_tbl) (h2 : goodWord w = true) : w ∈ wsT := List.mem_filter.mpr ⟨h1, h2⟩
def fs4 : List Value := [.int 0, .null, .int 0, .null, .int 0, .int 0, .int 0, .int 0, .int 0, .int 0, .int 0, .long 0]
theorem fs4_ok : ∀ j, j < 12 → defaultValue (tyX4 j) = vp_V fs4 j := by
  intro j hj
  rcases (show j = 0 ∨ j = 1 ∨ j = 2 ∨ j = 3 ∨ j = 4 ∨ j = 5 ∨ j = 6 ∨ j = 7 ∨ j = 8 ∨ j = 9 ∨ j = 10 ∨ j = 11 by omega) with rfl | rfl | rfl | rfl | rfl | rfl | rfl | rfl | rfl | rfl | rfl | rfl <;> rfl
theorem fs3_ok : ∀ j, j < 3 → defaultValue (tyX3 j) = vp_V [.null, .null, .null] j := by
  intro j hj
  rcases (show j = 0 ∨ j = 1 ∨ j = 2 by omega) with rfl | rfl | rfl <;> rfl
theorem ci_L_X3 {R : Room} {s : State} {args : Array Value} (hts : ∀ w ∈ wsT, w.before args s = true) (hf : 3 + 1 ≤ R.frames) (hl : 8 + (1 + 11) + 65 ≤ R.locals) : CallB R s args RL 97 yX3_init cX3_init 1 none (wsA yX3_init cX3_init 1 none) rm_X3_init 67 932 0 ∧ yX3_init.name = "<init>" ∧ (Cond.instanceMethod yX3_init).before args s = true :=
  cwI 0 hts (gA0 (wt (by decide +kernel) (by decide +kernel))) rfl rfl rfl (hts _ (wt (by decide +kernel) (by decide +kernel))) (hts _ (wt (by decide +kernel) (by decide +kernel))) (hts _ (wt (by decide +kernel) (by decide +kernel))) rfl (by decide +kernel) ⟨hf, hl⟩
theorem ci_L_X4 {R : Room} {s : State} {args : Array Value} (hts : ∀ w ∈ wsT, w.before args s = true) (hf : 1 + 1 ≤ R.frames) (hl : 8 + (2 + 11) + 20 ≤ R.locals) : CallB R s args RL 100 yX4_init cX4_init 2 none (wsA yX4_init cX4_init 2 none) rm_X4_init 2 914 0 ∧ yX4_init.name = "<init>" ∧ (Cond.instanceMethod yX4_init).before args s = true :=
  cwI 0 hts (gA0 (wt (by decide +kernel) (by decide +kernel))) rfl rfl rfl (hts _ (wt (by decide +kernel) (by decide +kernel))) (hts _ (wt (by decide +kernel) (by decide +kernel))) (hts _ (wt (by decide +kernel) (by decide +kernel))) rfl (by decide +kernel) ⟨hf, hl⟩
set_option maxHeartbeats 4000000 in
set_option maxRecDepth 100000 in
theorem start_of {I : Ne → Md → Prop} (hok : LawOk I) (hw0 : wp_X2_init (fun _ => True)) (hw : wp_X2_init (fun u => ∀ S : Nat → St, wp_X0_init (fun t => wp_X4_init (fun M => I (u, t, S, 0, 0) M)))) {p : Program} {e : Env} {s : State} {m : MethodId} {below : List Frame} {meth : Method} {c : Code} (l : Launch) (hflags : l.flags = flags0) {b L : Nat} {xs : Nat → Int32} (hL : L ≤ 2560) (C0 : lw_At p s m meth c b L xs) : W p l e room_1 s m #[Value.ref b] below meth c s.heap [] 0 0 (lw_Z below #[Value.ref b] s) (entryFrame m ([Value.ref b] : List Value).toArray 9) := by
  obtain ⟨hx, hb, hr, hml, hown0, htb, hX, hbl, hlocks, hgv⟩ := C0
  have hst : l.stackTraces = false := by
    unfold Launch.stackTraces
    rw [hflags]
    decide +kernel
  obtain ⟨D, cI, cS, cJ, hK⟩ := Bx.KK htb
  have hV := Bx.XV htb hgv
  have hH := Bx.XH htb hgv
  have hAO := Bx.AO htb
  have hts : ∀ w ∈ wsT, w.before #[Value.ref b] s = true := fun w h => htb w (List.mem_filter.mp h).1
  have hown : s.vm.findClass RL = some m.cls := hown0
  obtain ⟨A, hAe⟩ : ∃ A : Nat → Prop, A = fun q => s.heap.size ≤ q := ⟨_, rfl⟩
  have hA : ∀ q : Nat, s.heap.size ≤ q → A q := fun q h => by rw [hAe]; exact h
  have hAs : ∀ q : Nat, A q → s.heap.size ≤ q := fun q h => by rw [hAe] at h; exact h
  have hbA : ¬ A b := fun h => absurd (hAs b h) (Nat.not_le.mpr hbl)
  have hH : XH A s s.heap := by rw [hAe]; exact hH
  have F : CallFix p m c code 9 s #[Value.ref b] wsT RL := ⟨hx, hb, hml, hown, hts⟩
  have C : lwC p l s m #[Value.ref b] c A D cI cS cJ b L xs := ⟨hst, F, hK, hV, hH, hX, hbl, hbA, hA⟩
  have hS : va_S A s.heap s.heap [] := va_S.rf
  have hP : va_P D vwCl ([] : va_W) s.heap := fun k q h => by cases h
  have hD : va_D A ([] : va_W) := ⟨(by intro i j p q h; cases h), (by intro k q h; cases h)⟩
  have hl := lv_entry ([.ref b]) (n := 9) (Nat.le_of_ble_eq_true rfl)
  rw [lg_entry_eq]
  generalize (lg_sl ([.ref b]) ++ List.replicate (9 - (lg_sl ([.ref b])).length) Slot.unset).toArray = ls at hl ⊢
  have hl : lv_has ls 9 [(0, .ref b)] := hl
  refine va_new (ci := 3) (fs := [.null, .null, .null]) (C := RX3) (T := TX3) (N := 3) hx hb hts inT3 tyX3 tyX3_ok hown (hts _ (wt (by decide +kernel) (by decide +kernel))) (hts _ (wt (by decide +kernel) (by decide +kernel))) (hts _ (wt (by decide +kernel) (by decide +kernel))) hK.k hP hD hS hA rfl fs3_ok (Nat.le_of_ble_eq_true rfl) (Nat.le_of_ble_eq_true rfl) dL_law_0 (fun q2 H hP hD hS => ?_)
  have hP : va_P D vwCl ([(q2, .inr (3, [.null, .null, .null]))] : va_W) H := hP
  have hD : va_D A ([(q2, .inr (3, [.null, .null, .null]))] : va_W) := hD
  refine lv_dup hx hb dL_law_3 rfl ?_
  refine rw_kv (wc := [(q2, .inr (3, [.null, .null, .null]))]) (wr := []) (va_runI (As := []) (rest := [.ref q2]) F (c_X3_init l D cI cS cJ q2 H.size hw0 (post := fun N => wp_X4_init (fun M => I N M)) hw) (ci_L_X3 hts (Nat.le_of_ble_eq_true rfl) (Nat.le_of_ble_eq_true rfl)) (preAO perm0 hK hAO hP hD) rfl rfl hl.1 rfl (lv_room (Nat.le_of_ble_eq_true rfl)) dL_law_4 ⟨(Nat.le_of_ble_eq_true rfl), (Nat.le_of_ble_eq_true rfl)⟩) perm0 hP hD hS hA (fun v H locs hv hP2 hD2 hS2 => ?_)
  obtain ⟨G, N⟩ := v
  obtain ⟨hG, hw4⟩ := hv
  have hG : G 2 0 = q2 := hG
  have hw4 : wp_X4_init (fun M => I N M) := hw4
  subst hG
  have hP : va_P D vwCl (neW cI cS G N) H := by have h9 := hP2; rw [List.append_nil] at h9; exact h9
  have hD : va_D A (neW cI cS G N) := by have h9 := hD2; rw [List.append_nil] at h9; exact h9
  have hS := hS2
  refine lv_astore_n (lv' := [(1, .ref (G 2 0)), (0, .ref b)]) hx hb dL_law_7 rfl hl (by decide) rfl (fun ls hl => ?_)
  refine va_new (ci := 4) (fs := fs4) (C := RX4) (T := TX4) (N := 12) hx hb hts inT4 tyX4 tyX4_ok hown (hts _ (wt (by decide +kernel) (by decide +kernel))) (hts _ (wt (by decide +kernel) (by decide +kernel))) (hts _ (wt (by decide +kernel) (by decide +kernel))) hK.k hP hD hS hA rfl fs4_ok (Nat.le_of_ble_eq_true rfl) (Nat.le_of_ble_eq_true rfl) dL_law_8 (fun q3 H hP hD hS => ?_)
  refine lv_dup hx hb dL_law_11 rfl ?_
  refine rwIv (wc := [(q3, .inr (4, fs4))]) (wr := neW cI cS G N) (As := []) (rest := [.ref q3]) List.perm_append_comm F (c_X4_init l D cI cS cJ q3 H.size hw4) (ci_L_X4 hts (Nat.le_of_ble_eq_true rfl) (Nat.le_of_ble_eq_true rfl)) hK hP hD hS hA rfl hl.1 rfl (Nat.le_of_ble_eq_true rfl) dL_law_12 ⟨(Nat.le_of_ble_eq_true rfl), (Nat.le_of_ble_eq_true rfl)⟩ (fun u H locs hu hP2 hD2 hS2 => ?_)
  obtain ⟨bm, M⟩ := u
  obtain ⟨hbm, hI⟩ := hu
  have hbm : bm 0 = q3 := hbm
  have hI : I N M := hI
  subst hbm
  have hP : va_P D vwCl (neW cI cS G N ++ mdW cI bm M) H := vP_perm List.perm_append_comm hP2
  have hD : va_D A (neW cI cS G N ++ mdW cI bm M) := vD_perm List.perm_append_comm hD2
  have hS := hS2
  refine lv_astore_n (lv' := [(2, .ref (bm 0)), (1, .ref (G 2 0)), (0, .ref b)]) hx hb dL_law_15 rfl hl (by decide) rfl (fun ls hl => ?_)
  refine lv_iconst (v := (1 : Int32)) hx hb dL_law_16 (by decide) ?_
  refine va_newa (ty := .long) (N' := 1) (a0 := (1, .inr (.inl (fun _ => 0)))) hx hb (hts _ (wt (by decide +kernel) (by decide +kernel))) rfl hK.k hP hD hS hA (fun _ => rfl) (by decide) (by decide) (by decide) (Nat.le_of_ble_eq_true rfl) (Nat.le_of_ble_eq_true rfl) dL_law_17 (fun o cA H hKn hP hD hS => ?_)
  have hcA := arrJ_eq hKn
  subst hcA
  have hpm : ((neW cI cS G N ++ mdW cI bm M) ++ [(o, .inl (cA, 1, .inr (.inl (fun _ => 0))))] : va_W).Perm (lwW cI cS cA G o bm (N, (fun _ => 0), M)) := List.perm_append_comm
  have hP : va_P D vwCl (lwW cI cS cA G o bm (N, (fun _ => 0), M)) H := vP_perm hpm hP
  have hD : va_D A (lwW cI cS cA G o bm (N, (fun _ => 0), M)) := vD_perm hpm hD
  refine lv_astore_n (lv' := [(3, .ref o), (2, .ref (bm 0)), (1, .ref (G 2 0)), (0, .ref b)]) hx hb dL_law_19 rfl hl (by decide) rfl (fun ls hl => ?_)
  refine lv_iconst (v := (0 : Int32)) hx hb dL_law_20 (by decide) ?_
  refine lv_istore (lv' := [(4, .int (nI (5 * 0))), (3, .ref o), (2, .ref (bm 0)), (1, .ref (G 2 0)), (0, .ref b)]) hx hb dL_law_21 hl (by decide) rfl (fun ls hl => ?_)
  refine W.widen (k := 72 + 2 * 0) (n := 1862 + 12 * 0) (by decide) (by decide) ?_
  refine W.base ?_
  exact law_loop hok hL C hAs hr hlocks 512 0 (by decide) s.drawn N (fun _ => 0) M H locs ls (Drawn.sameBut.refl s.drawn lw_cs) (Nat.zero_le _) (lv_sub hl [4, 3, 2, 1, 0] rfl) hP hD hS hI
