def wp_law_0 (xs : Nat → Int32) (i : Int32) (N : Ne) (O : Nat → Int64) (M : Md) (post : Ne → (Nat → Int64) → Md → Prop) : Prop :=
  jn (fun (x1 : Int32) => wp_L_setOpen (N, O) (xs (Int32.toNatClampNeg (i + (1 : Int32)))) x1 (fun r6 u7 => jn (fun (x8 : Int32) => wp_X4_setOpen M (xs (Int32.toNatClampNeg (i + (1 : Int32)))) x8 (fun r13 u15 => wp_X4_thrown u15 (fun r16 => (r16 = r6 → (¬ r6 = 0 → post u7.1 u7.2 u15) ∧ (r6 = 0 → jn (fun (x19 : Int64) => ((lg_cmp (u7.2 (Int32.toNatClampNeg (0 : Int32))) x19) = 0 → post u7.1 u7.2 u15) ∧ (¬ (lg_cmp (u7.2 (Int32.toNatClampNeg (0 : Int32))) x19) = 0 → False)) (fun (J20 : Int64 → Prop) => (r13 = 0 → J20 (0 : Int64)) ∧ (¬ r13 = 0 → J20 (1 : Int64))))) ∧ (¬ r16 = r6 → False)))) (fun (J10 : Int32 → Prop) => ((xs (Int32.toNatClampNeg (i + (2 : Int32)))) = 0 → J10 (0 : Int32)) ∧ (¬ (xs (Int32.toNatClampNeg (i + (2 : Int32)))) = 0 → J10 (1 : Int32))))) (fun (J3 : Int32 → Prop) => ((xs (Int32.toNatClampNeg (i + (2 : Int32)))) = 0 → J3 (0 : Int32)) ∧ (¬ (xs (Int32.toNatClampNeg (i + (2 : Int32)))) = 0 → J3 (1 : Int32)))
set_option maxHeartbeats 4000000 in
set_option maxRecDepth 100000 in
theorem c_law_0 {p : Program} {l : Launch} {e : Env} {s : State} {m : MethodId} {args : Array Value} {below : List Frame} {meth : Method} {c : Code} {Q : State → Prop} {A : Nat → Prop} {D : va_G} {cI cS cJ : ClassId} {G : Nat → Nat → Nat} {o : Nat} {bm : Nat → Nat} {b L cs ss : Nat} {xs : Nat → Int32} {i : Int32} {N : Ne} {O : Nat → Int64} {M : Md} {H : Heap} {locs : List Loc} {ls : Array Slot} (C : lwC p l s m args c A D cI cS cJ b L xs) (hi0 : vp_in i L) (hi1 : vp_in (i + 1) L) (hi2 : vp_in (i + 2) L) (hi3 : vp_in (i + 3) L) (hi4 : vp_in (i + 4) L) (hcs : cs + 2 ≤ 601024) (hss : ss + 12 ≤ 7293034) (hl : lv_has ls 9 [(0, .ref b), (1, .ref (G 2 0)), (2, .ref (bm 0)), (3, .ref o), (4, .int i)]) (hP : va_P D vwCl (lwW cI cS cJ G o bm (N, O, M)) H) (hD : va_D A (lwW cI cS cJ G o bm (N, O, M))) (hS : va_S A s.heap H locs) {post : Ne → (Nat → Int64) → Md → Prop} (h : wp_law_0 xs i N O M post)
    (cont : ∀ (d' : Drawn) (N : Ne) (O : Nat → Int64) (M : Md) (H : Heap) (locs : List Loc) (ls : Array Slot), s.drawn.sameBut d' lw_cs → lv_has ls 9 [(0, .ref b), (1, .ref (G 2 0)), (2, .ref (bm 0)), (3, .ref o), (4, .int i)] → va_P D vwCl (lwW cI cS cJ G o bm (N, O, M)) H → va_D A (lwW cI cS cJ G o bm (N, O, M)) → va_S A s.heap H locs → post N O M → W p l e room_1 (s.setDrawn d') m args below meth c H locs (cs + 2) (ss + 12) Q (F0 m 1874 ls [])) :
    W p l e room_1 s m args below meth c H locs cs ss Q (F0 m 184 ls []) := by
  obtain ⟨hst, FC, hK0, hV, hH, hX, hbl, hbA, hA⟩ := C
  have hx := FC.1
  have hb := FC.2.1
  have hown := FC.2.2.2.1
  have hts := FC.2.2.2.2
  have F := FC
  have hK := hK0
  unfold wp_law_0 at h
  refine lv_aload_n hx hb dL_law_184 rfl (lv_at hl 1 rfl) ?_
  refine lv_aload_n hx hb dL_law_185 rfl (lv_at hl 0 rfl) ?_
  refine lv_iload hx hb dL_law_186 (lv_at hl 4 rfl) ?_
  refine lv_iconst (v := (1 : Int32)) hx hb dL_law_188 (by decide) ?_
  refine lv_iadd hx hb dL_law_189 ?_
  refine va_sld hx hb hX hbl hbA hS hi1 dL_law_190 ?_
  refine lv_aload_n hx hb dL_law_191 rfl (lv_at hl 0 rfl) ?_
  refine lv_iload hx hb dL_law_192 (lv_at hl 4 rfl) ?_
  refine lv_iconst (v := (2 : Int32)) hx hb dL_law_194 (by decide) ?_
  refine lv_iadd hx hb dL_law_195 ?_
  refine va_sld hx hb hX hbl hbA hS hi2 dL_law_196 ?_
  refine jn_e h (fun J3 e5 h => ?_)
  have w4 : ∀ (x1 : Int32) (ls : Array Slot) (H : Heap) (locs : List Loc), bz x1 → lv_has ls 9 [(0, .ref b), (1, .ref (G 2 0)), (2, .ref (bm 0)), (3, .ref o), (4, .int i)] → va_P D vwCl (lwW cI cS cJ G o bm (N, O, M)) H → va_D A (lwW cI cS cJ G o bm (N, O, M)) → va_S A s.heap H locs → J3 x1 → W p l e room_1 s m args below meth c H locs cs ss Q (F0 m 205 ls [.int x1, .int (xs (Int32.toNatClampNeg (i + (1 : Int32)))), .ref (G 2 0)]) := by
    intro x1 ls H locs b2 hl hP hD hS h
    subst e5
    refine lv_aload_n hx hb dL_law_205 rfl (lv_at hl 3 rfl) ?_
    refine rwHi (wr := mdW cI bm M) (As := [.ref (G 2 0), .int (xs (Int32.toNatClampNeg (i + (1 : Int32)))), .int x1, .ref o]) (rest := []) lwH_f F (c_L_setOpen l hst D cI cS cJ G o (N, O) H.size (xs (Int32.toNatClampNeg (i + (1 : Int32)))) x1 h) (cwH_setOpen hts (Nat.le_of_ble_eq_true rfl) (Nat.le_of_ble_eq_true rfl)) hK hV hH hP hD hS hA rfl hl.1 rfl (Nat.le_of_ble_eq_true rfl) dL_law_206 ⟨show cs + 1 ≤ 601024 by omega, show ss + 6 ≤ 7293034 by omega⟩ (fun r6 u7 H locs h hP hD hS => ?_)
    have hP : va_P D vwCl (lwW cI cS cJ G o bm (u7.1, u7.2, M)) H := vP_perm lwH_b hP
    have hD : va_D A (lwW cI cS cJ G o bm (u7.1, u7.2, M)) := vD_perm lwH_b hD
    refine lv_istore (lv' := [(5, .int r6), (0, .ref b), (1, .ref (G 2 0)), (2, .ref (bm 0)), (3, .ref o), (4, .int i)]) hx hb dL_law_209 hl (by decide) rfl (fun ls hl => ?_)
    refine lv_aload_n hx hb dL_law_211 rfl (lv_at hl 3 rfl) ?_
    refine lv_aload_n hx hb dL_law_212 rfl (lv_at hl 1 rfl) ?_
    refine lv_iload hx hb dL_law_213 (lv_at hl 5 rfl) ?_
    refine lv_iconst (v := (1 : Int32)) hx hb dL_law_215 (by decide) ?_
    refine lv_iadd hx hb dL_law_216 ?_
    refine va_sld hx hb hX hbl hbA hS hi1 dL_law_217 ?_
    refine lv_aload_n hx hb dL_law_218 rfl (lv_at hl 1 rfl) ?_
    refine lv_iload hx hb dL_law_219 (lv_at hl 5 rfl) ?_
    refine lv_iconst (v := (2 : Int32)) hx hb dL_law_221 (by decide) ?_
    refine lv_iadd hx hb dL_law_222 ?_
    refine va_sld hx hb hX hbl hbA hS hi2 dL_law_223 ?_
    refine jn_e h (fun J10 e12 h => ?_)
    have w11 : ∀ (x8 : Int32) (ls : Array Slot) (H : Heap) (locs : List Loc), bz x8 → lv_has ls 9 [(0, .ref b), (1, .ref (G 2 0)), (2, .ref (bm 0)), (3, .ref o), (4, .int i), (5, .int r6)] → va_P D vwCl (lwW cI cS cJ G o bm (u7.1, u7.2, M)) H → va_D A (lwW cI cS cJ G o bm (u7.1, u7.2, M)) → va_S A s.heap H locs → J10 x8 → W p l e room_1 s m args below meth c H locs (cs + 1) (ss + 6) Q (F0 m 232 ls [.int x8, .int (xs (Int32.toNatClampNeg (i + (1 : Int32)))), .ref (bm 0)]) := by
      intro x8 ls H locs b9 hl hP hD hS h
      subst e12
      refine rwVi (wr := lwMr cI cS cJ G o (u7.1, u7.2)) (As := [.int (xs (Int32.toNatClampNeg (i + (1 : Int32)))), .int x8]) (rest := []) lwM_f F (c_X4_setOpen l D cI cS cJ bm M H.size (xs (Int32.toNatClampNeg (i + (1 : Int32)))) x8 h) (cw_L_106 hts (Nat.le_of_ble_eq_true rfl) (Nat.le_of_ble_eq_true rfl)) hK hP hD hS hA (recv (ci := 4) (k0 := 69) hK hP rfl rfl) rfl hl.1 rfl (Nat.le_of_ble_eq_true rfl) dL_law_232 ⟨show (cs + 1) + 0 ≤ 601024 by omega, show (ss + 6) + 0 ≤ 7293034 by omega⟩ (fun r13 u15 H locs h hP hD hS => ?_)
      obtain ⟨b14, h⟩ := h
      have hP : va_P D vwCl (lwW cI cS cJ G o bm (u7.1, u7.2, u15)) H := vP_perm (lwM_b u15) hP
      have hD : va_D A (lwW cI cS cJ G o bm (u7.1, u7.2, u15)) := vD_perm (lwM_b u15) hD
      refine lv_istore (lv' := [(6, .int r13), (0, .ref b), (1, .ref (G 2 0)), (2, .ref (bm 0)), (3, .ref o), (4, .int i), (5, .int r6)]) hx hb dL_law_235 hl (by decide) rfl (fun ls hl => ?_)
      refine lv_aload_n hx hb dL_law_237 rfl (lv_at hl 3 rfl) ?_
      refine roVi (As := []) (rest := []) F (c_X4_thrown l D cI cS cJ bm u15 H  h) (cw_L_107 hts (Nat.le_of_ble_eq_true rfl) (Nat.le_of_ble_eq_true rfl)) hK (vP_L (vP_perm lwM_f hP)) (recv (ci := 4) (k0 := 69) hK hP rfl rfl) rfl hl.1 rfl (Nat.le_of_ble_eq_true rfl) dL_law_238 ⟨show ((cs + 1) + 0) + 0 ≤ 601024 by omega, show ((ss + 6) + 0) + 0 ≤ 7293034 by omega⟩ (fun r16 h => ?_)
      refine lv_iload hx hb dL_law_241 (lv_at hl 6 rfl) ?_
      refine lv_icmp_eq (tgt := 248) hx hb dL_law_243 (by decide) (fun c17 => ?_) (fun c17 => ?_)
      · replace h := h.1 c17
        refine lv_iload hx hb dL_law_248 (lv_at hl 6 rfl) ?_
        refine lv_if_ne (tgt := 272) hx hb dL_law_250 (by decide) (fun c18 => ?_) (fun c18 => ?_)
        · replace h := h.1 c18
          refine lv_goto (tgt := 1874) hx hb dL_law_272 (by decide) ?_
          refine W.widen (k := cs + 2) (n := ss + 12) (by omega) (by omega) ?_
          exact cont s.drawn _ _ _ _ _ _ (Drawn.sameBut.refl _ _) (lv_sub hl [1, 2, 3, 4, 5] rfl) hP hD hS h
        · replace h := h.2 c18
          refine lv_aload_n hx hb dL_law_253 rfl (lv_at hl 4 rfl) ?_
          refine lv_iconst (v := (0 : Int32)) hx hb dL_law_254 (by decide) ?_
          refine va_lald hx hb hK.k hP 0 2 rfl rfl in01 dL_law_255 ?_
          refine lv_iload hx hb dL_law_256 (lv_at hl 0 rfl) ?_
          refine jn_e h (fun J20 e22 h => ?_)
          have w21 : ∀ (x19 : Int64) (ls : Array Slot) (H : Heap) (locs : List Loc), lv_has ls 9 [(0, .ref b), (1, .ref (G 2 0)), (2, .ref (bm 0)), (3, .ref o), (4, .int i)] → va_P D vwCl (lwW cI cS cJ G o bm (u7.1, u7.2, u15)) H → va_D A (lwW cI cS cJ G o bm (u7.1, u7.2, u15)) → va_S A s.heap H locs → J20 x19 → W p l e room_1 s m args below meth c H locs ((cs + 1) + 0) ((ss + 6) + 0) Q (F0 m 266 ls [.long x19, .long (u7.2 (Int32.toNatClampNeg (0 : Int32)))]) := by
            intro x19 ls H locs hl hP hD hS h
            subst e22
            refine W.lcmp hx hb dL_law_266 ?_
            refine lv_if_eq (tgt := 272) hx hb dL_law_267 (by decide) (fun c23 => ?_) (fun c23 => ?_)
            · replace h := h.1 c23
              refine lv_goto (tgt := 1874) hx hb dL_law_272 (by decide) ?_
              refine W.widen (k := cs + 2) (n := ss + 12) (by omega) (by omega) ?_
              exact cont s.drawn _ _ _ _ _ _ (Drawn.sameBut.refl _ _) (lv_sub hl [0, 1, 2, 3, 4] rfl) hP hD hS h
            · replace h := h.2 c23
              refine lv_iconst (v := (0 : Int32)) hx hb dL_law_270 (by decide) ?_
              exact h.elim
          clear e22
          refine lv_if_eq (tgt := 265) hx hb dL_law_258 (by decide) (fun c24 => ?_) (fun c24 => ?_)
          · replace h := h.1 c24
            refine lv_lconst (v := (0 : Int64)) hx hb dL_law_265 rfl ?_
            exact w21 (0 : Int64) _ _ _ (lv_sub hl [1, 2, 3, 4, 5] rfl) hP hD hS h
          · replace h := h.2 c24
            refine lv_lconst (v := (1 : Int64)) hx hb dL_law_261 rfl ?_
            refine lv_goto (tgt := 266) hx hb dL_law_262 (by decide) ?_
            exact w21 (1 : Int64) _ _ _ (lv_sub hl [1, 2, 3, 4, 5] rfl) hP hD hS h
      · replace h := h.2 c17
        refine lv_iconst (v := (0 : Int32)) hx hb dL_law_246 (by decide) ?_
        exact h.elim
    clear e12
    refine lv_if_eq (tgt := 231) hx hb dL_law_224 (by decide) (fun c25 => ?_) (fun c25 => ?_)
    · replace h := h.1 c25
      refine lv_iconst (v := (0 : Int32)) hx hb dL_law_231 (by decide) ?_
      exact w11 (0 : Int32) _ _ _ bz0 (lv_sub hl [1, 2, 3, 4, 5, 0] rfl) hP hD hS h
    · replace h := h.2 c25
      refine lv_iconst (v := (1 : Int32)) hx hb dL_law_227 (by decide) ?_
      refine lv_goto (tgt := 232) hx hb dL_law_228 (by decide) ?_
      exact w11 (1 : Int32) _ _ _ bz1 (lv_sub hl [1, 2, 3, 4, 5, 0] rfl) hP hD hS h
  clear e5
  refine lv_if_eq (tgt := 204) hx hb dL_law_197 (by decide) (fun c26 => ?_) (fun c26 => ?_)
  · replace h := h.1 c26
    refine lv_iconst (v := (0 : Int32)) hx hb dL_law_204 (by decide) ?_
    exact w4 (0 : Int32) _ _ _ bz0 hl hP hD hS h
  · replace h := h.2 c26
    refine lv_iconst (v := (1 : Int32)) hx hb dL_law_200 (by decide) ?_
    refine lv_goto (tgt := 205) hx hb dL_law_201 (by decide) ?_
    exact w4 (1 : Int32) _ _ _ bz1 hl hP hD hS h

def wp_law_1 (xs : Nat → Int32) (i : Int32) (N : Ne) (O : Nat → Int64) (M : Md) (post : Ne → (Nat → Int64) → Md → Prop) : Prop :=
  wp_L_setKey (N, O) (xs (Int32.toNatClampNeg (i + (1 : Int32)))) (xs (Int32.toNatClampNeg (i + (2 : Int32)))) (fun r1 u2 => wp_X4_setKey M (xs (Int32.toNatClampNeg (i + (1 : Int32)))) (xs (Int32.toNatClampNeg (i + (2 : Int32)))) (fun r3 u4 => wp_X4_thrown u4 (fun r5 => (r5 = r1 → (¬ r1 = 0 → post u2.1 u2.2 u4) ∧ (r1 = 0 → ((lg_cmp (u2.2 (Int32.toNatClampNeg (0 : Int32))) (Int32.toInt64 r3)) = 0 → post u2.1 u2.2 u4) ∧ (¬ (lg_cmp (u2.2 (Int32.toNatClampNeg (0 : Int32))) (Int32.toInt64 r3)) = 0 → False))) ∧ (¬ r5 = r1 → False))))
set_option maxHeartbeats 4000000 in
set_option maxRecDepth 100000 in
theorem c_law_1 {p : Program} {l : Launch} {e : Env} {s : State} {m : MethodId} {args : Array Value} {below : List Frame} {meth : Method} {c : Code} {Q : State → Prop} {A : Nat → Prop} {D : va_G} {cI cS cJ : ClassId} {G : Nat → Nat → Nat} {o : Nat} {bm : Nat → Nat} {b L cs ss : Nat} {xs : Nat → Int32} {i : Int32} {N : Ne} {O : Nat → Int64} {M : Md} {H : Heap} {locs : List Loc} {ls : Array Slot} (C : lwC p l s m args c A D cI cS cJ b L xs) (hi0 : vp_in i L) (hi1 : vp_in (i + 1) L) (hi2 : vp_in (i + 2) L) (hi3 : vp_in (i + 3) L) (hi4 : vp_in (i + 4) L) (hcs : cs + 2 ≤ 601024) (hss : ss + 12 ≤ 7293034) (hl : lv_has ls 9 [(0, .ref b), (1, .ref (G 2 0)), (2, .ref (bm 0)), (3, .ref o), (4, .int i)]) (hP : va_P D vwCl (lwW cI cS cJ G o bm (N, O, M)) H) (hD : va_D A (lwW cI cS cJ G o bm (N, O, M))) (hS : va_S A s.heap H locs) {post : Ne → (Nat → Int64) → Md → Prop} (h : wp_law_1 xs i N O M post)
    (cont : ∀ (d' : Drawn) (N : Ne) (O : Nat → Int64) (M : Md) (H : Heap) (locs : List Loc) (ls : Array Slot), s.drawn.sameBut d' lw_cs → lv_has ls 9 [(0, .ref b), (1, .ref (G 2 0)), (2, .ref (bm 0)), (3, .ref o), (4, .int i)] → va_P D vwCl (lwW cI cS cJ G o bm (N, O, M)) H → va_D A (lwW cI cS cJ G o bm (N, O, M)) → va_S A s.heap H locs → post N O M → W p l e room_1 (s.setDrawn d') m args below meth c H locs (cs + 2) (ss + 12) Q (F0 m 1874 ls [])) :
    W p l e room_1 s m args below meth c H locs cs ss Q (F0 m 275 ls []) := by
  obtain ⟨hst, FC, hK0, hV, hH, hX, hbl, hbA, hA⟩ := C
  have hx := FC.1
  have hb := FC.2.1
  have hown := FC.2.2.2.1
  have hts := FC.2.2.2.2
  have F := FC
  have hK := hK0
  unfold wp_law_1 at h
  refine lv_aload_n hx hb dL_law_275 rfl (lv_at hl 1 rfl) ?_
  refine lv_aload_n hx hb dL_law_276 rfl (lv_at hl 0 rfl) ?_
  refine lv_iload hx hb dL_law_277 (lv_at hl 4 rfl) ?_
  refine lv_iconst (v := (1 : Int32)) hx hb dL_law_279 (by decide) ?_
  refine lv_iadd hx hb dL_law_280 ?_
  refine va_sld hx hb hX hbl hbA hS hi1 dL_law_281 ?_
  refine lv_aload_n hx hb dL_law_282 rfl (lv_at hl 0 rfl) ?_
  refine lv_iload hx hb dL_law_283 (lv_at hl 4 rfl) ?_
  refine lv_iconst (v := (2 : Int32)) hx hb dL_law_285 (by decide) ?_
  refine lv_iadd hx hb dL_law_286 ?_
  refine va_sld hx hb hX hbl hbA hS hi2 dL_law_287 ?_
  refine lv_aload_n hx hb dL_law_288 rfl (lv_at hl 3 rfl) ?_
  refine rwHi (wr := mdW cI bm M) (As := [.ref (G 2 0), .int (xs (Int32.toNatClampNeg (i + (1 : Int32)))), .int (xs (Int32.toNatClampNeg (i + (2 : Int32)))), .ref o]) (rest := []) lwH_f F (c_L_setKey l hst D cI cS cJ G o (N, O) H.size (xs (Int32.toNatClampNeg (i + (1 : Int32)))) (xs (Int32.toNatClampNeg (i + (2 : Int32)))) h) (cwH_setKey hts (Nat.le_of_ble_eq_true rfl) (Nat.le_of_ble_eq_true rfl)) hK hV hH hP hD hS hA rfl hl.1 rfl (Nat.le_of_ble_eq_true rfl) dL_law_289 ⟨show cs + 1 ≤ 601024 by omega, show ss + 6 ≤ 7293034 by omega⟩ (fun r1 u2 H locs h hP hD hS => ?_)
  have hP : va_P D vwCl (lwW cI cS cJ G o bm (u2.1, u2.2, M)) H := vP_perm lwH_b hP
  have hD : va_D A (lwW cI cS cJ G o bm (u2.1, u2.2, M)) := vD_perm lwH_b hD
  refine lv_istore (lv' := [(5, .int r1), (0, .ref b), (1, .ref (G 2 0)), (2, .ref (bm 0)), (3, .ref o), (4, .int i)]) hx hb dL_law_292 hl (by decide) rfl (fun ls hl => ?_)
  refine lv_aload_n hx hb dL_law_294 rfl (lv_at hl 3 rfl) ?_
  refine lv_aload_n hx hb dL_law_295 rfl (lv_at hl 1 rfl) ?_
  refine lv_iload hx hb dL_law_296 (lv_at hl 5 rfl) ?_
  refine lv_iconst (v := (1 : Int32)) hx hb dL_law_298 (by decide) ?_
  refine lv_iadd hx hb dL_law_299 ?_
  refine va_sld hx hb hX hbl hbA hS hi1 dL_law_300 ?_
  refine lv_aload_n hx hb dL_law_301 rfl (lv_at hl 1 rfl) ?_
  refine lv_iload hx hb dL_law_302 (lv_at hl 5 rfl) ?_
  refine lv_iconst (v := (2 : Int32)) hx hb dL_law_304 (by decide) ?_
  refine lv_iadd hx hb dL_law_305 ?_
  refine va_sld hx hb hX hbl hbA hS hi2 dL_law_306 ?_
  refine rwVi (wr := lwMr cI cS cJ G o (u2.1, u2.2)) (As := [.int (xs (Int32.toNatClampNeg (i + (1 : Int32)))), .int (xs (Int32.toNatClampNeg (i + (2 : Int32))))]) (rest := []) lwM_f F (c_X4_setKey l D cI cS cJ bm M H.size (xs (Int32.toNatClampNeg (i + (1 : Int32)))) (xs (Int32.toNatClampNeg (i + (2 : Int32)))) h) (cw_L_113 hts (Nat.le_of_ble_eq_true rfl) (Nat.le_of_ble_eq_true rfl)) hK hP hD hS hA (recv (ci := 4) (k0 := 69) hK hP rfl rfl) rfl hl.1 rfl (Nat.le_of_ble_eq_true rfl) dL_law_307 ⟨show (cs + 1) + 0 ≤ 601024 by omega, show (ss + 6) + 0 ≤ 7293034 by omega⟩ (fun r3 u4 H locs h hP hD hS => ?_)
  have hP : va_P D vwCl (lwW cI cS cJ G o bm (u2.1, u2.2, u4)) H := vP_perm (lwM_b u4) hP
  have hD : va_D A (lwW cI cS cJ G o bm (u2.1, u2.2, u4)) := vD_perm (lwM_b u4) hD
  refine lv_istore (lv' := [(6, .int r3), (5, .int r1), (0, .ref b), (1, .ref (G 2 0)), (2, .ref (bm 0)), (3, .ref o), (4, .int i)]) hx hb dL_law_310 hl (by decide) rfl (fun ls hl => ?_)
  refine lv_aload_n hx hb dL_law_312 rfl (lv_at hl 4 rfl) ?_
  refine roVi (As := []) (rest := []) F (c_X4_thrown l D cI cS cJ bm u4 H  h) (cw_L_107 hts (Nat.le_of_ble_eq_true rfl) (Nat.le_of_ble_eq_true rfl)) hK (vP_L (vP_perm lwM_f hP)) (recv (ci := 4) (k0 := 69) hK hP rfl rfl) rfl hl.1 rfl (Nat.le_of_ble_eq_true rfl) dL_law_313 ⟨show ((cs + 1) + 0) + 0 ≤ 601024 by omega, show ((ss + 6) + 0) + 0 ≤ 7293034 by omega⟩ (fun r5 h => ?_)
  refine lv_iload hx hb dL_law_316 (lv_at hl 1 rfl) ?_
  refine lv_icmp_eq (tgt := 323) hx hb dL_law_318 (by decide) (fun c6 => ?_) (fun c6 => ?_)
  · replace h := h.1 c6
    refine lv_iload hx hb dL_law_323 (lv_at hl 1 rfl) ?_
    refine lv_if_ne (tgt := 340) hx hb dL_law_325 (by decide) (fun c7 => ?_) (fun c7 => ?_)
    · replace h := h.1 c7
      refine lv_goto (tgt := 1874) hx hb dL_law_340 (by decide) ?_
      refine W.widen (k := cs + 2) (n := ss + 12) (by omega) (by omega) ?_
      exact cont s.drawn _ _ _ _ _ _ (Drawn.sameBut.refl _ _) (lv_sub hl [2, 3, 4, 5, 6] rfl) hP hD hS h
    · replace h := h.2 c7
      refine lv_aload_n hx hb dL_law_328 rfl (lv_at hl 5 rfl) ?_
      refine lv_iconst (v := (0 : Int32)) hx hb dL_law_329 (by decide) ?_
      refine va_lald hx hb hK.k hP 0 2 rfl rfl in01 dL_law_330 ?_
      refine lv_iload hx hb dL_law_331 (lv_at hl 0 rfl) ?_
      refine lv_i2l (v := (Int32.toInt64 r3)) hx hb dL_law_333 rfl ?_
      refine W.lcmp hx hb dL_law_334 ?_
      refine lv_if_eq (tgt := 340) hx hb dL_law_335 (by decide) (fun c8 => ?_) (fun c8 => ?_)
      · replace h := h.1 c8
        refine lv_goto (tgt := 1874) hx hb dL_law_340 (by decide) ?_
        refine W.widen (k := cs + 2) (n := ss + 12) (by omega) (by omega) ?_
        exact cont s.drawn _ _ _ _ _ _ (Drawn.sameBut.refl _ _) (lv_sub hl [2, 3, 4, 5, 6] rfl) hP hD hS h
      · replace h := h.2 c8
        refine lv_iconst (v := (0 : Int32)) hx hb dL_law_338 (by decide) ?_
        exact h.elim
  · replace h := h.2 c6
    refine lv_iconst (v := (0 : Int32)) hx hb dL_law_321 (by decide) ?_
    exact h.elim

def wp_law_2 (xs : Nat → Int32) (i : Int32) (N : Ne) (O : Nat → Int64) (M : Md) (post : Ne → (Nat → Int64) → Md → Prop) : Prop :=
  wp_L_isOpen (N, O) (xs (Int32.toNatClampNeg (i + (1 : Int32)))) (fun r1 u2 => wp_X4_isOpen M (xs (Int32.toNatClampNeg (i + (1 : Int32)))) (fun r3 u5 => wp_X4_thrown u5 (fun r6 => (r6 = r1 → (¬ r1 = 0 → post u2.1 u2.2 u5) ∧ (r1 = 0 → jn (fun (x9 : Int64) => ((lg_cmp (u2.2 (Int32.toNatClampNeg (0 : Int32))) x9) = 0 → post u2.1 u2.2 u5) ∧ (¬ (lg_cmp (u2.2 (Int32.toNatClampNeg (0 : Int32))) x9) = 0 → False)) (fun (J10 : Int64 → Prop) => (r3 = 0 → J10 (0 : Int64)) ∧ (¬ r3 = 0 → J10 (1 : Int64))))) ∧ (¬ r6 = r1 → False))))
set_option maxHeartbeats 4000000 in
set_option maxRecDepth 100000 in
theorem c_law_2 {p : Program} {l : Launch} {e : Env} {s : State} {m : MethodId} {args : Array Value} {below : List Frame} {meth : Method} {c : Code} {Q : State → Prop} {A : Nat → Prop} {D : va_G} {cI cS cJ : ClassId} {G : Nat → Nat → Nat} {o : Nat} {bm : Nat → Nat} {b L cs ss : Nat} {xs : Nat → Int32} {i : Int32} {N : Ne} {O : Nat → Int64} {M : Md} {H : Heap} {locs : List Loc} {ls : Array Slot} (C : lwC p l s m args c A D cI cS cJ b L xs) (hi0 : vp_in i L) (hi1 : vp_in (i + 1) L) (hi2 : vp_in (i + 2) L) (hi3 : vp_in (i + 3) L) (hi4 : vp_in (i + 4) L) (hcs : cs + 2 ≤ 601024) (hss : ss + 12 ≤ 7293034) (hl : lv_has ls 9 [(0, .ref b), (1, .ref (G 2 0)), (2, .ref (bm 0)), (3, .ref o), (4, .int i)]) (hP : va_P D vwCl (lwW cI cS cJ G o bm (N, O, M)) H) (hD : va_D A (lwW cI cS cJ G o bm (N, O, M))) (hS : va_S A s.heap H locs) {post : Ne → (Nat → Int64) → Md → Prop} (h : wp_law_2 xs i N O M post)
    (cont : ∀ (d' : Drawn) (N : Ne) (O : Nat → Int64) (M : Md) (H : Heap) (locs : List Loc) (ls : Array Slot), s.drawn.sameBut d' lw_cs → lv_has ls 9 [(0, .ref b), (1, .ref (G 2 0)), (2, .ref (bm 0)), (3, .ref o), (4, .int i)] → va_P D vwCl (lwW cI cS cJ G o bm (N, O, M)) H → va_D A (lwW cI cS cJ G o bm (N, O, M)) → va_S A s.heap H locs → post N O M → W p l e room_1 (s.setDrawn d') m args below meth c H locs (cs + 2) (ss + 12) Q (F0 m 1874 ls [])) :
    W p l e room_1 s m args below meth c H locs cs ss Q (F0 m 343 ls []) := by
  obtain ⟨hst, FC, hK0, hV, hH, hX, hbl, hbA, hA⟩ := C
  have hx := FC.1
  have hb := FC.2.1
  have hown := FC.2.2.2.1
  have hts := FC.2.2.2.2
  have F := FC
  have hK := hK0
  unfold wp_law_2 at h
  refine lv_aload_n hx hb dL_law_343 rfl (lv_at hl 1 rfl) ?_
  refine lv_aload_n hx hb dL_law_344 rfl (lv_at hl 0 rfl) ?_
  refine lv_iload hx hb dL_law_345 (lv_at hl 4 rfl) ?_
  refine lv_iconst (v := (1 : Int32)) hx hb dL_law_347 (by decide) ?_
  refine lv_iadd hx hb dL_law_348 ?_
  refine va_sld hx hb hX hbl hbA hS hi1 dL_law_349 ?_
  refine lv_aload_n hx hb dL_law_350 rfl (lv_at hl 3 rfl) ?_
  refine rwHi (wr := mdW cI bm M) (As := [.ref (G 2 0), .int (xs (Int32.toNatClampNeg (i + (1 : Int32)))), .ref o]) (rest := []) lwH_f F (c_L_isOpen l hst D cI cS cJ G o (N, O) H.size (xs (Int32.toNatClampNeg (i + (1 : Int32)))) h) (cwH_isOpen hts (Nat.le_of_ble_eq_true rfl) (Nat.le_of_ble_eq_true rfl)) hK hV hH hP hD hS hA rfl hl.1 rfl (Nat.le_of_ble_eq_true rfl) dL_law_351 ⟨show cs + 1 ≤ 601024 by omega, show ss + 6 ≤ 7293034 by omega⟩ (fun r1 u2 H locs h hP hD hS => ?_)
  have hP : va_P D vwCl (lwW cI cS cJ G o bm (u2.1, u2.2, M)) H := vP_perm lwH_b hP
  have hD : va_D A (lwW cI cS cJ G o bm (u2.1, u2.2, M)) := vD_perm lwH_b hD
  refine lv_istore (lv' := [(5, .int r1), (0, .ref b), (1, .ref (G 2 0)), (2, .ref (bm 0)), (3, .ref o), (4, .int i)]) hx hb dL_law_354 hl (by decide) rfl (fun ls hl => ?_)
  refine lv_aload_n hx hb dL_law_356 rfl (lv_at hl 3 rfl) ?_
  refine lv_aload_n hx hb dL_law_357 rfl (lv_at hl 1 rfl) ?_
  refine lv_iload hx hb dL_law_358 (lv_at hl 5 rfl) ?_
  refine lv_iconst (v := (1 : Int32)) hx hb dL_law_360 (by decide) ?_
  refine lv_iadd hx hb dL_law_361 ?_
  refine va_sld hx hb hX hbl hbA hS hi1 dL_law_362 ?_
  refine rwVi (wr := lwMr cI cS cJ G o (u2.1, u2.2)) (As := [.int (xs (Int32.toNatClampNeg (i + (1 : Int32))))]) (rest := []) lwM_f F (c_X4_isOpen l D cI cS cJ bm M H.size (xs (Int32.toNatClampNeg (i + (1 : Int32)))) h) (cw_L_117 hts (Nat.le_of_ble_eq_true rfl) (Nat.le_of_ble_eq_true rfl)) hK hP hD hS hA (recv (ci := 4) (k0 := 69) hK hP rfl rfl) rfl hl.1 rfl (Nat.le_of_ble_eq_true rfl) dL_law_363 ⟨show (cs + 1) + 0 ≤ 601024 by omega, show (ss + 6) + 0 ≤ 7293034 by omega⟩ (fun r3 u5 H locs h hP hD hS => ?_)
  obtain ⟨b4, h⟩ := h
  have hP : va_P D vwCl (lwW cI cS cJ G o bm (u2.1, u2.2, u5)) H := vP_perm (lwM_b u5) hP
  have hD : va_D A (lwW cI cS cJ G o bm (u2.1, u2.2, u5)) := vD_perm (lwM_b u5) hD
  refine lv_istore (lv' := [(6, .int r3), (5, .int r1), (0, .ref b), (1, .ref (G 2 0)), (2, .ref (bm 0)), (3, .ref o), (4, .int i)]) hx hb dL_law_366 hl (by decide) rfl (fun ls hl => ?_)
  refine lv_aload_n hx hb dL_law_368 rfl (lv_at hl 4 rfl) ?_
  refine roVi (As := []) (rest := []) F (c_X4_thrown l D cI cS cJ bm u5 H  h) (cw_L_107 hts (Nat.le_of_ble_eq_true rfl) (Nat.le_of_ble_eq_true rfl)) hK (vP_L (vP_perm lwM_f hP)) (recv (ci := 4) (k0 := 69) hK hP rfl rfl) rfl hl.1 rfl (Nat.le_of_ble_eq_true rfl) dL_law_369 ⟨show ((cs + 1) + 0) + 0 ≤ 601024 by omega, show ((ss + 6) + 0) + 0 ≤ 7293034 by omega⟩ (fun r6 h => ?_)
  refine lv_iload hx hb dL_law_372 (lv_at hl 1 rfl) ?_
  refine lv_icmp_eq (tgt := 379) hx hb dL_law_374 (by decide) (fun c7 => ?_) (fun c7 => ?_)
  · replace h := h.1 c7
    refine lv_iload hx hb dL_law_379 (lv_at hl 1 rfl) ?_
    refine lv_if_ne (tgt := 403) hx hb dL_law_381 (by decide) (fun c8 => ?_) (fun c8 => ?_)
    · replace h := h.1 c8
      refine lv_goto (tgt := 1874) hx hb dL_law_403 (by decide) ?_
      refine W.widen (k := cs + 2) (n := ss + 12) (by omega) (by omega) ?_
      exact cont s.drawn _ _ _ _ _ _ (Drawn.sameBut.refl _ _) (lv_sub hl [2, 3, 4, 5, 6] rfl) hP hD hS h
    · replace h := h.2 c8
      refine lv_aload_n hx hb dL_law_384 rfl (lv_at hl 5 rfl) ?_
      refine lv_iconst (v := (0 : Int32)) hx hb dL_law_385 (by decide) ?_
      refine va_lald hx hb hK.k hP 0 2 rfl rfl in01 dL_law_386 ?_
      refine lv_iload hx hb dL_law_387 (lv_at hl 0 rfl) ?_
      refine jn_e h (fun J10 e12 h => ?_)
      have w11 : ∀ (x9 : Int64) (ls : Array Slot) (H : Heap) (locs : List Loc), lv_has ls 9 [(0, .ref b), (1, .ref (G 2 0)), (2, .ref (bm 0)), (3, .ref o), (4, .int i)] → va_P D vwCl (lwW cI cS cJ G o bm (u2.1, u2.2, u5)) H → va_D A (lwW cI cS cJ G o bm (u2.1, u2.2, u5)) → va_S A s.heap H locs → J10 x9 → W p l e room_1 s m args below meth c H locs ((cs + 1) + 0) ((ss + 6) + 0) Q (F0 m 397 ls [.long x9, .long (u2.2 (Int32.toNatClampNeg (0 : Int32)))]) := by
        intro x9 ls H locs hl hP hD hS h
        subst e12
        refine W.lcmp hx hb dL_law_397 ?_
        refine lv_if_eq (tgt := 403) hx hb dL_law_398 (by decide) (fun c13 => ?_) (fun c13 => ?_)
        · replace h := h.1 c13
          refine lv_goto (tgt := 1874) hx hb dL_law_403 (by decide) ?_
          refine W.widen (k := cs + 2) (n := ss + 12) (by omega) (by omega) ?_
          exact cont s.drawn _ _ _ _ _ _ (Drawn.sameBut.refl _ _) (lv_sub hl [0, 1, 2, 3, 4] rfl) hP hD hS h
        · replace h := h.2 c13
          refine lv_iconst (v := (0 : Int32)) hx hb dL_law_401 (by decide) ?_
          exact h.elim
      clear e12
      refine lv_if_eq (tgt := 396) hx hb dL_law_389 (by decide) (fun c14 => ?_) (fun c14 => ?_)
      · replace h := h.1 c14
        refine lv_lconst (v := (0 : Int64)) hx hb dL_law_396 rfl ?_
        exact w11 (0 : Int64) _ _ _ (lv_sub hl [2, 3, 4, 5, 6] rfl) hP hD hS h
      · replace h := h.2 c14
        refine lv_lconst (v := (1 : Int64)) hx hb dL_law_392 rfl ?_
        refine lv_goto (tgt := 397) hx hb dL_law_393 (by decide) ?_
        exact w11 (1 : Int64) _ _ _ (lv_sub hl [2, 3, 4, 5, 6] rfl) hP hD hS h
  · replace h := h.2 c7
    refine lv_iconst (v := (0 : Int32)) hx hb dL_law_377 (by decide) ?_
    exact h.elim

def wp_law_3 (xs : Nat → Int32) (i : Int32) (N : Ne) (O : Nat → Int64) (M : Md) (post : Ne → (Nat → Int64) → Md → Prop) : Prop :=
  wp_L_key (N, O) (xs (Int32.toNatClampNeg (i + (1 : Int32)))) (fun r1 u2 => wp_X4_key M (xs (Int32.toNatClampNeg (i + (1 : Int32)))) (fun r3 u4 => wp_X4_thrown u4 (fun r5 => (r5 = r1 → (¬ r1 = 0 → post u2.1 u2.2 u4) ∧ (r1 = 0 → ((lg_cmp (u2.2 (Int32.toNatClampNeg (0 : Int32))) (Int32.toInt64 r3)) = 0 → post u2.1 u2.2 u4) ∧ (¬ (lg_cmp (u2.2 (Int32.toNatClampNeg (0 : Int32))) (Int32.toInt64 r3)) = 0 → False))) ∧ (¬ r5 = r1 → False))))
set_option maxHeartbeats 4000000 in
set_option maxRecDepth 100000 in
theorem c_law_3 {p : Program} {l : Launch} {e : Env} {s : State} {m : MethodId} {args : Array Value} {below : List Frame} {meth : Method} {c : Code} {Q : State → Prop} {A : Nat → Prop} {D : va_G} {cI cS cJ : ClassId} {G : Nat → Nat → Nat} {o : Nat} {bm : Nat → Nat} {b L cs ss : Nat} {xs : Nat → Int32} {i : Int32} {N : Ne} {O : Nat → Int64} {M : Md} {H : Heap} {locs : List Loc} {ls : Array Slot} (C : lwC p l s m args c A D cI cS cJ b L xs) (hi0 : vp_in i L) (hi1 : vp_in (i + 1) L) (hi2 : vp_in (i + 2) L) (hi3 : vp_in (i + 3) L) (hi4 : vp_in (i + 4) L) (hcs : cs + 2 ≤ 601024) (hss : ss + 12 ≤ 7293034) (hl : lv_has ls 9 [(0, .ref b), (1, .ref (G 2 0)), (2, .ref (bm 0)), (3, .ref o), (4, .int i)]) (hP : va_P D vwCl (lwW cI cS cJ G o bm (N, O, M)) H) (hD : va_D A (lwW cI cS cJ G o bm (N, O, M))) (hS : va_S A s.heap H locs) {post : Ne → (Nat → Int64) → Md → Prop} (h : wp_law_3 xs i N O M post)
    (cont : ∀ (d' : Drawn) (N : Ne) (O : Nat → Int64) (M : Md) (H : Heap) (locs : List Loc) (ls : Array Slot), s.drawn.sameBut d' lw_cs → lv_has ls 9 [(0, .ref b), (1, .ref (G 2 0)), (2, .ref (bm 0)), (3, .ref o), (4, .int i)] → va_P D vwCl (lwW cI cS cJ G o bm (N, O, M)) H → va_D A (lwW cI cS cJ G o bm (N, O, M)) → va_S A s.heap H locs → post N O M → W p l e room_1 (s.setDrawn d') m args below meth c H locs (cs + 2) (ss + 12) Q (F0 m 1874 ls [])) :
    W p l e room_1 s m args below meth c H locs cs ss Q (F0 m 406 ls []) := by
  obtain ⟨hst, FC, hK0, hV, hH, hX, hbl, hbA, hA⟩ := C
  have hx := FC.1
  have hb := FC.2.1
  have hown := FC.2.2.2.1
  have hts := FC.2.2.2.2
  have F := FC
  have hK := hK0
  unfold wp_law_3 at h
  refine lv_aload_n hx hb dL_law_406 rfl (lv_at hl 1 rfl) ?_
  refine lv_aload_n hx hb dL_law_407 rfl (lv_at hl 0 rfl) ?_
  refine lv_iload hx hb dL_law_408 (lv_at hl 4 rfl) ?_
  refine lv_iconst (v := (1 : Int32)) hx hb dL_law_410 (by decide) ?_
  refine lv_iadd hx hb dL_law_411 ?_
  refine va_sld hx hb hX hbl hbA hS hi1 dL_law_412 ?_
  refine lv_aload_n hx hb dL_law_413 rfl (lv_at hl 3 rfl) ?_
  refine rwHi (wr := mdW cI bm M) (As := [.ref (G 2 0), .int (xs (Int32.toNatClampNeg (i + (1 : Int32)))), .ref o]) (rest := []) lwH_f F (c_L_key l hst D cI cS cJ G o (N, O) H.size (xs (Int32.toNatClampNeg (i + (1 : Int32)))) h) (cwH_key hts (Nat.le_of_ble_eq_true rfl) (Nat.le_of_ble_eq_true rfl)) hK hV hH hP hD hS hA rfl hl.1 rfl (Nat.le_of_ble_eq_true rfl) dL_law_414 ⟨show cs + 1 ≤ 601024 by omega, show ss + 6 ≤ 7293034 by omega⟩ (fun r1 u2 H locs h hP hD hS => ?_)
  have hP : va_P D vwCl (lwW cI cS cJ G o bm (u2.1, u2.2, M)) H := vP_perm lwH_b hP
  have hD : va_D A (lwW cI cS cJ G o bm (u2.1, u2.2, M)) := vD_perm lwH_b hD
  refine lv_istore (lv' := [(5, .int r1), (0, .ref b), (1, .ref (G 2 0)), (2, .ref (bm 0)), (3, .ref o), (4, .int i)]) hx hb dL_law_417 hl (by decide) rfl (fun ls hl => ?_)
  refine lv_aload_n hx hb dL_law_419 rfl (lv_at hl 3 rfl) ?_
  refine lv_aload_n hx hb dL_law_420 rfl (lv_at hl 1 rfl) ?_
  refine lv_iload hx hb dL_law_421 (lv_at hl 5 rfl) ?_
  refine lv_iconst (v := (1 : Int32)) hx hb dL_law_423 (by decide) ?_
  refine lv_iadd hx hb dL_law_424 ?_
  refine va_sld hx hb hX hbl hbA hS hi1 dL_law_425 ?_
  refine rwVi (wr := lwMr cI cS cJ G o (u2.1, u2.2)) (As := [.int (xs (Int32.toNatClampNeg (i + (1 : Int32))))]) (rest := []) lwM_f F (c_X4_key l D cI cS cJ bm M H.size (xs (Int32.toNatClampNeg (i + (1 : Int32)))) h) (cw_L_120 hts (Nat.le_of_ble_eq_true rfl) (Nat.le_of_ble_eq_true rfl)) hK hP hD hS hA (recv (ci := 4) (k0 := 69) hK hP rfl rfl) rfl hl.1 rfl (Nat.le_of_ble_eq_true rfl) dL_law_426 ⟨show (cs + 1) + 0 ≤ 601024 by omega, show (ss + 6) + 0 ≤ 7293034 by omega⟩ (fun r3 u4 H locs h hP hD hS => ?_)
  have hP : va_P D vwCl (lwW cI cS cJ G o bm (u2.1, u2.2, u4)) H := vP_perm (lwM_b u4) hP
  have hD : va_D A (lwW cI cS cJ G o bm (u2.1, u2.2, u4)) := vD_perm (lwM_b u4) hD
  refine lv_istore (lv' := [(6, .int r3), (5, .int r1), (0, .ref b), (1, .ref (G 2 0)), (2, .ref (bm 0)), (3, .ref o), (4, .int i)]) hx hb dL_law_429 hl (by decide) rfl (fun ls hl => ?_)
  refine lv_aload_n hx hb dL_law_431 rfl (lv_at hl 4 rfl) ?_
  refine roVi (As := []) (rest := []) F (c_X4_thrown l D cI cS cJ bm u4 H  h) (cw_L_107 hts (Nat.le_of_ble_eq_true rfl) (Nat.le_of_ble_eq_true rfl)) hK (vP_L (vP_perm lwM_f hP)) (recv (ci := 4) (k0 := 69) hK hP rfl rfl) rfl hl.1 rfl (Nat.le_of_ble_eq_true rfl) dL_law_432 ⟨show ((cs + 1) + 0) + 0 ≤ 601024 by omega, show ((ss + 6) + 0) + 0 ≤ 7293034 by omega⟩ (fun r5 h => ?_)
  refine lv_iload hx hb dL_law_435 (lv_at hl 1 rfl) ?_
  refine lv_icmp_eq (tgt := 442) hx hb dL_law_437 (by decide) (fun c6 => ?_) (fun c6 => ?_)
  · replace h := h.1 c6
    refine lv_iload hx hb dL_law_442 (lv_at hl 1 rfl) ?_
    refine lv_if_ne (tgt := 459) hx hb dL_law_444 (by decide) (fun c7 => ?_) (fun c7 => ?_)
    · replace h := h.1 c7
      refine lv_goto (tgt := 1874) hx hb dL_law_459 (by decide) ?_
      refine W.widen (k := cs + 2) (n := ss + 12) (by omega) (by omega) ?_
      exact cont s.drawn _ _ _ _ _ _ (Drawn.sameBut.refl _ _) (lv_sub hl [2, 3, 4, 5, 6] rfl) hP hD hS h
    · replace h := h.2 c7
      refine lv_aload_n hx hb dL_law_447 rfl (lv_at hl 5 rfl) ?_
      refine lv_iconst (v := (0 : Int32)) hx hb dL_law_448 (by decide) ?_
      refine va_lald hx hb hK.k hP 0 2 rfl rfl in01 dL_law_449 ?_
      refine lv_iload hx hb dL_law_450 (lv_at hl 0 rfl) ?_
      refine lv_i2l (v := (Int32.toInt64 r3)) hx hb dL_law_452 rfl ?_
      refine W.lcmp hx hb dL_law_453 ?_
      refine lv_if_eq (tgt := 459) hx hb dL_law_454 (by decide) (fun c8 => ?_) (fun c8 => ?_)
      · replace h := h.1 c8
        refine lv_goto (tgt := 1874) hx hb dL_law_459 (by decide) ?_
        refine W.widen (k := cs + 2) (n := ss + 12) (by omega) (by omega) ?_
        exact cont s.drawn _ _ _ _ _ _ (Drawn.sameBut.refl _ _) (lv_sub hl [2, 3, 4, 5, 6] rfl) hP hD hS h
      · replace h := h.2 c8
        refine lv_iconst (v := (0 : Int32)) hx hb dL_law_457 (by decide) ?_
        exact h.elim
  · replace h := h.2 c6
    refine lv_iconst (v := (0 : Int32)) hx hb dL_law_440 (by decide) ?_
    exact h.elim

def wp_law_4 (xs : Nat → Int32) (i : Int32) (N : Ne) (O : Nat → Int64) (M : Md) (post : Ne → (Nat → Int64) → Md → Prop) : Prop :=
  wp_L_cover (N, O) (xs (Int32.toNatClampNeg (i + (1 : Int32)))) (xs (Int32.toNatClampNeg (i + (2 : Int32)))) (fun r1 u2 => wp_X4_cover M (xs (Int32.toNatClampNeg (i + (1 : Int32)))) (xs (Int32.toNatClampNeg (i + (2 : Int32)))) (fun r3 u4 => wp_X4_thrown u4 (fun r5 => (r5 = r1 → (¬ r1 = 0 → post u2.1 u2.2 u4) ∧ (r1 = 0 → ((lg_cmp (u2.2 (Int32.toNatClampNeg (0 : Int32))) (Int32.toInt64 r3)) = 0 → post u2.1 u2.2 u4) ∧ (¬ (lg_cmp (u2.2 (Int32.toNatClampNeg (0 : Int32))) (Int32.toInt64 r3)) = 0 → False))) ∧ (¬ r5 = r1 → False))))
set_option maxHeartbeats 4000000 in
set_option maxRecDepth 100000 in
theorem c_law_4 {p : Program} {l : Launch} {e : Env} {s : State} {m : MethodId} {args : Array Value} {below : List Frame} {meth : Method} {c : Code} {Q : State → Prop} {A : Nat → Prop} {D : va_G} {cI cS cJ : ClassId} {G : Nat → Nat → Nat} {o : Nat} {bm : Nat → Nat} {b L cs ss : Nat} {xs : Nat → Int32} {i : Int32} {N : Ne} {O : Nat → Int64} {M : Md} {H : Heap} {locs : List Loc} {ls : Array Slot} (C : lwC p l s m args c A D cI cS cJ b L xs) (hi0 : vp_in i L) (hi1 : vp_in (i + 1) L) (hi2 : vp_in (i + 2) L) (hi3 : vp_in (i + 3) L) (hi4 : vp_in (i + 4) L) (hcs : cs + 2 ≤ 601024) (hss : ss + 12 ≤ 7293034) (hl : lv_has ls 9 [(0, .ref b), (1, .ref (G 2 0)), (2, .ref (bm 0)), (3, .ref o), (4, .int i)]) (hP : va_P D vwCl (lwW cI cS cJ G o bm (N, O, M)) H) (hD : va_D A (lwW cI cS cJ G o bm (N, O, M))) (hS : va_S A s.heap H locs) {post : Ne → (Nat → Int64) → Md → Prop} (h : wp_law_4 xs i N O M post)
    (cont : ∀ (d' : Drawn) (N : Ne) (O : Nat → Int64) (M : Md) (H : Heap) (locs : List Loc) (ls : Array Slot), s.drawn.sameBut d' lw_cs → lv_has ls 9 [(0, .ref b), (1, .ref (G 2 0)), (2, .ref (bm 0)), (3, .ref o), (4, .int i)] → va_P D vwCl (lwW cI cS cJ G o bm (N, O, M)) H → va_D A (lwW cI cS cJ G o bm (N, O, M)) → va_S A s.heap H locs → post N O M → W p l e room_1 (s.setDrawn d') m args below meth c H locs (cs + 2) (ss + 12) Q (F0 m 1874 ls [])) :
    W p l e room_1 s m args below meth c H locs cs ss Q (F0 m 462 ls []) := by
  obtain ⟨hst, FC, hK0, hV, hH, hX, hbl, hbA, hA⟩ := C
  have hx := FC.1
  have hb := FC.2.1
  have hown := FC.2.2.2.1
  have hts := FC.2.2.2.2
  have F := FC
  have hK := hK0
  unfold wp_law_4 at h
  refine lv_aload_n hx hb dL_law_462 rfl (lv_at hl 1 rfl) ?_
  refine lv_aload_n hx hb dL_law_463 rfl (lv_at hl 0 rfl) ?_
  refine lv_iload hx hb dL_law_464 (lv_at hl 4 rfl) ?_
  refine lv_iconst (v := (1 : Int32)) hx hb dL_law_466 (by decide) ?_
  refine lv_iadd hx hb dL_law_467 ?_
  refine va_sld hx hb hX hbl hbA hS hi1 dL_law_468 ?_
  refine lv_aload_n hx hb dL_law_469 rfl (lv_at hl 0 rfl) ?_
  refine lv_iload hx hb dL_law_470 (lv_at hl 4 rfl) ?_
  refine lv_iconst (v := (2 : Int32)) hx hb dL_law_472 (by decide) ?_
  refine lv_iadd hx hb dL_law_473 ?_
  refine va_sld hx hb hX hbl hbA hS hi2 dL_law_474 ?_
  refine lv_aload_n hx hb dL_law_475 rfl (lv_at hl 3 rfl) ?_
  refine rwHi (wr := mdW cI bm M) (As := [.ref (G 2 0), .int (xs (Int32.toNatClampNeg (i + (1 : Int32)))), .int (xs (Int32.toNatClampNeg (i + (2 : Int32)))), .ref o]) (rest := []) lwH_f F (c_L_cover l hst D cI cS cJ G o (N, O) H.size (xs (Int32.toNatClampNeg (i + (1 : Int32)))) (xs (Int32.toNatClampNeg (i + (2 : Int32)))) h) (cwH_cover hts (Nat.le_of_ble_eq_true rfl) (Nat.le_of_ble_eq_true rfl)) hK hV hH hP hD hS hA rfl hl.1 rfl (Nat.le_of_ble_eq_true rfl) dL_law_476 ⟨show cs + 1 ≤ 601024 by omega, show ss + 6 ≤ 7293034 by omega⟩ (fun r1 u2 H locs h hP hD hS => ?_)
  have hP : va_P D vwCl (lwW cI cS cJ G o bm (u2.1, u2.2, M)) H := vP_perm lwH_b hP
  have hD : va_D A (lwW cI cS cJ G o bm (u2.1, u2.2, M)) := vD_perm lwH_b hD
  refine lv_istore (lv' := [(5, .int r1), (0, .ref b), (1, .ref (G 2 0)), (2, .ref (bm 0)), (3, .ref o), (4, .int i)]) hx hb dL_law_479 hl (by decide) rfl (fun ls hl => ?_)
  refine lv_aload_n hx hb dL_law_481 rfl (lv_at hl 3 rfl) ?_
  refine lv_aload_n hx hb dL_law_482 rfl (lv_at hl 1 rfl) ?_
  refine lv_iload hx hb dL_law_483 (lv_at hl 5 rfl) ?_
  refine lv_iconst (v := (1 : Int32)) hx hb dL_law_485 (by decide) ?_
  refine lv_iadd hx hb dL_law_486 ?_
  refine va_sld hx hb hX hbl hbA hS hi1 dL_law_487 ?_
  refine lv_aload_n hx hb dL_law_488 rfl (lv_at hl 1 rfl) ?_
  refine lv_iload hx hb dL_law_489 (lv_at hl 5 rfl) ?_
  refine lv_iconst (v := (2 : Int32)) hx hb dL_law_491 (by decide) ?_
  refine lv_iadd hx hb dL_law_492 ?_
  refine va_sld hx hb hX hbl hbA hS hi2 dL_law_493 ?_
  refine rwVi (wr := lwMr cI cS cJ G o (u2.1, u2.2)) (As := [.int (xs (Int32.toNatClampNeg (i + (1 : Int32)))), .int (xs (Int32.toNatClampNeg (i + (2 : Int32))))]) (rest := []) lwM_f F (c_X4_cover l D cI cS cJ bm M H.size (xs (Int32.toNatClampNeg (i + (1 : Int32)))) (xs (Int32.toNatClampNeg (i + (2 : Int32)))) h) (cw_L_123 hts (Nat.le_of_ble_eq_true rfl) (Nat.le_of_ble_eq_true rfl)) hK hP hD hS hA (recv (ci := 4) (k0 := 69) hK hP rfl rfl) rfl hl.1 rfl (Nat.le_of_ble_eq_true rfl) dL_law_494 ⟨show (cs + 1) + 0 ≤ 601024 by omega, show (ss + 6) + 0 ≤ 7293034 by omega⟩ (fun r3 u4 H locs h hP hD hS => ?_)
  have hP : va_P D vwCl (lwW cI cS cJ G o bm (u2.1, u2.2, u4)) H := vP_perm (lwM_b u4) hP
  have hD : va_D A (lwW cI cS cJ G o bm (u2.1, u2.2, u4)) := vD_perm (lwM_b u4) hD
  refine lv_istore (lv' := [(6, .int r3), (5, .int r1), (0, .ref b), (1, .ref (G 2 0)), (2, .ref (bm 0)), (3, .ref o), (4, .int i)]) hx hb dL_law_497 hl (by decide) rfl (fun ls hl => ?_)
  refine lv_aload_n hx hb dL_law_499 rfl (lv_at hl 4 rfl) ?_
  refine roVi (As := []) (rest := []) F (c_X4_thrown l D cI cS cJ bm u4 H  h) (cw_L_107 hts (Nat.le_of_ble_eq_true rfl) (Nat.le_of_ble_eq_true rfl)) hK (vP_L (vP_perm lwM_f hP)) (recv (ci := 4) (k0 := 69) hK hP rfl rfl) rfl hl.1 rfl (Nat.le_of_ble_eq_true rfl) dL_law_500 ⟨show ((cs + 1) + 0) + 0 ≤ 601024 by omega, show ((ss + 6) + 0) + 0 ≤ 7293034 by omega⟩ (fun r5 h => ?_)
  refine lv_iload hx hb dL_law_503 (lv_at hl 1 rfl) ?_
  refine lv_icmp_eq (tgt := 510) hx hb dL_law_505 (by decide) (fun c6 => ?_) (fun c6 => ?_)
  · replace h := h.1 c6
    refine lv_iload hx hb dL_law_510 (lv_at hl 1 rfl) ?_
    refine lv_if_ne (tgt := 527) hx hb dL_law_512 (by decide) (fun c7 => ?_) (fun c7 => ?_)
    · replace h := h.1 c7
      refine lv_goto (tgt := 1874) hx hb dL_law_527 (by decide) ?_
      refine W.widen (k := cs + 2) (n := ss + 12) (by omega) (by omega) ?_
      exact cont s.drawn _ _ _ _ _ _ (Drawn.sameBut.refl _ _) (lv_sub hl [2, 3, 4, 5, 6] rfl) hP hD hS h
    · replace h := h.2 c7
      refine lv_aload_n hx hb dL_law_515 rfl (lv_at hl 5 rfl) ?_
      refine lv_iconst (v := (0 : Int32)) hx hb dL_law_516 (by decide) ?_
      refine va_lald hx hb hK.k hP 0 2 rfl rfl in01 dL_law_517 ?_
      refine lv_iload hx hb dL_law_518 (lv_at hl 0 rfl) ?_
      refine lv_i2l (v := (Int32.toInt64 r3)) hx hb dL_law_520 rfl ?_
      refine W.lcmp hx hb dL_law_521 ?_
      refine lv_if_eq (tgt := 527) hx hb dL_law_522 (by decide) (fun c8 => ?_) (fun c8 => ?_)
      · replace h := h.1 c8
        refine lv_goto (tgt := 1874) hx hb dL_law_527 (by decide) ?_
        refine W.widen (k := cs + 2) (n := ss + 12) (by omega) (by omega) ?_
        exact cont s.drawn _ _ _ _ _ _ (Drawn.sameBut.refl _ _) (lv_sub hl [2, 3, 4, 5, 6] rfl) hP hD hS h
      · replace h := h.2 c8
        refine lv_iconst (v := (0 : Int32)) hx hb dL_law_525 (by decide) ?_
        exact h.elim
  · replace h := h.2 c6
    refine lv_iconst (v := (0 : Int32)) hx hb dL_law_508 (by decide) ?_
    exact h.elim

def wp_law_5 (xs : Nat → Int32) (i : Int32) (N : Ne) (O : Nat → Int64) (M : Md) (post : Ne → (Nat → Int64) → Md → Prop) : Prop :=
  wp_L_uncover (N, O) (xs (Int32.toNatClampNeg (i + (1 : Int32)))) (xs (Int32.toNatClampNeg (i + (2 : Int32)))) (fun r1 u2 => wp_X4_uncover M (xs (Int32.toNatClampNeg (i + (1 : Int32)))) (xs (Int32.toNatClampNeg (i + (2 : Int32)))) (fun r3 u4 => wp_X4_thrown u4 (fun r5 => (r5 = r1 → (¬ r1 = 0 → post u2.1 u2.2 u4) ∧ (r1 = 0 → ((lg_cmp (u2.2 (Int32.toNatClampNeg (0 : Int32))) (Int32.toInt64 r3)) = 0 → post u2.1 u2.2 u4) ∧ (¬ (lg_cmp (u2.2 (Int32.toNatClampNeg (0 : Int32))) (Int32.toInt64 r3)) = 0 → False))) ∧ (¬ r5 = r1 → False))))
set_option maxHeartbeats 4000000 in
set_option maxRecDepth 100000 in
theorem c_law_5 {p : Program} {l : Launch} {e : Env} {s : State} {m : MethodId} {args : Array Value} {below : List Frame} {meth : Method} {c : Code} {Q : State → Prop} {A : Nat → Prop} {D : va_G} {cI cS cJ : ClassId} {G : Nat → Nat → Nat} {o : Nat} {bm : Nat → Nat} {b L cs ss : Nat} {xs : Nat → Int32} {i : Int32} {N : Ne} {O : Nat → Int64} {M : Md} {H : Heap} {locs : List Loc} {ls : Array Slot} (C : lwC p l s m args c A D cI cS cJ b L xs) (hi0 : vp_in i L) (hi1 : vp_in (i + 1) L) (hi2 : vp_in (i + 2) L) (hi3 : vp_in (i + 3) L) (hi4 : vp_in (i + 4) L) (hcs : cs + 2 ≤ 601024) (hss : ss + 12 ≤ 7293034) (hl : lv_has ls 9 [(0, .ref b), (1, .ref (G 2 0)), (2, .ref (bm 0)), (3, .ref o), (4, .int i)]) (hP : va_P D vwCl (lwW cI cS cJ G o bm (N, O, M)) H) (hD : va_D A (lwW cI cS cJ G o bm (N, O, M))) (hS : va_S A s.heap H locs) {post : Ne → (Nat → Int64) → Md → Prop} (h : wp_law_5 xs i N O M post)
    (cont : ∀ (d' : Drawn) (N : Ne) (O : Nat → Int64) (M : Md) (H : Heap) (locs : List Loc) (ls : Array Slot), s.drawn.sameBut d' lw_cs → lv_has ls 9 [(0, .ref b), (1, .ref (G 2 0)), (2, .ref (bm 0)), (3, .ref o), (4, .int i)] → va_P D vwCl (lwW cI cS cJ G o bm (N, O, M)) H → va_D A (lwW cI cS cJ G o bm (N, O, M)) → va_S A s.heap H locs → post N O M → W p l e room_1 (s.setDrawn d') m args below meth c H locs (cs + 2) (ss + 12) Q (F0 m 1874 ls [])) :
    W p l e room_1 s m args below meth c H locs cs ss Q (F0 m 530 ls []) := by
  obtain ⟨hst, FC, hK0, hV, hH, hX, hbl, hbA, hA⟩ := C
  have hx := FC.1
  have hb := FC.2.1
  have hown := FC.2.2.2.1
  have hts := FC.2.2.2.2
  have F := FC
  have hK := hK0
  unfold wp_law_5 at h
  refine lv_aload_n hx hb dL_law_530 rfl (lv_at hl 1 rfl) ?_
  refine lv_aload_n hx hb dL_law_531 rfl (lv_at hl 0 rfl) ?_
  refine lv_iload hx hb dL_law_532 (lv_at hl 4 rfl) ?_
  refine lv_iconst (v := (1 : Int32)) hx hb dL_law_534 (by decide) ?_
  refine lv_iadd hx hb dL_law_535 ?_
  refine va_sld hx hb hX hbl hbA hS hi1 dL_law_536 ?_
  refine lv_aload_n hx hb dL_law_537 rfl (lv_at hl 0 rfl) ?_
  refine lv_iload hx hb dL_law_538 (lv_at hl 4 rfl) ?_
  refine lv_iconst (v := (2 : Int32)) hx hb dL_law_540 (by decide) ?_
  refine lv_iadd hx hb dL_law_541 ?_
  refine va_sld hx hb hX hbl hbA hS hi2 dL_law_542 ?_
  refine lv_aload_n hx hb dL_law_543 rfl (lv_at hl 3 rfl) ?_
  refine rwHi (wr := mdW cI bm M) (As := [.ref (G 2 0), .int (xs (Int32.toNatClampNeg (i + (1 : Int32)))), .int (xs (Int32.toNatClampNeg (i + (2 : Int32)))), .ref o]) (rest := []) lwH_f F (c_L_uncover l hst D cI cS cJ G o (N, O) H.size (xs (Int32.toNatClampNeg (i + (1 : Int32)))) (xs (Int32.toNatClampNeg (i + (2 : Int32)))) h) (cwH_uncover hts (Nat.le_of_ble_eq_true rfl) (Nat.le_of_ble_eq_true rfl)) hK hV hH hP hD hS hA rfl hl.1 rfl (Nat.le_of_ble_eq_true rfl) dL_law_544 ⟨show cs + 1 ≤ 601024 by omega, show ss + 6 ≤ 7293034 by omega⟩ (fun r1 u2 H locs h hP hD hS => ?_)
  have hP : va_P D vwCl (lwW cI cS cJ G o bm (u2.1, u2.2, M)) H := vP_perm lwH_b hP
  have hD : va_D A (lwW cI cS cJ G o bm (u2.1, u2.2, M)) := vD_perm lwH_b hD
  refine lv_istore (lv' := [(5, .int r1), (0, .ref b), (1, .ref (G 2 0)), (2, .ref (bm 0)), (3, .ref o), (4, .int i)]) hx hb dL_law_547 hl (by decide) rfl (fun ls hl => ?_)
  refine lv_aload_n hx hb dL_law_549 rfl (lv_at hl 3 rfl) ?_
  refine lv_aload_n hx hb dL_law_550 rfl (lv_at hl 1 rfl) ?_
  refine lv_iload hx hb dL_law_551 (lv_at hl 5 rfl) ?_
  refine lv_iconst (v := (1 : Int32)) hx hb dL_law_553 (by decide) ?_
  refine lv_iadd hx hb dL_law_554 ?_
  refine va_sld hx hb hX hbl hbA hS hi1 dL_law_555 ?_
  refine lv_aload_n hx hb dL_law_556 rfl (lv_at hl 1 rfl) ?_
  refine lv_iload hx hb dL_law_557 (lv_at hl 5 rfl) ?_
  refine lv_iconst (v := (2 : Int32)) hx hb dL_law_559 (by decide) ?_
  refine lv_iadd hx hb dL_law_560 ?_
  refine va_sld hx hb hX hbl hbA hS hi2 dL_law_561 ?_
  refine rwVi (wr := lwMr cI cS cJ G o (u2.1, u2.2)) (As := [.int (xs (Int32.toNatClampNeg (i + (1 : Int32)))), .int (xs (Int32.toNatClampNeg (i + (2 : Int32))))]) (rest := []) lwM_f F (c_X4_uncover l D cI cS cJ bm M H.size (xs (Int32.toNatClampNeg (i + (1 : Int32)))) (xs (Int32.toNatClampNeg (i + (2 : Int32)))) h) (cw_L_126 hts (Nat.le_of_ble_eq_true rfl) (Nat.le_of_ble_eq_true rfl)) hK hP hD hS hA (recv (ci := 4) (k0 := 69) hK hP rfl rfl) rfl hl.1 rfl (Nat.le_of_ble_eq_true rfl) dL_law_562 ⟨show (cs + 1) + 0 ≤ 601024 by omega, show (ss + 6) + 0 ≤ 7293034 by omega⟩ (fun r3 u4 H locs h hP hD hS => ?_)
  have hP : va_P D vwCl (lwW cI cS cJ G o bm (u2.1, u2.2, u4)) H := vP_perm (lwM_b u4) hP
  have hD : va_D A (lwW cI cS cJ G o bm (u2.1, u2.2, u4)) := vD_perm (lwM_b u4) hD
  refine lv_istore (lv' := [(6, .int r3), (5, .int r1), (0, .ref b), (1, .ref (G 2 0)), (2, .ref (bm 0)), (3, .ref o), (4, .int i)]) hx hb dL_law_565 hl (by decide) rfl (fun ls hl => ?_)
  refine lv_aload_n hx hb dL_law_567 rfl (lv_at hl 4 rfl) ?_
  refine roVi (As := []) (rest := []) F (c_X4_thrown l D cI cS cJ bm u4 H  h) (cw_L_107 hts (Nat.le_of_ble_eq_true rfl) (Nat.le_of_ble_eq_true rfl)) hK (vP_L (vP_perm lwM_f hP)) (recv (ci := 4) (k0 := 69) hK hP rfl rfl) rfl hl.1 rfl (Nat.le_of_ble_eq_true rfl) dL_law_568 ⟨show ((cs + 1) + 0) + 0 ≤ 601024 by omega, show ((ss + 6) + 0) + 0 ≤ 7293034 by omega⟩ (fun r5 h => ?_)
  refine lv_iload hx hb dL_law_571 (lv_at hl 1 rfl) ?_
  refine lv_icmp_eq (tgt := 578) hx hb dL_law_573 (by decide) (fun c6 => ?_) (fun c6 => ?_)
  · replace h := h.1 c6
    refine lv_iload hx hb dL_law_578 (lv_at hl 1 rfl) ?_
    refine lv_if_ne (tgt := 595) hx hb dL_law_580 (by decide) (fun c7 => ?_) (fun c7 => ?_)
    · replace h := h.1 c7
      refine lv_goto (tgt := 1874) hx hb dL_law_595 (by decide) ?_
      refine W.widen (k := cs + 2) (n := ss + 12) (by omega) (by omega) ?_
      exact cont s.drawn _ _ _ _ _ _ (Drawn.sameBut.refl _ _) (lv_sub hl [2, 3, 4, 5, 6] rfl) hP hD hS h
    · replace h := h.2 c7
      refine lv_aload_n hx hb dL_law_583 rfl (lv_at hl 5 rfl) ?_
      refine lv_iconst (v := (0 : Int32)) hx hb dL_law_584 (by decide) ?_
      refine va_lald hx hb hK.k hP 0 2 rfl rfl in01 dL_law_585 ?_
      refine lv_iload hx hb dL_law_586 (lv_at hl 0 rfl) ?_
      refine lv_i2l (v := (Int32.toInt64 r3)) hx hb dL_law_588 rfl ?_
      refine W.lcmp hx hb dL_law_589 ?_
      refine lv_if_eq (tgt := 595) hx hb dL_law_590 (by decide) (fun c8 => ?_) (fun c8 => ?_)
      · replace h := h.1 c8
        refine lv_goto (tgt := 1874) hx hb dL_law_595 (by decide) ?_
        refine W.widen (k := cs + 2) (n := ss + 12) (by omega) (by omega) ?_
        exact cont s.drawn _ _ _ _ _ _ (Drawn.sameBut.refl _ _) (lv_sub hl [2, 3, 4, 5, 6] rfl) hP hD hS h
      · replace h := h.2 c8
        refine lv_iconst (v := (0 : Int32)) hx hb dL_law_593 (by decide) ?_
        exact h.elim
  · replace h := h.2 c6
    refine lv_iconst (v := (0 : Int32)) hx hb dL_law_576 (by decide) ?_
    exact h.elim

def wp_law_6 (xs : Nat → Int32) (i : Int32) (N : Ne) (O : Nat → Int64) (M : Md) (post : Ne → (Nat → Int64) → Md → Prop) : Prop :=
  wp_L_lay (N, O) (xs (Int32.toNatClampNeg (i + (1 : Int32)))) (xs (Int32.toNatClampNeg (i + (2 : Int32)))) (xs (Int32.toNatClampNeg (i + (3 : Int32)))) (xs (Int32.toNatClampNeg (i + (4 : Int32)))) (fun r1 u2 => wp_X4_lay M (xs (Int32.toNatClampNeg (i + (1 : Int32)))) (xs (Int32.toNatClampNeg (i + (2 : Int32)))) (xs (Int32.toNatClampNeg (i + (3 : Int32)))) (xs (Int32.toNatClampNeg (i + (4 : Int32)))) (fun r3 u4 => wp_X4_thrown u4 (fun r5 => (r5 = r1 → (¬ r1 = 0 → post u2.1 u2.2 u4) ∧ (r1 = 0 → ((lg_cmp (u2.2 (Int32.toNatClampNeg (0 : Int32))) (Int32.toInt64 r3)) = 0 → post u2.1 u2.2 u4) ∧ (¬ (lg_cmp (u2.2 (Int32.toNatClampNeg (0 : Int32))) (Int32.toInt64 r3)) = 0 → False))) ∧ (¬ r5 = r1 → False))))
set_option maxHeartbeats 4000000 in
set_option maxRecDepth 100000 in
theorem c_law_6 {p : Program} {l : Launch} {e : Env} {s : State} {m : MethodId} {args : Array Value} {below : List Frame} {meth : Method} {c : Code} {Q : State → Prop} {A : Nat → Prop} {D : va_G} {cI cS cJ : ClassId} {G : Nat → Nat → Nat} {o : Nat} {bm : Nat → Nat} {b L cs ss : Nat} {xs : Nat → Int32} {i : Int32} {N : Ne} {O : Nat → Int64} {M : Md} {H : Heap} {locs : List Loc} {ls : Array Slot} (C : lwC p l s m args c A D cI cS cJ b L xs) (hi0 : vp_in i L) (hi1 : vp_in (i + 1) L) (hi2 : vp_in (i + 2) L) (hi3 : vp_in (i + 3) L) (hi4 : vp_in (i + 4) L) (hcs : cs + 2 ≤ 601024) (hss : ss + 12 ≤ 7293034) (hl : lv_has ls 9 [(0, .ref b), (1, .ref (G 2 0)), (2, .ref (bm 0)), (3, .ref o), (4, .int i)]) (hP : va_P D vwCl (lwW cI cS cJ G o bm (N, O, M)) H) (hD : va_D A (lwW cI cS cJ G o bm (N, O, M))) (hS : va_S A s.heap H locs) {post : Ne → (Nat → Int64) → Md → Prop} (h : wp_law_6 xs i N O M post)
    (cont : ∀ (d' : Drawn) (N : Ne) (O : Nat → Int64) (M : Md) (H : Heap) (locs : List Loc) (ls : Array Slot), s.drawn.sameBut d' lw_cs → lv_has ls 9 [(0, .ref b), (1, .ref (G 2 0)), (2, .ref (bm 0)), (3, .ref o), (4, .int i)] → va_P D vwCl (lwW cI cS cJ G o bm (N, O, M)) H → va_D A (lwW cI cS cJ G o bm (N, O, M)) → va_S A s.heap H locs → post N O M → W p l e room_1 (s.setDrawn d') m args below meth c H locs (cs + 2) (ss + 12) Q (F0 m 1874 ls [])) :
    W p l e room_1 s m args below meth c H locs cs ss Q (F0 m 598 ls []) := by
  obtain ⟨hst, FC, hK0, hV, hH, hX, hbl, hbA, hA⟩ := C
  have hx := FC.1
  have hb := FC.2.1
  have hown := FC.2.2.2.1
  have hts := FC.2.2.2.2
  have F := FC
  have hK := hK0
  unfold wp_law_6 at h
  refine lv_aload_n hx hb dL_law_598 rfl (lv_at hl 1 rfl) ?_
  refine lv_aload_n hx hb dL_law_599 rfl (lv_at hl 0 rfl) ?_
  refine lv_iload hx hb dL_law_600 (lv_at hl 4 rfl) ?_
  refine lv_iconst (v := (1 : Int32)) hx hb dL_law_602 (by decide) ?_
  refine lv_iadd hx hb dL_law_603 ?_
  refine va_sld hx hb hX hbl hbA hS hi1 dL_law_604 ?_
  refine lv_aload_n hx hb dL_law_605 rfl (lv_at hl 0 rfl) ?_
  refine lv_iload hx hb dL_law_606 (lv_at hl 4 rfl) ?_
  refine lv_iconst (v := (2 : Int32)) hx hb dL_law_608 (by decide) ?_
  refine lv_iadd hx hb dL_law_609 ?_
  refine va_sld hx hb hX hbl hbA hS hi2 dL_law_610 ?_
  refine lv_aload_n hx hb dL_law_611 rfl (lv_at hl 0 rfl) ?_
  refine lv_iload hx hb dL_law_612 (lv_at hl 4 rfl) ?_
  refine lv_iconst (v := (3 : Int32)) hx hb dL_law_614 (by decide) ?_
  refine lv_iadd hx hb dL_law_615 ?_
  refine va_sld hx hb hX hbl hbA hS hi3 dL_law_616 ?_
  refine lv_aload_n hx hb dL_law_617 rfl (lv_at hl 0 rfl) ?_
  refine lv_iload hx hb dL_law_618 (lv_at hl 4 rfl) ?_
  refine lv_iconst (v := (4 : Int32)) hx hb dL_law_620 (by decide) ?_
  refine lv_iadd hx hb dL_law_621 ?_
  refine va_sld hx hb hX hbl hbA hS hi4 dL_law_622 ?_
  refine lv_aload_n hx hb dL_law_623 rfl (lv_at hl 3 rfl) ?_
  refine rwHi (wr := mdW cI bm M) (As := [.ref (G 2 0), .int (xs (Int32.toNatClampNeg (i + (1 : Int32)))), .int (xs (Int32.toNatClampNeg (i + (2 : Int32)))), .int (xs (Int32.toNatClampNeg (i + (3 : Int32)))), .int (xs (Int32.toNatClampNeg (i + (4 : Int32)))), .ref o]) (rest := []) lwH_f F (c_L_lay l hst D cI cS cJ G o (N, O) H.size (xs (Int32.toNatClampNeg (i + (1 : Int32)))) (xs (Int32.toNatClampNeg (i + (2 : Int32)))) (xs (Int32.toNatClampNeg (i + (3 : Int32)))) (xs (Int32.toNatClampNeg (i + (4 : Int32)))) h) (cwH_lay hts (Nat.le_of_ble_eq_true rfl) (Nat.le_of_ble_eq_true rfl)) hK hV hH hP hD hS hA rfl hl.1 rfl (Nat.le_of_ble_eq_true rfl) dL_law_624 ⟨show cs + 1 ≤ 601024 by omega, show ss + 6 ≤ 7293034 by omega⟩ (fun r1 u2 H locs h hP hD hS => ?_)
  have hP : va_P D vwCl (lwW cI cS cJ G o bm (u2.1, u2.2, M)) H := vP_perm lwH_b hP
  have hD : va_D A (lwW cI cS cJ G o bm (u2.1, u2.2, M)) := vD_perm lwH_b hD
  refine lv_istore (lv' := [(5, .int r1), (0, .ref b), (1, .ref (G 2 0)), (2, .ref (bm 0)), (3, .ref o), (4, .int i)]) hx hb dL_law_627 hl (by decide) rfl (fun ls hl => ?_)
  refine lv_aload_n hx hb dL_law_629 rfl (lv_at hl 3 rfl) ?_
  refine lv_aload_n hx hb dL_law_630 rfl (lv_at hl 1 rfl) ?_
  refine lv_iload hx hb dL_law_631 (lv_at hl 5 rfl) ?_
  refine lv_iconst (v := (1 : Int32)) hx hb dL_law_633 (by decide) ?_
  refine lv_iadd hx hb dL_law_634 ?_
  refine va_sld hx hb hX hbl hbA hS hi1 dL_law_635 ?_
  refine lv_aload_n hx hb dL_law_636 rfl (lv_at hl 1 rfl) ?_
  refine lv_iload hx hb dL_law_637 (lv_at hl 5 rfl) ?_
  refine lv_iconst (v := (2 : Int32)) hx hb dL_law_639 (by decide) ?_
  refine lv_iadd hx hb dL_law_640 ?_
  refine va_sld hx hb hX hbl hbA hS hi2 dL_law_641 ?_
  refine lv_aload_n hx hb dL_law_642 rfl (lv_at hl 1 rfl) ?_
  refine lv_iload hx hb dL_law_643 (lv_at hl 5 rfl) ?_
  refine lv_iconst (v := (3 : Int32)) hx hb dL_law_645 (by decide) ?_
  refine lv_iadd hx hb dL_law_646 ?_
  refine va_sld hx hb hX hbl hbA hS hi3 dL_law_647 ?_
  refine lv_aload_n hx hb dL_law_648 rfl (lv_at hl 1 rfl) ?_
  refine lv_iload hx hb dL_law_649 (lv_at hl 5 rfl) ?_
  refine lv_iconst (v := (4 : Int32)) hx hb dL_law_651 (by decide) ?_
  refine lv_iadd hx hb dL_law_652 ?_
  refine va_sld hx hb hX hbl hbA hS hi4 dL_law_653 ?_
  refine rwVi (wr := lwMr cI cS cJ G o (u2.1, u2.2)) (As := [.int (xs (Int32.toNatClampNeg (i + (1 : Int32)))), .int (xs (Int32.toNatClampNeg (i + (2 : Int32)))), .int (xs (Int32.toNatClampNeg (i + (3 : Int32)))), .int (xs (Int32.toNatClampNeg (i + (4 : Int32))))]) (rest := []) lwM_f F (c_X4_lay l D cI cS cJ bm M H.size (xs (Int32.toNatClampNeg (i + (1 : Int32)))) (xs (Int32.toNatClampNeg (i + (2 : Int32)))) (xs (Int32.toNatClampNeg (i + (3 : Int32)))) (xs (Int32.toNatClampNeg (i + (4 : Int32)))) h) (cw_L_130 hts (Nat.le_of_ble_eq_true rfl) (Nat.le_of_ble_eq_true rfl)) hK hP hD hS hA (recv (ci := 4) (k0 := 69) hK hP rfl rfl) rfl hl.1 rfl (Nat.le_of_ble_eq_true rfl) dL_law_654 ⟨show (cs + 1) + 0 ≤ 601024 by omega, show (ss + 6) + 0 ≤ 7293034 by omega⟩ (fun r3 u4 H locs h hP hD hS => ?_)
  have hP : va_P D vwCl (lwW cI cS cJ G o bm (u2.1, u2.2, u4)) H := vP_perm (lwM_b u4) hP
  have hD : va_D A (lwW cI cS cJ G o bm (u2.1, u2.2, u4)) := vD_perm (lwM_b u4) hD
  refine lv_istore (lv' := [(6, .int r3), (5, .int r1), (0, .ref b), (1, .ref (G 2 0)), (2, .ref (bm 0)), (3, .ref o), (4, .int i)]) hx hb dL_law_657 hl (by decide) rfl (fun ls hl => ?_)
  refine lv_aload_n hx hb dL_law_659 rfl (lv_at hl 4 rfl) ?_
  refine roVi (As := []) (rest := []) F (c_X4_thrown l D cI cS cJ bm u4 H  h) (cw_L_107 hts (Nat.le_of_ble_eq_true rfl) (Nat.le_of_ble_eq_true rfl)) hK (vP_L (vP_perm lwM_f hP)) (recv (ci := 4) (k0 := 69) hK hP rfl rfl) rfl hl.1 rfl (Nat.le_of_ble_eq_true rfl) dL_law_660 ⟨show ((cs + 1) + 0) + 0 ≤ 601024 by omega, show ((ss + 6) + 0) + 0 ≤ 7293034 by omega⟩ (fun r5 h => ?_)
  refine lv_iload hx hb dL_law_663 (lv_at hl 1 rfl) ?_
  refine lv_icmp_eq (tgt := 670) hx hb dL_law_665 (by decide) (fun c6 => ?_) (fun c6 => ?_)
  · replace h := h.1 c6
    refine lv_iload hx hb dL_law_670 (lv_at hl 1 rfl) ?_
    refine lv_if_ne (tgt := 687) hx hb dL_law_672 (by decide) (fun c7 => ?_) (fun c7 => ?_)
    · replace h := h.1 c7
      refine lv_goto (tgt := 1874) hx hb dL_law_687 (by decide) ?_
      refine W.widen (k := cs + 2) (n := ss + 12) (by omega) (by omega) ?_
      exact cont s.drawn _ _ _ _ _ _ (Drawn.sameBut.refl _ _) (lv_sub hl [2, 3, 4, 5, 6] rfl) hP hD hS h
    · replace h := h.2 c7
      refine lv_aload_n hx hb dL_law_675 rfl (lv_at hl 5 rfl) ?_
      refine lv_iconst (v := (0 : Int32)) hx hb dL_law_676 (by decide) ?_
      refine va_lald hx hb hK.k hP 0 2 rfl rfl in01 dL_law_677 ?_
      refine lv_iload hx hb dL_law_678 (lv_at hl 0 rfl) ?_
      refine lv_i2l (v := (Int32.toInt64 r3)) hx hb dL_law_680 rfl ?_
      refine W.lcmp hx hb dL_law_681 ?_
      refine lv_if_eq (tgt := 687) hx hb dL_law_682 (by decide) (fun c8 => ?_) (fun c8 => ?_)
      · replace h := h.1 c8
        refine lv_goto (tgt := 1874) hx hb dL_law_687 (by decide) ?_
        refine W.widen (k := cs + 2) (n := ss + 12) (by omega) (by omega) ?_
        exact cont s.drawn _ _ _ _ _ _ (Drawn.sameBut.refl _ _) (lv_sub hl [2, 3, 4, 5, 6] rfl) hP hD hS h
      · replace h := h.2 c8
        refine lv_iconst (v := (0 : Int32)) hx hb dL_law_685 (by decide) ?_
        exact h.elim
  · replace h := h.2 c6
    refine lv_iconst (v := (0 : Int32)) hx hb dL_law_668 (by decide) ?_
    exact h.elim

def wp_law_7 (xs : Nat → Int32) (i : Int32) (N : Ne) (O : Nat → Int64) (M : Md) (post : Ne → (Nat → Int64) → Md → Prop) : Prop :=
  wp_L_takeUp (N, O)  (fun r1 u2 => wp_X4_takeUp M (fun r3 u4 => wp_X4_thrown u4 (fun r5 => (r5 = r1 → (¬ r1 = 0 → post u2.1 u2.2 u4) ∧ (r1 = 0 → ((lg_cmp (u2.2 (Int32.toNatClampNeg (0 : Int32))) (Int32.toInt64 r3)) = 0 → post u2.1 u2.2 u4) ∧ (¬ (lg_cmp (u2.2 (Int32.toNatClampNeg (0 : Int32))) (Int32.toInt64 r3)) = 0 → False))) ∧ (¬ r5 = r1 → False))))
set_option maxHeartbeats 4000000 in
set_option maxRecDepth 100000 in
theorem c_law_7 {p : Program} {l : Launch} {e : Env} {s : State} {m : MethodId} {args : Array Value} {below : List Frame} {meth : Method} {c : Code} {Q : State → Prop} {A : Nat → Prop} {D : va_G} {cI cS cJ : ClassId} {G : Nat → Nat → Nat} {o : Nat} {bm : Nat → Nat} {b L cs ss : Nat} {xs : Nat → Int32} {i : Int32} {N : Ne} {O : Nat → Int64} {M : Md} {H : Heap} {locs : List Loc} {ls : Array Slot} (C : lwC p l s m args c A D cI cS cJ b L xs) (hi0 : vp_in i L) (hi1 : vp_in (i + 1) L) (hi2 : vp_in (i + 2) L) (hi3 : vp_in (i + 3) L) (hi4 : vp_in (i + 4) L) (hcs : cs + 2 ≤ 601024) (hss : ss + 12 ≤ 7293034) (hl : lv_has ls 9 [(0, .ref b), (1, .ref (G 2 0)), (2, .ref (bm 0)), (3, .ref o), (4, .int i)]) (hP : va_P D vwCl (lwW cI cS cJ G o bm (N, O, M)) H) (hD : va_D A (lwW cI cS cJ G o bm (N, O, M))) (hS : va_S A s.heap H locs) {post : Ne → (Nat → Int64) → Md → Prop} (h : wp_law_7 xs i N O M post)
    (cont : ∀ (d' : Drawn) (N : Ne) (O : Nat → Int64) (M : Md) (H : Heap) (locs : List Loc) (ls : Array Slot), s.drawn.sameBut d' lw_cs → lv_has ls 9 [(0, .ref b), (1, .ref (G 2 0)), (2, .ref (bm 0)), (3, .ref o), (4, .int i)] → va_P D vwCl (lwW cI cS cJ G o bm (N, O, M)) H → va_D A (lwW cI cS cJ G o bm (N, O, M)) → va_S A s.heap H locs → post N O M → W p l e room_1 (s.setDrawn d') m args below meth c H locs (cs + 2) (ss + 12) Q (F0 m 1874 ls [])) :
    W p l e room_1 s m args below meth c H locs cs ss Q (F0 m 690 ls []) := by
  obtain ⟨hst, FC, hK0, hV, hH, hX, hbl, hbA, hA⟩ := C
  have hx := FC.1
  have hb := FC.2.1
  have hown := FC.2.2.2.1
  have hts := FC.2.2.2.2
  have F := FC
  have hK := hK0
  unfold wp_law_7 at h
  refine lv_aload_n hx hb dL_law_690 rfl (lv_at hl 1 rfl) ?_
  refine lv_aload_n hx hb dL_law_691 rfl (lv_at hl 3 rfl) ?_
  refine rwHi (wr := mdW cI bm M) (As := [.ref (G 2 0), .ref o]) (rest := []) lwH_f F (c_L_takeUp l hst D cI cS cJ G o (N, O) H.size  h) (cwH_takeUp hts (Nat.le_of_ble_eq_true rfl) (Nat.le_of_ble_eq_true rfl)) hK hV hH hP hD hS hA rfl hl.1 rfl (Nat.le_of_ble_eq_true rfl) dL_law_692 ⟨show cs + 1 ≤ 601024 by omega, show ss + 6 ≤ 7293034 by omega⟩ (fun r1 u2 H locs h hP hD hS => ?_)
  have hP : va_P D vwCl (lwW cI cS cJ G o bm (u2.1, u2.2, M)) H := vP_perm lwH_b hP
  have hD : va_D A (lwW cI cS cJ G o bm (u2.1, u2.2, M)) := vD_perm lwH_b hD
  refine lv_istore (lv' := [(5, .int r1), (0, .ref b), (1, .ref (G 2 0)), (2, .ref (bm 0)), (3, .ref o), (4, .int i)]) hx hb dL_law_695 hl (by decide) rfl (fun ls hl => ?_)
  refine lv_aload_n hx hb dL_law_697 rfl (lv_at hl 3 rfl) ?_
  refine rwVi (wr := lwMr cI cS cJ G o (u2.1, u2.2)) (As := []) (rest := []) lwM_f F (c_X4_takeUp l D cI cS cJ bm M H.size  h) (cw_L_134 hts (Nat.le_of_ble_eq_true rfl) (Nat.le_of_ble_eq_true rfl)) hK hP hD hS hA (recv (ci := 4) (k0 := 69) hK hP rfl rfl) rfl hl.1 rfl (Nat.le_of_ble_eq_true rfl) dL_law_698 ⟨show (cs + 1) + 0 ≤ 601024 by omega, show (ss + 6) + 0 ≤ 7293034 by omega⟩ (fun r3 u4 H locs h hP hD hS => ?_)
  have hP : va_P D vwCl (lwW cI cS cJ G o bm (u2.1, u2.2, u4)) H := vP_perm (lwM_b u4) hP
  have hD : va_D A (lwW cI cS cJ G o bm (u2.1, u2.2, u4)) := vD_perm (lwM_b u4) hD
  refine lv_istore (lv' := [(6, .int r3), (5, .int r1), (0, .ref b), (1, .ref (G 2 0)), (2, .ref (bm 0)), (3, .ref o), (4, .int i)]) hx hb dL_law_701 hl (by decide) rfl (fun ls hl => ?_)
  refine lv_aload_n hx hb dL_law_703 rfl (lv_at hl 4 rfl) ?_
  refine roVi (As := []) (rest := []) F (c_X4_thrown l D cI cS cJ bm u4 H  h) (cw_L_107 hts (Nat.le_of_ble_eq_true rfl) (Nat.le_of_ble_eq_true rfl)) hK (vP_L (vP_perm lwM_f hP)) (recv (ci := 4) (k0 := 69) hK hP rfl rfl) rfl hl.1 rfl (Nat.le_of_ble_eq_true rfl) dL_law_704 ⟨show ((cs + 1) + 0) + 0 ≤ 601024 by omega, show ((ss + 6) + 0) + 0 ≤ 7293034 by omega⟩ (fun r5 h => ?_)
  refine lv_iload hx hb dL_law_707 (lv_at hl 1 rfl) ?_
  refine lv_icmp_eq (tgt := 714) hx hb dL_law_709 (by decide) (fun c6 => ?_) (fun c6 => ?_)
  · replace h := h.1 c6
    refine lv_iload hx hb dL_law_714 (lv_at hl 1 rfl) ?_
    refine lv_if_ne (tgt := 731) hx hb dL_law_716 (by decide) (fun c7 => ?_) (fun c7 => ?_)
    · replace h := h.1 c7
      refine lv_goto (tgt := 1874) hx hb dL_law_731 (by decide) ?_
      refine W.widen (k := cs + 2) (n := ss + 12) (by omega) (by omega) ?_
      exact cont s.drawn _ _ _ _ _ _ (Drawn.sameBut.refl _ _) (lv_sub hl [2, 3, 4, 5, 6] rfl) hP hD hS h
    · replace h := h.2 c7
      refine lv_aload_n hx hb dL_law_719 rfl (lv_at hl 5 rfl) ?_
      refine lv_iconst (v := (0 : Int32)) hx hb dL_law_720 (by decide) ?_
      refine va_lald hx hb hK.k hP 0 2 rfl rfl in01 dL_law_721 ?_
      refine lv_iload hx hb dL_law_722 (lv_at hl 0 rfl) ?_
      refine lv_i2l (v := (Int32.toInt64 r3)) hx hb dL_law_724 rfl ?_
      refine W.lcmp hx hb dL_law_725 ?_
      refine lv_if_eq (tgt := 731) hx hb dL_law_726 (by decide) (fun c8 => ?_) (fun c8 => ?_)
      · replace h := h.1 c8
        refine lv_goto (tgt := 1874) hx hb dL_law_731 (by decide) ?_
        refine W.widen (k := cs + 2) (n := ss + 12) (by omega) (by omega) ?_
        exact cont s.drawn _ _ _ _ _ _ (Drawn.sameBut.refl _ _) (lv_sub hl [2, 3, 4, 5, 6] rfl) hP hD hS h
      · replace h := h.2 c8
        refine lv_iconst (v := (0 : Int32)) hx hb dL_law_729 (by decide) ?_
        exact h.elim
  · replace h := h.2 c6
    refine lv_iconst (v := (0 : Int32)) hx hb dL_law_712 (by decide) ?_
    exact h.elim

def wp_law_8 (xs : Nat → Int32) (i : Int32) (N : Ne) (O : Nat → Int64) (M : Md) (post : Ne → (Nat → Int64) → Md → Prop) : Prop :=
  wp_X3_roads N (fun r1 => wp_X4_roads M (fun r2 u3 => (r1 = r2 → post N O u3) ∧ (¬ r1 = r2 → False)))
set_option maxHeartbeats 4000000 in
set_option maxRecDepth 100000 in
theorem c_law_8 {p : Program} {l : Launch} {e : Env} {s : State} {m : MethodId} {args : Array Value} {below : List Frame} {meth : Method} {c : Code} {Q : State → Prop} {A : Nat → Prop} {D : va_G} {cI cS cJ : ClassId} {G : Nat → Nat → Nat} {o : Nat} {bm : Nat → Nat} {b L cs ss : Nat} {xs : Nat → Int32} {i : Int32} {N : Ne} {O : Nat → Int64} {M : Md} {H : Heap} {locs : List Loc} {ls : Array Slot} (C : lwC p l s m args c A D cI cS cJ b L xs) (hi0 : vp_in i L) (hi1 : vp_in (i + 1) L) (hi2 : vp_in (i + 2) L) (hi3 : vp_in (i + 3) L) (hi4 : vp_in (i + 4) L) (hcs : cs + 2 ≤ 601024) (hss : ss + 12 ≤ 7293034) (hl : lv_has ls 9 [(0, .ref b), (1, .ref (G 2 0)), (2, .ref (bm 0)), (3, .ref o), (4, .int i)]) (hP : va_P D vwCl (lwW cI cS cJ G o bm (N, O, M)) H) (hD : va_D A (lwW cI cS cJ G o bm (N, O, M))) (hS : va_S A s.heap H locs) {post : Ne → (Nat → Int64) → Md → Prop} (h : wp_law_8 xs i N O M post)
    (cont : ∀ (d' : Drawn) (N : Ne) (O : Nat → Int64) (M : Md) (H : Heap) (locs : List Loc) (ls : Array Slot), s.drawn.sameBut d' lw_cs → lv_has ls 9 [(0, .ref b), (1, .ref (G 2 0)), (2, .ref (bm 0)), (3, .ref o), (4, .int i)] → va_P D vwCl (lwW cI cS cJ G o bm (N, O, M)) H → va_D A (lwW cI cS cJ G o bm (N, O, M)) → va_S A s.heap H locs → post N O M → W p l e room_1 (s.setDrawn d') m args below meth c H locs (cs + 2) (ss + 12) Q (F0 m 1874 ls [])) :
    W p l e room_1 s m args below meth c H locs cs ss Q (F0 m 734 ls []) := by
  obtain ⟨hst, FC, hK0, hV, hH, hX, hbl, hbA, hA⟩ := C
  have hx := FC.1
  have hb := FC.2.1
  have hown := FC.2.2.2.1
  have hts := FC.2.2.2.2
  have F := FC
  have hK := hK0
  unfold wp_law_8 at h
  refine lv_aload_n hx hb dL_law_734 rfl (lv_at hl 1 rfl) ?_
  refine roVi (As := []) (rest := []) F (c_X3_roads l D cI cS cJ G N H  h) (cw_L_135 hts (Nat.le_of_ble_eq_true rfl) (Nat.le_of_ble_eq_true rfl)) hK (vP_L (vP_perm lwN_f hP)) (recv (ci := 3) (k0 := 1) hK hP rfl rfl) rfl hl.1 rfl (Nat.le_of_ble_eq_true rfl) dL_law_735 ⟨show cs + 0 ≤ 601024 by omega, show ss + 0 ≤ 7293034 by omega⟩ (fun r1 h => ?_)
  refine lv_aload_n hx hb dL_law_738 rfl (lv_at hl 2 rfl) ?_
  refine rwVi (wr := lwMr cI cS cJ G o (N, O)) (As := []) (rest := [.int r1]) lwM_f F (c_X4_roads l D cI cS cJ bm M H.size  h) (cw_L_138 hts (Nat.le_of_ble_eq_true rfl) (Nat.le_of_ble_eq_true rfl)) hK hP hD hS hA (recv (ci := 4) (k0 := 69) hK hP rfl rfl) rfl hl.1 rfl (Nat.le_of_ble_eq_true rfl) dL_law_739 ⟨show cs + 0 ≤ 601024 by omega, show ss + 0 ≤ 7293034 by omega⟩ (fun r2 u3 H locs h hP hD hS => ?_)
  have hP : va_P D vwCl (lwW cI cS cJ G o bm (N, O, u3)) H := vP_perm (lwM_b u3) hP
  have hD : va_D A (lwW cI cS cJ G o bm (N, O, u3)) := vD_perm (lwM_b u3) hD
  refine lv_icmp_eq (tgt := 1874) hx hb dL_law_742 (by decide) (fun c4 => ?_) (fun c4 => ?_)
  · replace h := h.1 c4
    refine W.widen (k := cs + 2) (n := ss + 12) (by omega) (by omega) ?_
    exact cont s.drawn _ _ _ _ _ _ (Drawn.sameBut.refl _ _) (lv_sub hl [0, 1, 2, 3, 4] rfl) hP hD hS h
  · replace h := h.2 c4
    refine lv_iconst (v := (0 : Int32)) hx hb dL_law_745 (by decide) ?_
    exact h.elim

def wp_law_9 (xs : Nat → Int32) (i : Int32) (N : Ne) (O : Nat → Int64) (M : Md) (post : Ne → (Nat → Int64) → Md → Prop) : Prop :=
  wp_L_inn (N, O) (xs (Int32.toNatClampNeg (i + (1 : Int32)))) (xs (Int32.toNatClampNeg (i + (2 : Int32)))) (fun r1 u2 => wp_X4_inn M (xs (Int32.toNatClampNeg (i + (1 : Int32)))) (xs (Int32.toNatClampNeg (i + (2 : Int32)))) (fun r3 u4 => wp_X4_thrown u4 (fun r5 => (r5 = r1 → (¬ r1 = 0 → post u2.1 u2.2 u4) ∧ (r1 = 0 → ((lg_cmp (u2.2 (Int32.toNatClampNeg (0 : Int32))) (Int32.toInt64 r3)) = 0 → post u2.1 u2.2 u4) ∧ (¬ (lg_cmp (u2.2 (Int32.toNatClampNeg (0 : Int32))) (Int32.toInt64 r3)) = 0 → False))) ∧ (¬ r5 = r1 → False))))
set_option maxHeartbeats 4000000 in
set_option maxRecDepth 100000 in
theorem c_law_9 {p : Program} {l : Launch} {e : Env} {s : State} {m : MethodId} {args : Array Value} {below : List Frame} {meth : Method} {c : Code} {Q : State → Prop} {A : Nat → Prop} {D : va_G} {cI cS cJ : ClassId} {G : Nat → Nat → Nat} {o : Nat} {bm : Nat → Nat} {b L cs ss : Nat} {xs : Nat → Int32} {i : Int32} {N : Ne} {O : Nat → Int64} {M : Md} {H : Heap} {locs : List Loc} {ls : Array Slot} (C : lwC p l s m args c A D cI cS cJ b L xs) (hi0 : vp_in i L) (hi1 : vp_in (i + 1) L) (hi2 : vp_in (i + 2) L) (hi3 : vp_in (i + 3) L) (hi4 : vp_in (i + 4) L) (hcs : cs + 2 ≤ 601024) (hss : ss + 12 ≤ 7293034) (hl : lv_has ls 9 [(0, .ref b), (1, .ref (G 2 0)), (2, .ref (bm 0)), (3, .ref o), (4, .int i)]) (hP : va_P D vwCl (lwW cI cS cJ G o bm (N, O, M)) H) (hD : va_D A (lwW cI cS cJ G o bm (N, O, M))) (hS : va_S A s.heap H locs) {post : Ne → (Nat → Int64) → Md → Prop} (h : wp_law_9 xs i N O M post)
    (cont : ∀ (d' : Drawn) (N : Ne) (O : Nat → Int64) (M : Md) (H : Heap) (locs : List Loc) (ls : Array Slot), s.drawn.sameBut d' lw_cs → lv_has ls 9 [(0, .ref b), (1, .ref (G 2 0)), (2, .ref (bm 0)), (3, .ref o), (4, .int i)] → va_P D vwCl (lwW cI cS cJ G o bm (N, O, M)) H → va_D A (lwW cI cS cJ G o bm (N, O, M)) → va_S A s.heap H locs → post N O M → W p l e room_1 (s.setDrawn d') m args below meth c H locs (cs + 2) (ss + 12) Q (F0 m 1874 ls [])) :
    W p l e room_1 s m args below meth c H locs cs ss Q (F0 m 747 ls []) := by
  obtain ⟨hst, FC, hK0, hV, hH, hX, hbl, hbA, hA⟩ := C
  have hx := FC.1
  have hb := FC.2.1
  have hown := FC.2.2.2.1
  have hts := FC.2.2.2.2
  have F := FC
  have hK := hK0
  unfold wp_law_9 at h
  refine lv_aload_n hx hb dL_law_747 rfl (lv_at hl 1 rfl) ?_
  refine lv_aload_n hx hb dL_law_748 rfl (lv_at hl 0 rfl) ?_
  refine lv_iload hx hb dL_law_749 (lv_at hl 4 rfl) ?_
  refine lv_iconst (v := (1 : Int32)) hx hb dL_law_751 (by decide) ?_
  refine lv_iadd hx hb dL_law_752 ?_
  refine va_sld hx hb hX hbl hbA hS hi1 dL_law_753 ?_
  refine lv_aload_n hx hb dL_law_754 rfl (lv_at hl 0 rfl) ?_
  refine lv_iload hx hb dL_law_755 (lv_at hl 4 rfl) ?_
  refine lv_iconst (v := (2 : Int32)) hx hb dL_law_757 (by decide) ?_
  refine lv_iadd hx hb dL_law_758 ?_
  refine va_sld hx hb hX hbl hbA hS hi2 dL_law_759 ?_
  refine lv_aload_n hx hb dL_law_760 rfl (lv_at hl 3 rfl) ?_
  refine rwHi (wr := mdW cI bm M) (As := [.ref (G 2 0), .int (xs (Int32.toNatClampNeg (i + (1 : Int32)))), .int (xs (Int32.toNatClampNeg (i + (2 : Int32)))), .ref o]) (rest := []) lwH_f F (c_L_inn l hst D cI cS cJ G o (N, O) H.size (xs (Int32.toNatClampNeg (i + (1 : Int32)))) (xs (Int32.toNatClampNeg (i + (2 : Int32)))) h) (cwH_inn hts (Nat.le_of_ble_eq_true rfl) (Nat.le_of_ble_eq_true rfl)) hK hV hH hP hD hS hA rfl hl.1 rfl (Nat.le_of_ble_eq_true rfl) dL_law_761 ⟨show cs + 1 ≤ 601024 by omega, show ss + 6 ≤ 7293034 by omega⟩ (fun r1 u2 H locs h hP hD hS => ?_)
  have hP : va_P D vwCl (lwW cI cS cJ G o bm (u2.1, u2.2, M)) H := vP_perm lwH_b hP
  have hD : va_D A (lwW cI cS cJ G o bm (u2.1, u2.2, M)) := vD_perm lwH_b hD
  refine lv_istore (lv' := [(5, .int r1), (0, .ref b), (1, .ref (G 2 0)), (2, .ref (bm 0)), (3, .ref o), (4, .int i)]) hx hb dL_law_764 hl (by decide) rfl (fun ls hl => ?_)
  refine lv_aload_n hx hb dL_law_766 rfl (lv_at hl 3 rfl) ?_
  refine lv_aload_n hx hb dL_law_767 rfl (lv_at hl 1 rfl) ?_
  refine lv_iload hx hb dL_law_768 (lv_at hl 5 rfl) ?_
  refine lv_iconst (v := (1 : Int32)) hx hb dL_law_770 (by decide) ?_
  refine lv_iadd hx hb dL_law_771 ?_
  refine va_sld hx hb hX hbl hbA hS hi1 dL_law_772 ?_
  refine lv_aload_n hx hb dL_law_773 rfl (lv_at hl 1 rfl) ?_
  refine lv_iload hx hb dL_law_774 (lv_at hl 5 rfl) ?_
  refine lv_iconst (v := (2 : Int32)) hx hb dL_law_776 (by decide) ?_
  refine lv_iadd hx hb dL_law_777 ?_
  refine va_sld hx hb hX hbl hbA hS hi2 dL_law_778 ?_
  refine rwVi (wr := lwMr cI cS cJ G o (u2.1, u2.2)) (As := [.int (xs (Int32.toNatClampNeg (i + (1 : Int32)))), .int (xs (Int32.toNatClampNeg (i + (2 : Int32))))]) (rest := []) lwM_f F (c_X4_inn l D cI cS cJ bm M H.size (xs (Int32.toNatClampNeg (i + (1 : Int32)))) (xs (Int32.toNatClampNeg (i + (2 : Int32)))) h) (cw_L_141 hts (Nat.le_of_ble_eq_true rfl) (Nat.le_of_ble_eq_true rfl)) hK hP hD hS hA (recv (ci := 4) (k0 := 69) hK hP rfl rfl) rfl hl.1 rfl (Nat.le_of_ble_eq_true rfl) dL_law_779 ⟨show (cs + 1) + 0 ≤ 601024 by omega, show (ss + 6) + 0 ≤ 7293034 by omega⟩ (fun r3 u4 H locs h hP hD hS => ?_)
  have hP : va_P D vwCl (lwW cI cS cJ G o bm (u2.1, u2.2, u4)) H := vP_perm (lwM_b u4) hP
  have hD : va_D A (lwW cI cS cJ G o bm (u2.1, u2.2, u4)) := vD_perm (lwM_b u4) hD
  refine lv_istore (lv' := [(6, .int r3), (5, .int r1), (0, .ref b), (1, .ref (G 2 0)), (2, .ref (bm 0)), (3, .ref o), (4, .int i)]) hx hb dL_law_782 hl (by decide) rfl (fun ls hl => ?_)
  refine lv_aload_n hx hb dL_law_784 rfl (lv_at hl 4 rfl) ?_
  refine roVi (As := []) (rest := []) F (c_X4_thrown l D cI cS cJ bm u4 H  h) (cw_L_107 hts (Nat.le_of_ble_eq_true rfl) (Nat.le_of_ble_eq_true rfl)) hK (vP_L (vP_perm lwM_f hP)) (recv (ci := 4) (k0 := 69) hK hP rfl rfl) rfl hl.1 rfl (Nat.le_of_ble_eq_true rfl) dL_law_785 ⟨show ((cs + 1) + 0) + 0 ≤ 601024 by omega, show ((ss + 6) + 0) + 0 ≤ 7293034 by omega⟩ (fun r5 h => ?_)
  refine lv_iload hx hb dL_law_788 (lv_at hl 1 rfl) ?_
  refine lv_icmp_eq (tgt := 795) hx hb dL_law_790 (by decide) (fun c6 => ?_) (fun c6 => ?_)
  · replace h := h.1 c6
    refine lv_iload hx hb dL_law_795 (lv_at hl 1 rfl) ?_
    refine lv_if_ne (tgt := 812) hx hb dL_law_797 (by decide) (fun c7 => ?_) (fun c7 => ?_)
    · replace h := h.1 c7
      refine lv_goto (tgt := 1874) hx hb dL_law_812 (by decide) ?_
      refine W.widen (k := cs + 2) (n := ss + 12) (by omega) (by omega) ?_
      exact cont s.drawn _ _ _ _ _ _ (Drawn.sameBut.refl _ _) (lv_sub hl [2, 3, 4, 5, 6] rfl) hP hD hS h
    · replace h := h.2 c7
      refine lv_aload_n hx hb dL_law_800 rfl (lv_at hl 5 rfl) ?_
      refine lv_iconst (v := (0 : Int32)) hx hb dL_law_801 (by decide) ?_
      refine va_lald hx hb hK.k hP 0 2 rfl rfl in01 dL_law_802 ?_
      refine lv_iload hx hb dL_law_803 (lv_at hl 0 rfl) ?_
      refine lv_i2l (v := (Int32.toInt64 r3)) hx hb dL_law_805 rfl ?_
      refine W.lcmp hx hb dL_law_806 ?_
      refine lv_if_eq (tgt := 812) hx hb dL_law_807 (by decide) (fun c8 => ?_) (fun c8 => ?_)
      · replace h := h.1 c8
        refine lv_goto (tgt := 1874) hx hb dL_law_812 (by decide) ?_
        refine W.widen (k := cs + 2) (n := ss + 12) (by omega) (by omega) ?_
        exact cont s.drawn _ _ _ _ _ _ (Drawn.sameBut.refl _ _) (lv_sub hl [2, 3, 4, 5, 6] rfl) hP hD hS h
      · replace h := h.2 c8
        refine lv_iconst (v := (0 : Int32)) hx hb dL_law_810 (by decide) ?_
        exact h.elim
  · replace h := h.2 c6
    refine lv_iconst (v := (0 : Int32)) hx hb dL_law_793 (by decide) ?_
    exact h.elim

def wp_law_10 (xs : Nat → Int32) (i : Int32) (N : Ne) (O : Nat → Int64) (M : Md) (post : Ne → (Nat → Int64) → Md → Prop) : Prop :=
  wp_L_hall (N, O) (xs (Int32.toNatClampNeg (i + (1 : Int32)))) (fun r1 u2 => wp_X4_hall M (xs (Int32.toNatClampNeg (i + (1 : Int32)))) (fun r3 u4 => wp_X4_thrown u4 (fun r5 => (r5 = r1 → (¬ r1 = 0 → post u2.1 u2.2 u4) ∧ (r1 = 0 → ((lg_cmp (u2.2 (Int32.toNatClampNeg (0 : Int32))) (Int32.toInt64 r3)) = 0 → post u2.1 u2.2 u4) ∧ (¬ (lg_cmp (u2.2 (Int32.toNatClampNeg (0 : Int32))) (Int32.toInt64 r3)) = 0 → False))) ∧ (¬ r5 = r1 → False))))
set_option maxHeartbeats 4000000 in
set_option maxRecDepth 100000 in
theorem c_law_10 {p : Program} {l : Launch} {e : Env} {s : State} {m : MethodId} {args : Array Value} {below : List Frame} {meth : Method} {c : Code} {Q : State → Prop} {A : Nat → Prop} {D : va_G} {cI cS cJ : ClassId} {G : Nat → Nat → Nat} {o : Nat} {bm : Nat → Nat} {b L cs ss : Nat} {xs : Nat → Int32} {i : Int32} {N : Ne} {O : Nat → Int64} {M : Md} {H : Heap} {locs : List Loc} {ls : Array Slot} (C : lwC p l s m args c A D cI cS cJ b L xs) (hi0 : vp_in i L) (hi1 : vp_in (i + 1) L) (hi2 : vp_in (i + 2) L) (hi3 : vp_in (i + 3) L) (hi4 : vp_in (i + 4) L) (hcs : cs + 2 ≤ 601024) (hss : ss + 12 ≤ 7293034) (hl : lv_has ls 9 [(0, .ref b), (1, .ref (G 2 0)), (2, .ref (bm 0)), (3, .ref o), (4, .int i)]) (hP : va_P D vwCl (lwW cI cS cJ G o bm (N, O, M)) H) (hD : va_D A (lwW cI cS cJ G o bm (N, O, M))) (hS : va_S A s.heap H locs) {post : Ne → (Nat → Int64) → Md → Prop} (h : wp_law_10 xs i N O M post)
    (cont : ∀ (d' : Drawn) (N : Ne) (O : Nat → Int64) (M : Md) (H : Heap) (locs : List Loc) (ls : Array Slot), s.drawn.sameBut d' lw_cs → lv_has ls 9 [(0, .ref b), (1, .ref (G 2 0)), (2, .ref (bm 0)), (3, .ref o), (4, .int i)] → va_P D vwCl (lwW cI cS cJ G o bm (N, O, M)) H → va_D A (lwW cI cS cJ G o bm (N, O, M)) → va_S A s.heap H locs → post N O M → W p l e room_1 (s.setDrawn d') m args below meth c H locs (cs + 2) (ss + 12) Q (F0 m 1874 ls [])) :
    W p l e room_1 s m args below meth c H locs cs ss Q (F0 m 815 ls []) := by
  obtain ⟨hst, FC, hK0, hV, hH, hX, hbl, hbA, hA⟩ := C
  have hx := FC.1
  have hb := FC.2.1
  have hown := FC.2.2.2.1
  have hts := FC.2.2.2.2
  have F := FC
  have hK := hK0
  unfold wp_law_10 at h
  refine lv_aload_n hx hb dL_law_815 rfl (lv_at hl 1 rfl) ?_
  refine lv_aload_n hx hb dL_law_816 rfl (lv_at hl 0 rfl) ?_
  refine lv_iload hx hb dL_law_817 (lv_at hl 4 rfl) ?_
  refine lv_iconst (v := (1 : Int32)) hx hb dL_law_819 (by decide) ?_
  refine lv_iadd hx hb dL_law_820 ?_
  refine va_sld hx hb hX hbl hbA hS hi1 dL_law_821 ?_
  refine lv_aload_n hx hb dL_law_822 rfl (lv_at hl 3 rfl) ?_
  refine rwHi (wr := mdW cI bm M) (As := [.ref (G 2 0), .int (xs (Int32.toNatClampNeg (i + (1 : Int32)))), .ref o]) (rest := []) lwH_f F (c_L_hall l hst D cI cS cJ G o (N, O) H.size (xs (Int32.toNatClampNeg (i + (1 : Int32)))) h) (cwH_hall hts (Nat.le_of_ble_eq_true rfl) (Nat.le_of_ble_eq_true rfl)) hK hV hH hP hD hS hA rfl hl.1 rfl (Nat.le_of_ble_eq_true rfl) dL_law_823 ⟨show cs + 1 ≤ 601024 by omega, show ss + 6 ≤ 7293034 by omega⟩ (fun r1 u2 H locs h hP hD hS => ?_)
  have hP : va_P D vwCl (lwW cI cS cJ G o bm (u2.1, u2.2, M)) H := vP_perm lwH_b hP
  have hD : va_D A (lwW cI cS cJ G o bm (u2.1, u2.2, M)) := vD_perm lwH_b hD
  refine lv_istore (lv' := [(5, .int r1), (0, .ref b), (1, .ref (G 2 0)), (2, .ref (bm 0)), (3, .ref o), (4, .int i)]) hx hb dL_law_826 hl (by decide) rfl (fun ls hl => ?_)
  refine lv_aload_n hx hb dL_law_828 rfl (lv_at hl 3 rfl) ?_
  refine lv_aload_n hx hb dL_law_829 rfl (lv_at hl 1 rfl) ?_
  refine lv_iload hx hb dL_law_830 (lv_at hl 5 rfl) ?_
  refine lv_iconst (v := (1 : Int32)) hx hb dL_law_832 (by decide) ?_
  refine lv_iadd hx hb dL_law_833 ?_
  refine va_sld hx hb hX hbl hbA hS hi1 dL_law_834 ?_
  refine rwVi (wr := lwMr cI cS cJ G o (u2.1, u2.2)) (As := [.int (xs (Int32.toNatClampNeg (i + (1 : Int32))))]) (rest := []) lwM_f F (c_X4_hall l D cI cS cJ bm M H.size (xs (Int32.toNatClampNeg (i + (1 : Int32)))) h) (cw_L_144 hts (Nat.le_of_ble_eq_true rfl) (Nat.le_of_ble_eq_true rfl)) hK hP hD hS hA (recv (ci := 4) (k0 := 69) hK hP rfl rfl) rfl hl.1 rfl (Nat.le_of_ble_eq_true rfl) dL_law_835 ⟨show (cs + 1) + 0 ≤ 601024 by omega, show (ss + 6) + 0 ≤ 7293034 by omega⟩ (fun r3 u4 H locs h hP hD hS => ?_)
  have hP : va_P D vwCl (lwW cI cS cJ G o bm (u2.1, u2.2, u4)) H := vP_perm (lwM_b u4) hP
  have hD : va_D A (lwW cI cS cJ G o bm (u2.1, u2.2, u4)) := vD_perm (lwM_b u4) hD
  refine lv_istore (lv' := [(6, .int r3), (5, .int r1), (0, .ref b), (1, .ref (G 2 0)), (2, .ref (bm 0)), (3, .ref o), (4, .int i)]) hx hb dL_law_838 hl (by decide) rfl (fun ls hl => ?_)
  refine lv_aload_n hx hb dL_law_840 rfl (lv_at hl 4 rfl) ?_
  refine roVi (As := []) (rest := []) F (c_X4_thrown l D cI cS cJ bm u4 H  h) (cw_L_107 hts (Nat.le_of_ble_eq_true rfl) (Nat.le_of_ble_eq_true rfl)) hK (vP_L (vP_perm lwM_f hP)) (recv (ci := 4) (k0 := 69) hK hP rfl rfl) rfl hl.1 rfl (Nat.le_of_ble_eq_true rfl) dL_law_841 ⟨show ((cs + 1) + 0) + 0 ≤ 601024 by omega, show ((ss + 6) + 0) + 0 ≤ 7293034 by omega⟩ (fun r5 h => ?_)
  refine lv_iload hx hb dL_law_844 (lv_at hl 1 rfl) ?_
  refine lv_icmp_eq (tgt := 851) hx hb dL_law_846 (by decide) (fun c6 => ?_) (fun c6 => ?_)
  · replace h := h.1 c6
    refine lv_iload hx hb dL_law_851 (lv_at hl 1 rfl) ?_
    refine lv_if_ne (tgt := 868) hx hb dL_law_853 (by decide) (fun c7 => ?_) (fun c7 => ?_)
    · replace h := h.1 c7
      refine lv_goto (tgt := 1874) hx hb dL_law_868 (by decide) ?_
      refine W.widen (k := cs + 2) (n := ss + 12) (by omega) (by omega) ?_
      exact cont s.drawn _ _ _ _ _ _ (Drawn.sameBut.refl _ _) (lv_sub hl [2, 3, 4, 5, 6] rfl) hP hD hS h
    · replace h := h.2 c7
      refine lv_aload_n hx hb dL_law_856 rfl (lv_at hl 5 rfl) ?_
      refine lv_iconst (v := (0 : Int32)) hx hb dL_law_857 (by decide) ?_
      refine va_lald hx hb hK.k hP 0 2 rfl rfl in01 dL_law_858 ?_
      refine lv_iload hx hb dL_law_859 (lv_at hl 0 rfl) ?_
      refine lv_i2l (v := (Int32.toInt64 r3)) hx hb dL_law_861 rfl ?_
      refine W.lcmp hx hb dL_law_862 ?_
      refine lv_if_eq (tgt := 868) hx hb dL_law_863 (by decide) (fun c8 => ?_) (fun c8 => ?_)
      · replace h := h.1 c8
        refine lv_goto (tgt := 1874) hx hb dL_law_868 (by decide) ?_
        refine W.widen (k := cs + 2) (n := ss + 12) (by omega) (by omega) ?_
        exact cont s.drawn _ _ _ _ _ _ (Drawn.sameBut.refl _ _) (lv_sub hl [2, 3, 4, 5, 6] rfl) hP hD hS h
      · replace h := h.2 c8
        refine lv_iconst (v := (0 : Int32)) hx hb dL_law_866 (by decide) ?_
        exact h.elim
  · replace h := h.2 c6
    refine lv_iconst (v := (0 : Int32)) hx hb dL_law_849 (by decide) ?_
    exact h.elim
