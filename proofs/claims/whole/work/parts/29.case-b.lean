def wp_law_11 (xs : Nat → Int32) (i : Int32) (N : Ne) (O : Nat → Int64) (M : Md) (post : Ne → (Nat → Int64) → Md → Prop) : Prop :=
  wp_L_stands (N, O) (xs (Int32.toNatClampNeg (i + (1 : Int32)))) (fun r1 u2 => wp_X4_stands M (xs (Int32.toNatClampNeg (i + (1 : Int32)))) (fun r3 u5 => wp_X4_thrown u5 (fun r6 => (r6 = r1 → (¬ r1 = 0 → post u2.1 u2.2 u5) ∧ (r1 = 0 → jn (fun (x9 : Int64) => ((lg_cmp (u2.2 (Int32.toNatClampNeg (0 : Int32))) x9) = 0 → post u2.1 u2.2 u5) ∧ (¬ (lg_cmp (u2.2 (Int32.toNatClampNeg (0 : Int32))) x9) = 0 → False)) (fun (J10 : Int64 → Prop) => (r3 = 0 → J10 (0 : Int64)) ∧ (¬ r3 = 0 → J10 (1 : Int64))))) ∧ (¬ r6 = r1 → False))))
set_option maxHeartbeats 4000000 in
set_option maxRecDepth 100000 in
theorem c_law_11 {p : Program} {l : Launch} {e : Env} {s : State} {m : MethodId} {args : Array Value} {below : List Frame} {meth : Method} {c : Code} {Q : State → Prop} {A : Nat → Prop} {D : va_G} {cI cS cJ : ClassId} {G : Nat → Nat → Nat} {o : Nat} {bm : Nat → Nat} {b L cs ss : Nat} {xs : Nat → Int32} {i : Int32} {N : Ne} {O : Nat → Int64} {M : Md} {H : Heap} {locs : List Loc} {ls : Array Slot} (C : lwC p l s m args c A D cI cS cJ b L xs) (hi0 : vp_in i L) (hi1 : vp_in (i + 1) L) (hi2 : vp_in (i + 2) L) (hi3 : vp_in (i + 3) L) (hi4 : vp_in (i + 4) L) (hcs : cs + 2 ≤ 601024) (hss : ss + 12 ≤ 7293034) (hl : lv_has ls 9 [(0, .ref b), (1, .ref (G 2 0)), (2, .ref (bm 0)), (3, .ref o), (4, .int i)]) (hP : va_P D vwCl (lwW cI cS cJ G o bm (N, O, M)) H) (hD : va_D A (lwW cI cS cJ G o bm (N, O, M))) (hS : va_S A s.heap H locs) {post : Ne → (Nat → Int64) → Md → Prop} (h : wp_law_11 xs i N O M post)
    (cont : ∀ (d' : Drawn) (N : Ne) (O : Nat → Int64) (M : Md) (H : Heap) (locs : List Loc) (ls : Array Slot), s.drawn.sameBut d' lw_cs → lv_has ls 9 [(0, .ref b), (1, .ref (G 2 0)), (2, .ref (bm 0)), (3, .ref o), (4, .int i)] → va_P D vwCl (lwW cI cS cJ G o bm (N, O, M)) H → va_D A (lwW cI cS cJ G o bm (N, O, M)) → va_S A s.heap H locs → post N O M → W p l e room_1 (s.setDrawn d') m args below meth c H locs (cs + 2) (ss + 12) Q (F0 m 1874 ls [])) :
    W p l e room_1 s m args below meth c H locs cs ss Q (F0 m 871 ls []) := by
  obtain ⟨hst, FC, hK0, hV, hH, hX, hbl, hbA, hA⟩ := C
  have hx := FC.1
  have hb := FC.2.1
  have hown := FC.2.2.2.1
  have hts := FC.2.2.2.2
  have F := FC
  have hK := hK0
  unfold wp_law_11 at h
  refine lv_aload_n hx hb dL_law_871 rfl (lv_at hl 1 rfl) ?_
  refine lv_aload_n hx hb dL_law_872 rfl (lv_at hl 0 rfl) ?_
  refine lv_iload hx hb dL_law_873 (lv_at hl 4 rfl) ?_
  refine lv_iconst (v := (1 : Int32)) hx hb dL_law_875 (by decide) ?_
  refine lv_iadd hx hb dL_law_876 ?_
  refine va_sld hx hb hX hbl hbA hS hi1 dL_law_877 ?_
  refine lv_aload_n hx hb dL_law_878 rfl (lv_at hl 3 rfl) ?_
  refine rwHi (wr := mdW cI bm M) (As := [.ref (G 2 0), .int (xs (Int32.toNatClampNeg (i + (1 : Int32)))), .ref o]) (rest := []) lwH_f F (c_L_stands l hst D cI cS cJ G o (N, O) H.size (xs (Int32.toNatClampNeg (i + (1 : Int32)))) h) (cwH_stands hts (Nat.le_of_ble_eq_true rfl) (Nat.le_of_ble_eq_true rfl)) hK hV hH hP hD hS hA rfl hl.1 rfl (Nat.le_of_ble_eq_true rfl) dL_law_879 ⟨show cs + 1 ≤ 601024 by omega, show ss + 6 ≤ 7293034 by omega⟩ (fun r1 u2 H locs h hP hD hS => ?_)
  have hP : va_P D vwCl (lwW cI cS cJ G o bm (u2.1, u2.2, M)) H := vP_perm lwH_b hP
  have hD : va_D A (lwW cI cS cJ G o bm (u2.1, u2.2, M)) := vD_perm lwH_b hD
  refine lv_istore (lv' := [(5, .int r1), (0, .ref b), (1, .ref (G 2 0)), (2, .ref (bm 0)), (3, .ref o), (4, .int i)]) hx hb dL_law_882 hl (by decide) rfl (fun ls hl => ?_)
  refine lv_aload_n hx hb dL_law_884 rfl (lv_at hl 3 rfl) ?_
  refine lv_aload_n hx hb dL_law_885 rfl (lv_at hl 1 rfl) ?_
  refine lv_iload hx hb dL_law_886 (lv_at hl 5 rfl) ?_
  refine lv_iconst (v := (1 : Int32)) hx hb dL_law_888 (by decide) ?_
  refine lv_iadd hx hb dL_law_889 ?_
  refine va_sld hx hb hX hbl hbA hS hi1 dL_law_890 ?_
  refine rwVi (wr := lwMr cI cS cJ G o (u2.1, u2.2)) (As := [.int (xs (Int32.toNatClampNeg (i + (1 : Int32))))]) (rest := []) lwM_f F (c_X4_stands l D cI cS cJ bm M H.size (xs (Int32.toNatClampNeg (i + (1 : Int32)))) h) (cw_L_147 hts (Nat.le_of_ble_eq_true rfl) (Nat.le_of_ble_eq_true rfl)) hK hP hD hS hA (recv (ci := 4) (k0 := 69) hK hP rfl rfl) rfl hl.1 rfl (Nat.le_of_ble_eq_true rfl) dL_law_891 ⟨show (cs + 1) + 0 ≤ 601024 by omega, show (ss + 6) + 0 ≤ 7293034 by omega⟩ (fun r3 u5 H locs h hP hD hS => ?_)
  obtain ⟨b4, h⟩ := h
  have hP : va_P D vwCl (lwW cI cS cJ G o bm (u2.1, u2.2, u5)) H := vP_perm (lwM_b u5) hP
  have hD : va_D A (lwW cI cS cJ G o bm (u2.1, u2.2, u5)) := vD_perm (lwM_b u5) hD
  refine lv_istore (lv' := [(6, .int r3), (5, .int r1), (0, .ref b), (1, .ref (G 2 0)), (2, .ref (bm 0)), (3, .ref o), (4, .int i)]) hx hb dL_law_894 hl (by decide) rfl (fun ls hl => ?_)
  refine lv_aload_n hx hb dL_law_896 rfl (lv_at hl 4 rfl) ?_
  refine roVi (As := []) (rest := []) F (c_X4_thrown l D cI cS cJ bm u5 H  h) (cw_L_107 hts (Nat.le_of_ble_eq_true rfl) (Nat.le_of_ble_eq_true rfl)) hK (vP_L (vP_perm lwM_f hP)) (recv (ci := 4) (k0 := 69) hK hP rfl rfl) rfl hl.1 rfl (Nat.le_of_ble_eq_true rfl) dL_law_897 ⟨show ((cs + 1) + 0) + 0 ≤ 601024 by omega, show ((ss + 6) + 0) + 0 ≤ 7293034 by omega⟩ (fun r6 h => ?_)
  refine lv_iload hx hb dL_law_900 (lv_at hl 1 rfl) ?_
  refine lv_icmp_eq (tgt := 907) hx hb dL_law_902 (by decide) (fun c7 => ?_) (fun c7 => ?_)
  · replace h := h.1 c7
    refine lv_iload hx hb dL_law_907 (lv_at hl 1 rfl) ?_
    refine lv_if_ne (tgt := 931) hx hb dL_law_909 (by decide) (fun c8 => ?_) (fun c8 => ?_)
    · replace h := h.1 c8
      refine lv_goto (tgt := 1874) hx hb dL_law_931 (by decide) ?_
      refine W.widen (k := cs + 2) (n := ss + 12) (by omega) (by omega) ?_
      exact cont s.drawn _ _ _ _ _ _ (Drawn.sameBut.refl _ _) (lv_sub hl [2, 3, 4, 5, 6] rfl) hP hD hS h
    · replace h := h.2 c8
      refine lv_aload_n hx hb dL_law_912 rfl (lv_at hl 5 rfl) ?_
      refine lv_iconst (v := (0 : Int32)) hx hb dL_law_913 (by decide) ?_
      refine va_lald hx hb hK.k hP 0 2 rfl rfl in01 dL_law_914 ?_
      refine lv_iload hx hb dL_law_915 (lv_at hl 0 rfl) ?_
      refine jn_e h (fun J10 e12 h => ?_)
      have w11 : ∀ (x9 : Int64) (ls : Array Slot) (H : Heap) (locs : List Loc), lv_has ls 9 [(0, .ref b), (1, .ref (G 2 0)), (2, .ref (bm 0)), (3, .ref o), (4, .int i)] → va_P D vwCl (lwW cI cS cJ G o bm (u2.1, u2.2, u5)) H → va_D A (lwW cI cS cJ G o bm (u2.1, u2.2, u5)) → va_S A s.heap H locs → J10 x9 → W p l e room_1 s m args below meth c H locs ((cs + 1) + 0) ((ss + 6) + 0) Q (F0 m 925 ls [.long x9, .long (u2.2 (Int32.toNatClampNeg (0 : Int32)))]) := by
        intro x9 ls H locs hl hP hD hS h
        subst e12
        refine W.lcmp hx hb dL_law_925 ?_
        refine lv_if_eq (tgt := 931) hx hb dL_law_926 (by decide) (fun c13 => ?_) (fun c13 => ?_)
        · replace h := h.1 c13
          refine lv_goto (tgt := 1874) hx hb dL_law_931 (by decide) ?_
          refine W.widen (k := cs + 2) (n := ss + 12) (by omega) (by omega) ?_
          exact cont s.drawn _ _ _ _ _ _ (Drawn.sameBut.refl _ _) (lv_sub hl [0, 1, 2, 3, 4] rfl) hP hD hS h
        · replace h := h.2 c13
          refine lv_iconst (v := (0 : Int32)) hx hb dL_law_929 (by decide) ?_
          exact h.elim
      clear e12
      refine lv_if_eq (tgt := 924) hx hb dL_law_917 (by decide) (fun c14 => ?_) (fun c14 => ?_)
      · replace h := h.1 c14
        refine lv_lconst (v := (0 : Int64)) hx hb dL_law_924 rfl ?_
        exact w11 (0 : Int64) _ _ _ (lv_sub hl [2, 3, 4, 5, 6] rfl) hP hD hS h
      · replace h := h.2 c14
        refine lv_lconst (v := (1 : Int64)) hx hb dL_law_920 rfl ?_
        refine lv_goto (tgt := 925) hx hb dL_law_921 (by decide) ?_
        exact w11 (1 : Int64) _ _ _ (lv_sub hl [2, 3, 4, 5, 6] rfl) hP hD hS h
  · replace h := h.2 c7
    refine lv_iconst (v := (0 : Int32)) hx hb dL_law_905 (by decide) ?_
    exact h.elim

def wp_law_12 (xs : Nat → Int32) (i : Int32) (N : Ne) (O : Nat → Int64) (M : Md) (post : Ne → (Nat → Int64) → Md → Prop) : Prop :=
  wp_L_see (N, O) (xs (Int32.toNatClampNeg (i + (1 : Int32)))) (xs (Int32.toNatClampNeg (i + (2 : Int32)))) (xs (Int32.toNatClampNeg (i + (3 : Int32)))) (fun r1 u2 => wp_X4_see M (xs (Int32.toNatClampNeg (i + (1 : Int32)))) (xs (Int32.toNatClampNeg (i + (2 : Int32)))) (xs (Int32.toNatClampNeg (i + (3 : Int32)))) (fun r3 u4 => wp_X4_thrown u4 (fun r5 => (r5 = r1 → (¬ r1 = 0 → post u2.1 u2.2 u4) ∧ (r1 = 0 → ((lg_cmp (u2.2 (Int32.toNatClampNeg (0 : Int32))) (Int32.toInt64 r3)) = 0 → post u2.1 u2.2 u4) ∧ (¬ (lg_cmp (u2.2 (Int32.toNatClampNeg (0 : Int32))) (Int32.toInt64 r3)) = 0 → False))) ∧ (¬ r5 = r1 → False))))
set_option maxHeartbeats 4000000 in
set_option maxRecDepth 100000 in
theorem c_law_12 {p : Program} {l : Launch} {e : Env} {s : State} {m : MethodId} {args : Array Value} {below : List Frame} {meth : Method} {c : Code} {Q : State → Prop} {A : Nat → Prop} {D : va_G} {cI cS cJ : ClassId} {G : Nat → Nat → Nat} {o : Nat} {bm : Nat → Nat} {b L cs ss : Nat} {xs : Nat → Int32} {i : Int32} {N : Ne} {O : Nat → Int64} {M : Md} {H : Heap} {locs : List Loc} {ls : Array Slot} (C : lwC p l s m args c A D cI cS cJ b L xs) (hi0 : vp_in i L) (hi1 : vp_in (i + 1) L) (hi2 : vp_in (i + 2) L) (hi3 : vp_in (i + 3) L) (hi4 : vp_in (i + 4) L) (hcs : cs + 2 ≤ 601024) (hss : ss + 12 ≤ 7293034) (hl : lv_has ls 9 [(0, .ref b), (1, .ref (G 2 0)), (2, .ref (bm 0)), (3, .ref o), (4, .int i)]) (hP : va_P D vwCl (lwW cI cS cJ G o bm (N, O, M)) H) (hD : va_D A (lwW cI cS cJ G o bm (N, O, M))) (hS : va_S A s.heap H locs) {post : Ne → (Nat → Int64) → Md → Prop} (h : wp_law_12 xs i N O M post)
    (cont : ∀ (d' : Drawn) (N : Ne) (O : Nat → Int64) (M : Md) (H : Heap) (locs : List Loc) (ls : Array Slot), s.drawn.sameBut d' lw_cs → lv_has ls 9 [(0, .ref b), (1, .ref (G 2 0)), (2, .ref (bm 0)), (3, .ref o), (4, .int i)] → va_P D vwCl (lwW cI cS cJ G o bm (N, O, M)) H → va_D A (lwW cI cS cJ G o bm (N, O, M)) → va_S A s.heap H locs → post N O M → W p l e room_1 (s.setDrawn d') m args below meth c H locs (cs + 2) (ss + 12) Q (F0 m 1874 ls [])) :
    W p l e room_1 s m args below meth c H locs cs ss Q (F0 m 934 ls []) := by
  obtain ⟨hst, FC, hK0, hV, hH, hX, hbl, hbA, hA⟩ := C
  have hx := FC.1
  have hb := FC.2.1
  have hown := FC.2.2.2.1
  have hts := FC.2.2.2.2
  have F := FC
  have hK := hK0
  unfold wp_law_12 at h
  refine lv_aload_n hx hb dL_law_934 rfl (lv_at hl 1 rfl) ?_
  refine lv_aload_n hx hb dL_law_935 rfl (lv_at hl 0 rfl) ?_
  refine lv_iload hx hb dL_law_936 (lv_at hl 4 rfl) ?_
  refine lv_iconst (v := (1 : Int32)) hx hb dL_law_938 (by decide) ?_
  refine lv_iadd hx hb dL_law_939 ?_
  refine va_sld hx hb hX hbl hbA hS hi1 dL_law_940 ?_
  refine lv_aload_n hx hb dL_law_941 rfl (lv_at hl 0 rfl) ?_
  refine lv_iload hx hb dL_law_942 (lv_at hl 4 rfl) ?_
  refine lv_iconst (v := (2 : Int32)) hx hb dL_law_944 (by decide) ?_
  refine lv_iadd hx hb dL_law_945 ?_
  refine va_sld hx hb hX hbl hbA hS hi2 dL_law_946 ?_
  refine lv_aload_n hx hb dL_law_947 rfl (lv_at hl 0 rfl) ?_
  refine lv_iload hx hb dL_law_948 (lv_at hl 4 rfl) ?_
  refine lv_iconst (v := (3 : Int32)) hx hb dL_law_950 (by decide) ?_
  refine lv_iadd hx hb dL_law_951 ?_
  refine va_sld hx hb hX hbl hbA hS hi3 dL_law_952 ?_
  refine lv_aload_n hx hb dL_law_953 rfl (lv_at hl 3 rfl) ?_
  refine rwHi (wr := mdW cI bm M) (As := [.ref (G 2 0), .int (xs (Int32.toNatClampNeg (i + (1 : Int32)))), .int (xs (Int32.toNatClampNeg (i + (2 : Int32)))), .int (xs (Int32.toNatClampNeg (i + (3 : Int32)))), .ref o]) (rest := []) lwH_f F (c_L_see l hst D cI cS cJ G o (N, O) H.size (xs (Int32.toNatClampNeg (i + (1 : Int32)))) (xs (Int32.toNatClampNeg (i + (2 : Int32)))) (xs (Int32.toNatClampNeg (i + (3 : Int32)))) h) (cwH_see hts (Nat.le_of_ble_eq_true rfl) (Nat.le_of_ble_eq_true rfl)) hK hV hH hP hD hS hA rfl hl.1 rfl (Nat.le_of_ble_eq_true rfl) dL_law_954 ⟨show cs + 2 ≤ 601024 by omega, show ss + 12 ≤ 7293034 by omega⟩ (fun r1 u2 H locs h hP hD hS => ?_)
  have hP : va_P D vwCl (lwW cI cS cJ G o bm (u2.1, u2.2, M)) H := vP_perm lwH_b hP
  have hD : va_D A (lwW cI cS cJ G o bm (u2.1, u2.2, M)) := vD_perm lwH_b hD
  refine lv_istore (lv' := [(5, .int r1), (0, .ref b), (1, .ref (G 2 0)), (2, .ref (bm 0)), (3, .ref o), (4, .int i)]) hx hb dL_law_957 hl (by decide) rfl (fun ls hl => ?_)
  refine lv_aload_n hx hb dL_law_959 rfl (lv_at hl 3 rfl) ?_
  refine lv_aload_n hx hb dL_law_960 rfl (lv_at hl 1 rfl) ?_
  refine lv_iload hx hb dL_law_961 (lv_at hl 5 rfl) ?_
  refine lv_iconst (v := (1 : Int32)) hx hb dL_law_963 (by decide) ?_
  refine lv_iadd hx hb dL_law_964 ?_
  refine va_sld hx hb hX hbl hbA hS hi1 dL_law_965 ?_
  refine lv_aload_n hx hb dL_law_966 rfl (lv_at hl 1 rfl) ?_
  refine lv_iload hx hb dL_law_967 (lv_at hl 5 rfl) ?_
  refine lv_iconst (v := (2 : Int32)) hx hb dL_law_969 (by decide) ?_
  refine lv_iadd hx hb dL_law_970 ?_
  refine va_sld hx hb hX hbl hbA hS hi2 dL_law_971 ?_
  refine lv_aload_n hx hb dL_law_972 rfl (lv_at hl 1 rfl) ?_
  refine lv_iload hx hb dL_law_973 (lv_at hl 5 rfl) ?_
  refine lv_iconst (v := (3 : Int32)) hx hb dL_law_975 (by decide) ?_
  refine lv_iadd hx hb dL_law_976 ?_
  refine va_sld hx hb hX hbl hbA hS hi3 dL_law_977 ?_
  refine rwVi (wr := lwMr cI cS cJ G o (u2.1, u2.2)) (As := [.int (xs (Int32.toNatClampNeg (i + (1 : Int32)))), .int (xs (Int32.toNatClampNeg (i + (2 : Int32)))), .int (xs (Int32.toNatClampNeg (i + (3 : Int32))))]) (rest := []) lwM_f F (c_X4_see l D cI cS cJ bm M H.size (xs (Int32.toNatClampNeg (i + (1 : Int32)))) (xs (Int32.toNatClampNeg (i + (2 : Int32)))) (xs (Int32.toNatClampNeg (i + (3 : Int32)))) h) (cw_L_151 hts (Nat.le_of_ble_eq_true rfl) (Nat.le_of_ble_eq_true rfl)) hK hP hD hS hA (recv (ci := 4) (k0 := 69) hK hP rfl rfl) rfl hl.1 rfl (Nat.le_of_ble_eq_true rfl) dL_law_978 ⟨show (cs + 2) + 0 ≤ 601024 by omega, show (ss + 12) + 0 ≤ 7293034 by omega⟩ (fun r3 u4 H locs h hP hD hS => ?_)
  have hP : va_P D vwCl (lwW cI cS cJ G o bm (u2.1, u2.2, u4)) H := vP_perm (lwM_b u4) hP
  have hD : va_D A (lwW cI cS cJ G o bm (u2.1, u2.2, u4)) := vD_perm (lwM_b u4) hD
  refine lv_istore (lv' := [(6, .int r3), (5, .int r1), (0, .ref b), (1, .ref (G 2 0)), (2, .ref (bm 0)), (3, .ref o), (4, .int i)]) hx hb dL_law_981 hl (by decide) rfl (fun ls hl => ?_)
  refine lv_aload_n hx hb dL_law_983 rfl (lv_at hl 4 rfl) ?_
  refine roVi (As := []) (rest := []) F (c_X4_thrown l D cI cS cJ bm u4 H  h) (cw_L_107 hts (Nat.le_of_ble_eq_true rfl) (Nat.le_of_ble_eq_true rfl)) hK (vP_L (vP_perm lwM_f hP)) (recv (ci := 4) (k0 := 69) hK hP rfl rfl) rfl hl.1 rfl (Nat.le_of_ble_eq_true rfl) dL_law_984 ⟨show ((cs + 2) + 0) + 0 ≤ 601024 by omega, show ((ss + 12) + 0) + 0 ≤ 7293034 by omega⟩ (fun r5 h => ?_)
  refine lv_iload hx hb dL_law_987 (lv_at hl 1 rfl) ?_
  refine lv_icmp_eq (tgt := 994) hx hb dL_law_989 (by decide) (fun c6 => ?_) (fun c6 => ?_)
  · replace h := h.1 c6
    refine lv_iload hx hb dL_law_994 (lv_at hl 1 rfl) ?_
    refine lv_if_ne (tgt := 1011) hx hb dL_law_996 (by decide) (fun c7 => ?_) (fun c7 => ?_)
    · replace h := h.1 c7
      refine lv_goto (tgt := 1874) hx hb dL_law_1011 (by decide) ?_
      refine W.widen (k := cs + 2) (n := ss + 12) (by omega) (by omega) ?_
      exact cont s.drawn _ _ _ _ _ _ (Drawn.sameBut.refl _ _) (lv_sub hl [2, 3, 4, 5, 6] rfl) hP hD hS h
    · replace h := h.2 c7
      refine lv_aload_n hx hb dL_law_999 rfl (lv_at hl 5 rfl) ?_
      refine lv_iconst (v := (0 : Int32)) hx hb dL_law_1000 (by decide) ?_
      refine va_lald hx hb hK.k hP 0 2 rfl rfl in01 dL_law_1001 ?_
      refine lv_iload hx hb dL_law_1002 (lv_at hl 0 rfl) ?_
      refine lv_i2l (v := (Int32.toInt64 r3)) hx hb dL_law_1004 rfl ?_
      refine W.lcmp hx hb dL_law_1005 ?_
      refine lv_if_eq (tgt := 1011) hx hb dL_law_1006 (by decide) (fun c8 => ?_) (fun c8 => ?_)
      · replace h := h.1 c8
        refine lv_goto (tgt := 1874) hx hb dL_law_1011 (by decide) ?_
        refine W.widen (k := cs + 2) (n := ss + 12) (by omega) (by omega) ?_
        exact cont s.drawn _ _ _ _ _ _ (Drawn.sameBut.refl _ _) (lv_sub hl [2, 3, 4, 5, 6] rfl) hP hD hS h
      · replace h := h.2 c8
        refine lv_iconst (v := (0 : Int32)) hx hb dL_law_1009 (by decide) ?_
        exact h.elim
  · replace h := h.2 c6
    refine lv_iconst (v := (0 : Int32)) hx hb dL_law_992 (by decide) ?_
    exact h.elim

def wp_law_13 (xs : Nat → Int32) (i : Int32) (N : Ne) (O : Nat → Int64) (M : Md) (post : Ne → (Nat → Int64) → Md → Prop) : Prop :=
  wp_L_known (N, O) (xs (Int32.toNatClampNeg (i + (1 : Int32)))) (fun r1 u2 => wp_X4_known M (xs (Int32.toNatClampNeg (i + (1 : Int32)))) (fun r3 u4 => wp_X4_thrown u4 (fun r5 => (r5 = r1 → (¬ r1 = 0 → post u2.1 u2.2 u4) ∧ (r1 = 0 → ((lg_cmp (u2.2 (Int32.toNatClampNeg (0 : Int32))) (Int32.toInt64 r3)) = 0 → post u2.1 u2.2 u4) ∧ (¬ (lg_cmp (u2.2 (Int32.toNatClampNeg (0 : Int32))) (Int32.toInt64 r3)) = 0 → False))) ∧ (¬ r5 = r1 → False))))
set_option maxHeartbeats 4000000 in
set_option maxRecDepth 100000 in
theorem c_law_13 {p : Program} {l : Launch} {e : Env} {s : State} {m : MethodId} {args : Array Value} {below : List Frame} {meth : Method} {c : Code} {Q : State → Prop} {A : Nat → Prop} {D : va_G} {cI cS cJ : ClassId} {G : Nat → Nat → Nat} {o : Nat} {bm : Nat → Nat} {b L cs ss : Nat} {xs : Nat → Int32} {i : Int32} {N : Ne} {O : Nat → Int64} {M : Md} {H : Heap} {locs : List Loc} {ls : Array Slot} (C : lwC p l s m args c A D cI cS cJ b L xs) (hi0 : vp_in i L) (hi1 : vp_in (i + 1) L) (hi2 : vp_in (i + 2) L) (hi3 : vp_in (i + 3) L) (hi4 : vp_in (i + 4) L) (hcs : cs + 2 ≤ 601024) (hss : ss + 12 ≤ 7293034) (hl : lv_has ls 9 [(0, .ref b), (1, .ref (G 2 0)), (2, .ref (bm 0)), (3, .ref o), (4, .int i)]) (hP : va_P D vwCl (lwW cI cS cJ G o bm (N, O, M)) H) (hD : va_D A (lwW cI cS cJ G o bm (N, O, M))) (hS : va_S A s.heap H locs) {post : Ne → (Nat → Int64) → Md → Prop} (h : wp_law_13 xs i N O M post)
    (cont : ∀ (d' : Drawn) (N : Ne) (O : Nat → Int64) (M : Md) (H : Heap) (locs : List Loc) (ls : Array Slot), s.drawn.sameBut d' lw_cs → lv_has ls 9 [(0, .ref b), (1, .ref (G 2 0)), (2, .ref (bm 0)), (3, .ref o), (4, .int i)] → va_P D vwCl (lwW cI cS cJ G o bm (N, O, M)) H → va_D A (lwW cI cS cJ G o bm (N, O, M)) → va_S A s.heap H locs → post N O M → W p l e room_1 (s.setDrawn d') m args below meth c H locs (cs + 2) (ss + 12) Q (F0 m 1874 ls [])) :
    W p l e room_1 s m args below meth c H locs cs ss Q (F0 m 1014 ls []) := by
  obtain ⟨hst, FC, hK0, hV, hH, hX, hbl, hbA, hA⟩ := C
  have hx := FC.1
  have hb := FC.2.1
  have hown := FC.2.2.2.1
  have hts := FC.2.2.2.2
  have F := FC
  have hK := hK0
  unfold wp_law_13 at h
  refine lv_aload_n hx hb dL_law_1014 rfl (lv_at hl 1 rfl) ?_
  refine lv_aload_n hx hb dL_law_1015 rfl (lv_at hl 0 rfl) ?_
  refine lv_iload hx hb dL_law_1016 (lv_at hl 4 rfl) ?_
  refine lv_iconst (v := (1 : Int32)) hx hb dL_law_1018 (by decide) ?_
  refine lv_iadd hx hb dL_law_1019 ?_
  refine va_sld hx hb hX hbl hbA hS hi1 dL_law_1020 ?_
  refine lv_aload_n hx hb dL_law_1021 rfl (lv_at hl 3 rfl) ?_
  refine rwHi (wr := mdW cI bm M) (As := [.ref (G 2 0), .int (xs (Int32.toNatClampNeg (i + (1 : Int32)))), .ref o]) (rest := []) lwH_f F (c_L_known l hst D cI cS cJ G o (N, O) H.size (xs (Int32.toNatClampNeg (i + (1 : Int32)))) h) (cwH_known hts (Nat.le_of_ble_eq_true rfl) (Nat.le_of_ble_eq_true rfl)) hK hV hH hP hD hS hA rfl hl.1 rfl (Nat.le_of_ble_eq_true rfl) dL_law_1022 ⟨show cs + 1 ≤ 601024 by omega, show ss + 6 ≤ 7293034 by omega⟩ (fun r1 u2 H locs h hP hD hS => ?_)
  have hP : va_P D vwCl (lwW cI cS cJ G o bm (u2.1, u2.2, M)) H := vP_perm lwH_b hP
  have hD : va_D A (lwW cI cS cJ G o bm (u2.1, u2.2, M)) := vD_perm lwH_b hD
  refine lv_istore (lv' := [(5, .int r1), (0, .ref b), (1, .ref (G 2 0)), (2, .ref (bm 0)), (3, .ref o), (4, .int i)]) hx hb dL_law_1025 hl (by decide) rfl (fun ls hl => ?_)
  refine lv_aload_n hx hb dL_law_1027 rfl (lv_at hl 3 rfl) ?_
  refine lv_aload_n hx hb dL_law_1028 rfl (lv_at hl 1 rfl) ?_
  refine lv_iload hx hb dL_law_1029 (lv_at hl 5 rfl) ?_
  refine lv_iconst (v := (1 : Int32)) hx hb dL_law_1031 (by decide) ?_
  refine lv_iadd hx hb dL_law_1032 ?_
  refine va_sld hx hb hX hbl hbA hS hi1 dL_law_1033 ?_
  refine rwVi (wr := lwMr cI cS cJ G o (u2.1, u2.2)) (As := [.int (xs (Int32.toNatClampNeg (i + (1 : Int32))))]) (rest := []) lwM_f F (c_X4_known l D cI cS cJ bm M H.size (xs (Int32.toNatClampNeg (i + (1 : Int32)))) h) (cw_L_154 hts (Nat.le_of_ble_eq_true rfl) (Nat.le_of_ble_eq_true rfl)) hK hP hD hS hA (recv (ci := 4) (k0 := 69) hK hP rfl rfl) rfl hl.1 rfl (Nat.le_of_ble_eq_true rfl) dL_law_1034 ⟨show (cs + 1) + 0 ≤ 601024 by omega, show (ss + 6) + 0 ≤ 7293034 by omega⟩ (fun r3 u4 H locs h hP hD hS => ?_)
  have hP : va_P D vwCl (lwW cI cS cJ G o bm (u2.1, u2.2, u4)) H := vP_perm (lwM_b u4) hP
  have hD : va_D A (lwW cI cS cJ G o bm (u2.1, u2.2, u4)) := vD_perm (lwM_b u4) hD
  refine lv_istore (lv' := [(6, .int r3), (5, .int r1), (0, .ref b), (1, .ref (G 2 0)), (2, .ref (bm 0)), (3, .ref o), (4, .int i)]) hx hb dL_law_1037 hl (by decide) rfl (fun ls hl => ?_)
  refine lv_aload_n hx hb dL_law_1039 rfl (lv_at hl 4 rfl) ?_
  refine roVi (As := []) (rest := []) F (c_X4_thrown l D cI cS cJ bm u4 H  h) (cw_L_107 hts (Nat.le_of_ble_eq_true rfl) (Nat.le_of_ble_eq_true rfl)) hK (vP_L (vP_perm lwM_f hP)) (recv (ci := 4) (k0 := 69) hK hP rfl rfl) rfl hl.1 rfl (Nat.le_of_ble_eq_true rfl) dL_law_1040 ⟨show ((cs + 1) + 0) + 0 ≤ 601024 by omega, show ((ss + 6) + 0) + 0 ≤ 7293034 by omega⟩ (fun r5 h => ?_)
  refine lv_iload hx hb dL_law_1043 (lv_at hl 1 rfl) ?_
  refine lv_icmp_eq (tgt := 1050) hx hb dL_law_1045 (by decide) (fun c6 => ?_) (fun c6 => ?_)
  · replace h := h.1 c6
    refine lv_iload hx hb dL_law_1050 (lv_at hl 1 rfl) ?_
    refine lv_if_ne (tgt := 1067) hx hb dL_law_1052 (by decide) (fun c7 => ?_) (fun c7 => ?_)
    · replace h := h.1 c7
      refine lv_goto (tgt := 1874) hx hb dL_law_1067 (by decide) ?_
      refine W.widen (k := cs + 2) (n := ss + 12) (by omega) (by omega) ?_
      exact cont s.drawn _ _ _ _ _ _ (Drawn.sameBut.refl _ _) (lv_sub hl [2, 3, 4, 5, 6] rfl) hP hD hS h
    · replace h := h.2 c7
      refine lv_aload_n hx hb dL_law_1055 rfl (lv_at hl 5 rfl) ?_
      refine lv_iconst (v := (0 : Int32)) hx hb dL_law_1056 (by decide) ?_
      refine va_lald hx hb hK.k hP 0 2 rfl rfl in01 dL_law_1057 ?_
      refine lv_iload hx hb dL_law_1058 (lv_at hl 0 rfl) ?_
      refine lv_i2l (v := (Int32.toInt64 r3)) hx hb dL_law_1060 rfl ?_
      refine W.lcmp hx hb dL_law_1061 ?_
      refine lv_if_eq (tgt := 1067) hx hb dL_law_1062 (by decide) (fun c8 => ?_) (fun c8 => ?_)
      · replace h := h.1 c8
        refine lv_goto (tgt := 1874) hx hb dL_law_1067 (by decide) ?_
        refine W.widen (k := cs + 2) (n := ss + 12) (by omega) (by omega) ?_
        exact cont s.drawn _ _ _ _ _ _ (Drawn.sameBut.refl _ _) (lv_sub hl [2, 3, 4, 5, 6] rfl) hP hD hS h
      · replace h := h.2 c8
        refine lv_iconst (v := (0 : Int32)) hx hb dL_law_1065 (by decide) ?_
        exact h.elim
  · replace h := h.2 c6
    refine lv_iconst (v := (0 : Int32)) hx hb dL_law_1048 (by decide) ?_
    exact h.elim

def wp_law_14 (xs : Nat → Int32) (i : Int32) (N : Ne) (O : Nat → Int64) (M : Md) (post : Ne → (Nat → Int64) → Md → Prop) : Prop :=
  wp_L_send (N, O) (xs (Int32.toNatClampNeg (i + (1 : Int32)))) (xs (Int32.toNatClampNeg (i + (2 : Int32)))) (fun r1 u2 => wp_X4_send M (xs (Int32.toNatClampNeg (i + (1 : Int32)))) (xs (Int32.toNatClampNeg (i + (2 : Int32)))) (fun r3 u4 => wp_X4_thrown u4 (fun r5 => (r5 = r1 → (¬ r1 = 0 → post u2.1 u2.2 u4) ∧ (r1 = 0 → ((lg_cmp (u2.2 (Int32.toNatClampNeg (0 : Int32))) (Int32.toInt64 r3)) = 0 → post u2.1 u2.2 u4) ∧ (¬ (lg_cmp (u2.2 (Int32.toNatClampNeg (0 : Int32))) (Int32.toInt64 r3)) = 0 → False))) ∧ (¬ r5 = r1 → False))))
set_option maxHeartbeats 4000000 in
set_option maxRecDepth 100000 in
theorem c_law_14 {p : Program} {l : Launch} {e : Env} {s : State} {m : MethodId} {args : Array Value} {below : List Frame} {meth : Method} {c : Code} {Q : State → Prop} {A : Nat → Prop} {D : va_G} {cI cS cJ : ClassId} {G : Nat → Nat → Nat} {o : Nat} {bm : Nat → Nat} {b L cs ss : Nat} {xs : Nat → Int32} {i : Int32} {N : Ne} {O : Nat → Int64} {M : Md} {H : Heap} {locs : List Loc} {ls : Array Slot} (C : lwC p l s m args c A D cI cS cJ b L xs) (hi0 : vp_in i L) (hi1 : vp_in (i + 1) L) (hi2 : vp_in (i + 2) L) (hi3 : vp_in (i + 3) L) (hi4 : vp_in (i + 4) L) (hcs : cs + 2 ≤ 601024) (hss : ss + 12 ≤ 7293034) (hl : lv_has ls 9 [(0, .ref b), (1, .ref (G 2 0)), (2, .ref (bm 0)), (3, .ref o), (4, .int i)]) (hP : va_P D vwCl (lwW cI cS cJ G o bm (N, O, M)) H) (hD : va_D A (lwW cI cS cJ G o bm (N, O, M))) (hS : va_S A s.heap H locs) {post : Ne → (Nat → Int64) → Md → Prop} (h : wp_law_14 xs i N O M post)
    (cont : ∀ (d' : Drawn) (N : Ne) (O : Nat → Int64) (M : Md) (H : Heap) (locs : List Loc) (ls : Array Slot), s.drawn.sameBut d' lw_cs → lv_has ls 9 [(0, .ref b), (1, .ref (G 2 0)), (2, .ref (bm 0)), (3, .ref o), (4, .int i)] → va_P D vwCl (lwW cI cS cJ G o bm (N, O, M)) H → va_D A (lwW cI cS cJ G o bm (N, O, M)) → va_S A s.heap H locs → post N O M → W p l e room_1 (s.setDrawn d') m args below meth c H locs (cs + 2) (ss + 12) Q (F0 m 1874 ls [])) :
    W p l e room_1 s m args below meth c H locs cs ss Q (F0 m 1070 ls []) := by
  obtain ⟨hst, FC, hK0, hV, hH, hX, hbl, hbA, hA⟩ := C
  have hx := FC.1
  have hb := FC.2.1
  have hown := FC.2.2.2.1
  have hts := FC.2.2.2.2
  have F := FC
  have hK := hK0
  unfold wp_law_14 at h
  refine lv_aload_n hx hb dL_law_1070 rfl (lv_at hl 1 rfl) ?_
  refine lv_aload_n hx hb dL_law_1071 rfl (lv_at hl 0 rfl) ?_
  refine lv_iload hx hb dL_law_1072 (lv_at hl 4 rfl) ?_
  refine lv_iconst (v := (1 : Int32)) hx hb dL_law_1074 (by decide) ?_
  refine lv_iadd hx hb dL_law_1075 ?_
  refine va_sld hx hb hX hbl hbA hS hi1 dL_law_1076 ?_
  refine lv_aload_n hx hb dL_law_1077 rfl (lv_at hl 0 rfl) ?_
  refine lv_iload hx hb dL_law_1078 (lv_at hl 4 rfl) ?_
  refine lv_iconst (v := (2 : Int32)) hx hb dL_law_1080 (by decide) ?_
  refine lv_iadd hx hb dL_law_1081 ?_
  refine va_sld hx hb hX hbl hbA hS hi2 dL_law_1082 ?_
  refine lv_aload_n hx hb dL_law_1083 rfl (lv_at hl 3 rfl) ?_
  refine rwHi (wr := mdW cI bm M) (As := [.ref (G 2 0), .int (xs (Int32.toNatClampNeg (i + (1 : Int32)))), .int (xs (Int32.toNatClampNeg (i + (2 : Int32)))), .ref o]) (rest := []) lwH_f F (c_L_send l hst D cI cS cJ G o (N, O) H.size (xs (Int32.toNatClampNeg (i + (1 : Int32)))) (xs (Int32.toNatClampNeg (i + (2 : Int32)))) h) (cwH_send hts (Nat.le_of_ble_eq_true rfl) (Nat.le_of_ble_eq_true rfl)) hK hV hH hP hD hS hA rfl hl.1 rfl (Nat.le_of_ble_eq_true rfl) dL_law_1084 ⟨show cs + 1 ≤ 601024 by omega, show ss + 6 ≤ 7293034 by omega⟩ (fun r1 u2 H locs h hP hD hS => ?_)
  have hP : va_P D vwCl (lwW cI cS cJ G o bm (u2.1, u2.2, M)) H := vP_perm lwH_b hP
  have hD : va_D A (lwW cI cS cJ G o bm (u2.1, u2.2, M)) := vD_perm lwH_b hD
  refine lv_istore (lv' := [(5, .int r1), (0, .ref b), (1, .ref (G 2 0)), (2, .ref (bm 0)), (3, .ref o), (4, .int i)]) hx hb dL_law_1087 hl (by decide) rfl (fun ls hl => ?_)
  refine lv_aload_n hx hb dL_law_1089 rfl (lv_at hl 3 rfl) ?_
  refine lv_aload_n hx hb dL_law_1090 rfl (lv_at hl 1 rfl) ?_
  refine lv_iload hx hb dL_law_1091 (lv_at hl 5 rfl) ?_
  refine lv_iconst (v := (1 : Int32)) hx hb dL_law_1093 (by decide) ?_
  refine lv_iadd hx hb dL_law_1094 ?_
  refine va_sld hx hb hX hbl hbA hS hi1 dL_law_1095 ?_
  refine lv_aload_n hx hb dL_law_1096 rfl (lv_at hl 1 rfl) ?_
  refine lv_iload hx hb dL_law_1097 (lv_at hl 5 rfl) ?_
  refine lv_iconst (v := (2 : Int32)) hx hb dL_law_1099 (by decide) ?_
  refine lv_iadd hx hb dL_law_1100 ?_
  refine va_sld hx hb hX hbl hbA hS hi2 dL_law_1101 ?_
  refine rwVi (wr := lwMr cI cS cJ G o (u2.1, u2.2)) (As := [.int (xs (Int32.toNatClampNeg (i + (1 : Int32)))), .int (xs (Int32.toNatClampNeg (i + (2 : Int32))))]) (rest := []) lwM_f F (c_X4_send l D cI cS cJ bm M H.size (xs (Int32.toNatClampNeg (i + (1 : Int32)))) (xs (Int32.toNatClampNeg (i + (2 : Int32)))) h) (cw_L_157 hts (Nat.le_of_ble_eq_true rfl) (Nat.le_of_ble_eq_true rfl)) hK hP hD hS hA (recv (ci := 4) (k0 := 69) hK hP rfl rfl) rfl hl.1 rfl (Nat.le_of_ble_eq_true rfl) dL_law_1102 ⟨show (cs + 1) + 0 ≤ 601024 by omega, show (ss + 6) + 0 ≤ 7293034 by omega⟩ (fun r3 u4 H locs h hP hD hS => ?_)
  have hP : va_P D vwCl (lwW cI cS cJ G o bm (u2.1, u2.2, u4)) H := vP_perm (lwM_b u4) hP
  have hD : va_D A (lwW cI cS cJ G o bm (u2.1, u2.2, u4)) := vD_perm (lwM_b u4) hD
  refine lv_istore (lv' := [(6, .int r3), (5, .int r1), (0, .ref b), (1, .ref (G 2 0)), (2, .ref (bm 0)), (3, .ref o), (4, .int i)]) hx hb dL_law_1105 hl (by decide) rfl (fun ls hl => ?_)
  refine lv_aload_n hx hb dL_law_1107 rfl (lv_at hl 4 rfl) ?_
  refine roVi (As := []) (rest := []) F (c_X4_thrown l D cI cS cJ bm u4 H  h) (cw_L_107 hts (Nat.le_of_ble_eq_true rfl) (Nat.le_of_ble_eq_true rfl)) hK (vP_L (vP_perm lwM_f hP)) (recv (ci := 4) (k0 := 69) hK hP rfl rfl) rfl hl.1 rfl (Nat.le_of_ble_eq_true rfl) dL_law_1108 ⟨show ((cs + 1) + 0) + 0 ≤ 601024 by omega, show ((ss + 6) + 0) + 0 ≤ 7293034 by omega⟩ (fun r5 h => ?_)
  refine lv_iload hx hb dL_law_1111 (lv_at hl 1 rfl) ?_
  refine lv_icmp_eq (tgt := 1118) hx hb dL_law_1113 (by decide) (fun c6 => ?_) (fun c6 => ?_)
  · replace h := h.1 c6
    refine lv_iload hx hb dL_law_1118 (lv_at hl 1 rfl) ?_
    refine lv_if_ne (tgt := 1135) hx hb dL_law_1120 (by decide) (fun c7 => ?_) (fun c7 => ?_)
    · replace h := h.1 c7
      refine lv_goto (tgt := 1874) hx hb dL_law_1135 (by decide) ?_
      refine W.widen (k := cs + 2) (n := ss + 12) (by omega) (by omega) ?_
      exact cont s.drawn _ _ _ _ _ _ (Drawn.sameBut.refl _ _) (lv_sub hl [2, 3, 4, 5, 6] rfl) hP hD hS h
    · replace h := h.2 c7
      refine lv_aload_n hx hb dL_law_1123 rfl (lv_at hl 5 rfl) ?_
      refine lv_iconst (v := (0 : Int32)) hx hb dL_law_1124 (by decide) ?_
      refine va_lald hx hb hK.k hP 0 2 rfl rfl in01 dL_law_1125 ?_
      refine lv_iload hx hb dL_law_1126 (lv_at hl 0 rfl) ?_
      refine lv_i2l (v := (Int32.toInt64 r3)) hx hb dL_law_1128 rfl ?_
      refine W.lcmp hx hb dL_law_1129 ?_
      refine lv_if_eq (tgt := 1135) hx hb dL_law_1130 (by decide) (fun c8 => ?_) (fun c8 => ?_)
      · replace h := h.1 c8
        refine lv_goto (tgt := 1874) hx hb dL_law_1135 (by decide) ?_
        refine W.widen (k := cs + 2) (n := ss + 12) (by omega) (by omega) ?_
        exact cont s.drawn _ _ _ _ _ _ (Drawn.sameBut.refl _ _) (lv_sub hl [2, 3, 4, 5, 6] rfl) hP hD hS h
      · replace h := h.2 c8
        refine lv_iconst (v := (0 : Int32)) hx hb dL_law_1133 (by decide) ?_
        exact h.elim
  · replace h := h.2 c6
    refine lv_iconst (v := (0 : Int32)) hx hb dL_law_1116 (by decide) ?_
    exact h.elim

def wp_law_15 (xs : Nat → Int32) (i : Int32) (N : Ne) (O : Nat → Int64) (M : Md) (post : Ne → (Nat → Int64) → Md → Prop) : Prop :=
  wp_L_answer (N, O) (xs (Int32.toNatClampNeg (i + (1 : Int32)))) (xs (Int32.toNatClampNeg (i + (2 : Int32)))) (fun r1 u2 => wp_X4_answer M (xs (Int32.toNatClampNeg (i + (1 : Int32)))) (xs (Int32.toNatClampNeg (i + (2 : Int32)))) (fun r3 u4 => wp_X4_thrown u4 (fun r5 => (r5 = r1 → (¬ r1 = 0 → post u2.1 u2.2 u4) ∧ (r1 = 0 → ((lg_cmp (u2.2 (Int32.toNatClampNeg (0 : Int32))) (Int32.toInt64 r3)) = 0 → post u2.1 u2.2 u4) ∧ (¬ (lg_cmp (u2.2 (Int32.toNatClampNeg (0 : Int32))) (Int32.toInt64 r3)) = 0 → False))) ∧ (¬ r5 = r1 → False))))
set_option maxHeartbeats 4000000 in
set_option maxRecDepth 100000 in
theorem c_law_15 {p : Program} {l : Launch} {e : Env} {s : State} {m : MethodId} {args : Array Value} {below : List Frame} {meth : Method} {c : Code} {Q : State → Prop} {A : Nat → Prop} {D : va_G} {cI cS cJ : ClassId} {G : Nat → Nat → Nat} {o : Nat} {bm : Nat → Nat} {b L cs ss : Nat} {xs : Nat → Int32} {i : Int32} {N : Ne} {O : Nat → Int64} {M : Md} {H : Heap} {locs : List Loc} {ls : Array Slot} (C : lwC p l s m args c A D cI cS cJ b L xs) (hi0 : vp_in i L) (hi1 : vp_in (i + 1) L) (hi2 : vp_in (i + 2) L) (hi3 : vp_in (i + 3) L) (hi4 : vp_in (i + 4) L) (hcs : cs + 2 ≤ 601024) (hss : ss + 12 ≤ 7293034) (hl : lv_has ls 9 [(0, .ref b), (1, .ref (G 2 0)), (2, .ref (bm 0)), (3, .ref o), (4, .int i)]) (hP : va_P D vwCl (lwW cI cS cJ G o bm (N, O, M)) H) (hD : va_D A (lwW cI cS cJ G o bm (N, O, M))) (hS : va_S A s.heap H locs) {post : Ne → (Nat → Int64) → Md → Prop} (h : wp_law_15 xs i N O M post)
    (cont : ∀ (d' : Drawn) (N : Ne) (O : Nat → Int64) (M : Md) (H : Heap) (locs : List Loc) (ls : Array Slot), s.drawn.sameBut d' lw_cs → lv_has ls 9 [(0, .ref b), (1, .ref (G 2 0)), (2, .ref (bm 0)), (3, .ref o), (4, .int i)] → va_P D vwCl (lwW cI cS cJ G o bm (N, O, M)) H → va_D A (lwW cI cS cJ G o bm (N, O, M)) → va_S A s.heap H locs → post N O M → W p l e room_1 (s.setDrawn d') m args below meth c H locs (cs + 2) (ss + 12) Q (F0 m 1874 ls [])) :
    W p l e room_1 s m args below meth c H locs cs ss Q (F0 m 1138 ls []) := by
  obtain ⟨hst, FC, hK0, hV, hH, hX, hbl, hbA, hA⟩ := C
  have hx := FC.1
  have hb := FC.2.1
  have hown := FC.2.2.2.1
  have hts := FC.2.2.2.2
  have F := FC
  have hK := hK0
  unfold wp_law_15 at h
  refine lv_aload_n hx hb dL_law_1138 rfl (lv_at hl 1 rfl) ?_
  refine lv_aload_n hx hb dL_law_1139 rfl (lv_at hl 0 rfl) ?_
  refine lv_iload hx hb dL_law_1140 (lv_at hl 4 rfl) ?_
  refine lv_iconst (v := (1 : Int32)) hx hb dL_law_1142 (by decide) ?_
  refine lv_iadd hx hb dL_law_1143 ?_
  refine va_sld hx hb hX hbl hbA hS hi1 dL_law_1144 ?_
  refine lv_aload_n hx hb dL_law_1145 rfl (lv_at hl 0 rfl) ?_
  refine lv_iload hx hb dL_law_1146 (lv_at hl 4 rfl) ?_
  refine lv_iconst (v := (2 : Int32)) hx hb dL_law_1148 (by decide) ?_
  refine lv_iadd hx hb dL_law_1149 ?_
  refine va_sld hx hb hX hbl hbA hS hi2 dL_law_1150 ?_
  refine lv_aload_n hx hb dL_law_1151 rfl (lv_at hl 3 rfl) ?_
  refine rwHi (wr := mdW cI bm M) (As := [.ref (G 2 0), .int (xs (Int32.toNatClampNeg (i + (1 : Int32)))), .int (xs (Int32.toNatClampNeg (i + (2 : Int32)))), .ref o]) (rest := []) lwH_f F (c_L_answer l hst D cI cS cJ G o (N, O) H.size (xs (Int32.toNatClampNeg (i + (1 : Int32)))) (xs (Int32.toNatClampNeg (i + (2 : Int32)))) h) (cwH_answer hts (Nat.le_of_ble_eq_true rfl) (Nat.le_of_ble_eq_true rfl)) hK hV hH hP hD hS hA rfl hl.1 rfl (Nat.le_of_ble_eq_true rfl) dL_law_1152 ⟨show cs + 1 ≤ 601024 by omega, show ss + 6 ≤ 7293034 by omega⟩ (fun r1 u2 H locs h hP hD hS => ?_)
  have hP : va_P D vwCl (lwW cI cS cJ G o bm (u2.1, u2.2, M)) H := vP_perm lwH_b hP
  have hD : va_D A (lwW cI cS cJ G o bm (u2.1, u2.2, M)) := vD_perm lwH_b hD
  refine lv_istore (lv' := [(5, .int r1), (0, .ref b), (1, .ref (G 2 0)), (2, .ref (bm 0)), (3, .ref o), (4, .int i)]) hx hb dL_law_1155 hl (by decide) rfl (fun ls hl => ?_)
  refine lv_aload_n hx hb dL_law_1157 rfl (lv_at hl 3 rfl) ?_
  refine lv_aload_n hx hb dL_law_1158 rfl (lv_at hl 1 rfl) ?_
  refine lv_iload hx hb dL_law_1159 (lv_at hl 5 rfl) ?_
  refine lv_iconst (v := (1 : Int32)) hx hb dL_law_1161 (by decide) ?_
  refine lv_iadd hx hb dL_law_1162 ?_
  refine va_sld hx hb hX hbl hbA hS hi1 dL_law_1163 ?_
  refine lv_aload_n hx hb dL_law_1164 rfl (lv_at hl 1 rfl) ?_
  refine lv_iload hx hb dL_law_1165 (lv_at hl 5 rfl) ?_
  refine lv_iconst (v := (2 : Int32)) hx hb dL_law_1167 (by decide) ?_
  refine lv_iadd hx hb dL_law_1168 ?_
  refine va_sld hx hb hX hbl hbA hS hi2 dL_law_1169 ?_
  refine rwVi (wr := lwMr cI cS cJ G o (u2.1, u2.2)) (As := [.int (xs (Int32.toNatClampNeg (i + (1 : Int32)))), .int (xs (Int32.toNatClampNeg (i + (2 : Int32))))]) (rest := []) lwM_f F (c_X4_answer l D cI cS cJ bm M H.size (xs (Int32.toNatClampNeg (i + (1 : Int32)))) (xs (Int32.toNatClampNeg (i + (2 : Int32)))) h) (cw_L_160 hts (Nat.le_of_ble_eq_true rfl) (Nat.le_of_ble_eq_true rfl)) hK hP hD hS hA (recv (ci := 4) (k0 := 69) hK hP rfl rfl) rfl hl.1 rfl (Nat.le_of_ble_eq_true rfl) dL_law_1170 ⟨show (cs + 1) + 0 ≤ 601024 by omega, show (ss + 6) + 0 ≤ 7293034 by omega⟩ (fun r3 u4 H locs h hP hD hS => ?_)
  have hP : va_P D vwCl (lwW cI cS cJ G o bm (u2.1, u2.2, u4)) H := vP_perm (lwM_b u4) hP
  have hD : va_D A (lwW cI cS cJ G o bm (u2.1, u2.2, u4)) := vD_perm (lwM_b u4) hD
  refine lv_istore (lv' := [(6, .int r3), (5, .int r1), (0, .ref b), (1, .ref (G 2 0)), (2, .ref (bm 0)), (3, .ref o), (4, .int i)]) hx hb dL_law_1173 hl (by decide) rfl (fun ls hl => ?_)
  refine lv_aload_n hx hb dL_law_1175 rfl (lv_at hl 4 rfl) ?_
  refine roVi (As := []) (rest := []) F (c_X4_thrown l D cI cS cJ bm u4 H  h) (cw_L_107 hts (Nat.le_of_ble_eq_true rfl) (Nat.le_of_ble_eq_true rfl)) hK (vP_L (vP_perm lwM_f hP)) (recv (ci := 4) (k0 := 69) hK hP rfl rfl) rfl hl.1 rfl (Nat.le_of_ble_eq_true rfl) dL_law_1176 ⟨show ((cs + 1) + 0) + 0 ≤ 601024 by omega, show ((ss + 6) + 0) + 0 ≤ 7293034 by omega⟩ (fun r5 h => ?_)
  refine lv_iload hx hb dL_law_1179 (lv_at hl 1 rfl) ?_
  refine lv_icmp_eq (tgt := 1186) hx hb dL_law_1181 (by decide) (fun c6 => ?_) (fun c6 => ?_)
  · replace h := h.1 c6
    refine lv_iload hx hb dL_law_1186 (lv_at hl 1 rfl) ?_
    refine lv_if_ne (tgt := 1203) hx hb dL_law_1188 (by decide) (fun c7 => ?_) (fun c7 => ?_)
    · replace h := h.1 c7
      refine lv_goto (tgt := 1874) hx hb dL_law_1203 (by decide) ?_
      refine W.widen (k := cs + 2) (n := ss + 12) (by omega) (by omega) ?_
      exact cont s.drawn _ _ _ _ _ _ (Drawn.sameBut.refl _ _) (lv_sub hl [2, 3, 4, 5, 6] rfl) hP hD hS h
    · replace h := h.2 c7
      refine lv_aload_n hx hb dL_law_1191 rfl (lv_at hl 5 rfl) ?_
      refine lv_iconst (v := (0 : Int32)) hx hb dL_law_1192 (by decide) ?_
      refine va_lald hx hb hK.k hP 0 2 rfl rfl in01 dL_law_1193 ?_
      refine lv_iload hx hb dL_law_1194 (lv_at hl 0 rfl) ?_
      refine lv_i2l (v := (Int32.toInt64 r3)) hx hb dL_law_1196 rfl ?_
      refine W.lcmp hx hb dL_law_1197 ?_
      refine lv_if_eq (tgt := 1203) hx hb dL_law_1198 (by decide) (fun c8 => ?_) (fun c8 => ?_)
      · replace h := h.1 c8
        refine lv_goto (tgt := 1874) hx hb dL_law_1203 (by decide) ?_
        refine W.widen (k := cs + 2) (n := ss + 12) (by omega) (by omega) ?_
        exact cont s.drawn _ _ _ _ _ _ (Drawn.sameBut.refl _ _) (lv_sub hl [2, 3, 4, 5, 6] rfl) hP hD hS h
      · replace h := h.2 c8
        refine lv_iconst (v := (0 : Int32)) hx hb dL_law_1201 (by decide) ?_
        exact h.elim
  · replace h := h.2 c6
    refine lv_iconst (v := (0 : Int32)) hx hb dL_law_1184 (by decide) ?_
    exact h.elim

def wp_law_16 (xs : Nat → Int32) (i : Int32) (N : Ne) (O : Nat → Int64) (M : Md) (post : Ne → (Nat → Int64) → Md → Prop) : Prop :=
  wp_L_pass (N, O) (xs (Int32.toNatClampNeg (i + (1 : Int32)))) (fun r1 u2 => wp_X4_pass M (xs (Int32.toNatClampNeg (i + (1 : Int32)))) (fun r3 u4 => wp_X4_thrown u4 (fun r5 => (r5 = r1 → (¬ r1 = 0 → post u2.1 u2.2 u4) ∧ (r1 = 0 → ((lg_cmp (u2.2 (Int32.toNatClampNeg (0 : Int32))) (Int32.toInt64 r3)) = 0 → post u2.1 u2.2 u4) ∧ (¬ (lg_cmp (u2.2 (Int32.toNatClampNeg (0 : Int32))) (Int32.toInt64 r3)) = 0 → False))) ∧ (¬ r5 = r1 → False))))
set_option maxHeartbeats 4000000 in
set_option maxRecDepth 100000 in
theorem c_law_16 {p : Program} {l : Launch} {e : Env} {s : State} {m : MethodId} {args : Array Value} {below : List Frame} {meth : Method} {c : Code} {Q : State → Prop} {A : Nat → Prop} {D : va_G} {cI cS cJ : ClassId} {G : Nat → Nat → Nat} {o : Nat} {bm : Nat → Nat} {b L cs ss : Nat} {xs : Nat → Int32} {i : Int32} {N : Ne} {O : Nat → Int64} {M : Md} {H : Heap} {locs : List Loc} {ls : Array Slot} (C : lwC p l s m args c A D cI cS cJ b L xs) (hi0 : vp_in i L) (hi1 : vp_in (i + 1) L) (hi2 : vp_in (i + 2) L) (hi3 : vp_in (i + 3) L) (hi4 : vp_in (i + 4) L) (hcs : cs + 2 ≤ 601024) (hss : ss + 12 ≤ 7293034) (hl : lv_has ls 9 [(0, .ref b), (1, .ref (G 2 0)), (2, .ref (bm 0)), (3, .ref o), (4, .int i)]) (hP : va_P D vwCl (lwW cI cS cJ G o bm (N, O, M)) H) (hD : va_D A (lwW cI cS cJ G o bm (N, O, M))) (hS : va_S A s.heap H locs) {post : Ne → (Nat → Int64) → Md → Prop} (h : wp_law_16 xs i N O M post)
    (cont : ∀ (d' : Drawn) (N : Ne) (O : Nat → Int64) (M : Md) (H : Heap) (locs : List Loc) (ls : Array Slot), s.drawn.sameBut d' lw_cs → lv_has ls 9 [(0, .ref b), (1, .ref (G 2 0)), (2, .ref (bm 0)), (3, .ref o), (4, .int i)] → va_P D vwCl (lwW cI cS cJ G o bm (N, O, M)) H → va_D A (lwW cI cS cJ G o bm (N, O, M)) → va_S A s.heap H locs → post N O M → W p l e room_1 (s.setDrawn d') m args below meth c H locs (cs + 2) (ss + 12) Q (F0 m 1874 ls [])) :
    W p l e room_1 s m args below meth c H locs cs ss Q (F0 m 1206 ls []) := by
  obtain ⟨hst, FC, hK0, hV, hH, hX, hbl, hbA, hA⟩ := C
  have hx := FC.1
  have hb := FC.2.1
  have hown := FC.2.2.2.1
  have hts := FC.2.2.2.2
  have F := FC
  have hK := hK0
  unfold wp_law_16 at h
  refine lv_aload_n hx hb dL_law_1206 rfl (lv_at hl 1 rfl) ?_
  refine lv_aload_n hx hb dL_law_1207 rfl (lv_at hl 0 rfl) ?_
  refine lv_iload hx hb dL_law_1208 (lv_at hl 4 rfl) ?_
  refine lv_iconst (v := (1 : Int32)) hx hb dL_law_1210 (by decide) ?_
  refine lv_iadd hx hb dL_law_1211 ?_
  refine va_sld hx hb hX hbl hbA hS hi1 dL_law_1212 ?_
  refine lv_aload_n hx hb dL_law_1213 rfl (lv_at hl 3 rfl) ?_
  refine rwHi (wr := mdW cI bm M) (As := [.ref (G 2 0), .int (xs (Int32.toNatClampNeg (i + (1 : Int32)))), .ref o]) (rest := []) lwH_f F (c_L_pass l hst D cI cS cJ G o (N, O) H.size (xs (Int32.toNatClampNeg (i + (1 : Int32)))) h) (cwH_pass hts (Nat.le_of_ble_eq_true rfl) (Nat.le_of_ble_eq_true rfl)) hK hV hH hP hD hS hA rfl hl.1 rfl (Nat.le_of_ble_eq_true rfl) dL_law_1214 ⟨show cs + 1 ≤ 601024 by omega, show ss + 6 ≤ 7293034 by omega⟩ (fun r1 u2 H locs h hP hD hS => ?_)
  have hP : va_P D vwCl (lwW cI cS cJ G o bm (u2.1, u2.2, M)) H := vP_perm lwH_b hP
  have hD : va_D A (lwW cI cS cJ G o bm (u2.1, u2.2, M)) := vD_perm lwH_b hD
  refine lv_istore (lv' := [(5, .int r1), (0, .ref b), (1, .ref (G 2 0)), (2, .ref (bm 0)), (3, .ref o), (4, .int i)]) hx hb dL_law_1217 hl (by decide) rfl (fun ls hl => ?_)
  refine lv_aload_n hx hb dL_law_1219 rfl (lv_at hl 3 rfl) ?_
  refine lv_aload_n hx hb dL_law_1220 rfl (lv_at hl 1 rfl) ?_
  refine lv_iload hx hb dL_law_1221 (lv_at hl 5 rfl) ?_
  refine lv_iconst (v := (1 : Int32)) hx hb dL_law_1223 (by decide) ?_
  refine lv_iadd hx hb dL_law_1224 ?_
  refine va_sld hx hb hX hbl hbA hS hi1 dL_law_1225 ?_
  refine rwVi (wr := lwMr cI cS cJ G o (u2.1, u2.2)) (As := [.int (xs (Int32.toNatClampNeg (i + (1 : Int32))))]) (rest := []) lwM_f F (c_X4_pass l D cI cS cJ bm M H.size (xs (Int32.toNatClampNeg (i + (1 : Int32)))) h) (cw_L_163 hts (Nat.le_of_ble_eq_true rfl) (Nat.le_of_ble_eq_true rfl)) hK hP hD hS hA (recv (ci := 4) (k0 := 69) hK hP rfl rfl) rfl hl.1 rfl (Nat.le_of_ble_eq_true rfl) dL_law_1226 ⟨show (cs + 1) + 0 ≤ 601024 by omega, show (ss + 6) + 0 ≤ 7293034 by omega⟩ (fun r3 u4 H locs h hP hD hS => ?_)
  have hP : va_P D vwCl (lwW cI cS cJ G o bm (u2.1, u2.2, u4)) H := vP_perm (lwM_b u4) hP
  have hD : va_D A (lwW cI cS cJ G o bm (u2.1, u2.2, u4)) := vD_perm (lwM_b u4) hD
  refine lv_istore (lv' := [(6, .int r3), (5, .int r1), (0, .ref b), (1, .ref (G 2 0)), (2, .ref (bm 0)), (3, .ref o), (4, .int i)]) hx hb dL_law_1229 hl (by decide) rfl (fun ls hl => ?_)
  refine lv_aload_n hx hb dL_law_1231 rfl (lv_at hl 4 rfl) ?_
  refine roVi (As := []) (rest := []) F (c_X4_thrown l D cI cS cJ bm u4 H  h) (cw_L_107 hts (Nat.le_of_ble_eq_true rfl) (Nat.le_of_ble_eq_true rfl)) hK (vP_L (vP_perm lwM_f hP)) (recv (ci := 4) (k0 := 69) hK hP rfl rfl) rfl hl.1 rfl (Nat.le_of_ble_eq_true rfl) dL_law_1232 ⟨show ((cs + 1) + 0) + 0 ≤ 601024 by omega, show ((ss + 6) + 0) + 0 ≤ 7293034 by omega⟩ (fun r5 h => ?_)
  refine lv_iload hx hb dL_law_1235 (lv_at hl 1 rfl) ?_
  refine lv_icmp_eq (tgt := 1242) hx hb dL_law_1237 (by decide) (fun c6 => ?_) (fun c6 => ?_)
  · replace h := h.1 c6
    refine lv_iload hx hb dL_law_1242 (lv_at hl 1 rfl) ?_
    refine lv_if_ne (tgt := 1259) hx hb dL_law_1244 (by decide) (fun c7 => ?_) (fun c7 => ?_)
    · replace h := h.1 c7
      refine lv_goto (tgt := 1874) hx hb dL_law_1259 (by decide) ?_
      refine W.widen (k := cs + 2) (n := ss + 12) (by omega) (by omega) ?_
      exact cont s.drawn _ _ _ _ _ _ (Drawn.sameBut.refl _ _) (lv_sub hl [2, 3, 4, 5, 6] rfl) hP hD hS h
    · replace h := h.2 c7
      refine lv_aload_n hx hb dL_law_1247 rfl (lv_at hl 5 rfl) ?_
      refine lv_iconst (v := (0 : Int32)) hx hb dL_law_1248 (by decide) ?_
      refine va_lald hx hb hK.k hP 0 2 rfl rfl in01 dL_law_1249 ?_
      refine lv_iload hx hb dL_law_1250 (lv_at hl 0 rfl) ?_
      refine lv_i2l (v := (Int32.toInt64 r3)) hx hb dL_law_1252 rfl ?_
      refine W.lcmp hx hb dL_law_1253 ?_
      refine lv_if_eq (tgt := 1259) hx hb dL_law_1254 (by decide) (fun c8 => ?_) (fun c8 => ?_)
      · replace h := h.1 c8
        refine lv_goto (tgt := 1874) hx hb dL_law_1259 (by decide) ?_
        refine W.widen (k := cs + 2) (n := ss + 12) (by omega) (by omega) ?_
        exact cont s.drawn _ _ _ _ _ _ (Drawn.sameBut.refl _ _) (lv_sub hl [2, 3, 4, 5, 6] rfl) hP hD hS h
      · replace h := h.2 c8
        refine lv_iconst (v := (0 : Int32)) hx hb dL_law_1257 (by decide) ?_
        exact h.elim
  · replace h := h.2 c6
    refine lv_iconst (v := (0 : Int32)) hx hb dL_law_1240 (by decide) ?_
    exact h.elim

def wp_law_17 (xs : Nat → Int32) (i : Int32) (N : Ne) (O : Nat → Int64) (M : Md) (post : Ne → (Nat → Int64) → Md → Prop) : Prop :=
  wp_X3_envelopes N (fun r1 => wp_X4_envelopes M (fun r2 u3 => (r1 = r2 → post N O u3) ∧ (¬ r1 = r2 → False)))
set_option maxHeartbeats 4000000 in
set_option maxRecDepth 100000 in
theorem c_law_17 {p : Program} {l : Launch} {e : Env} {s : State} {m : MethodId} {args : Array Value} {below : List Frame} {meth : Method} {c : Code} {Q : State → Prop} {A : Nat → Prop} {D : va_G} {cI cS cJ : ClassId} {G : Nat → Nat → Nat} {o : Nat} {bm : Nat → Nat} {b L cs ss : Nat} {xs : Nat → Int32} {i : Int32} {N : Ne} {O : Nat → Int64} {M : Md} {H : Heap} {locs : List Loc} {ls : Array Slot} (C : lwC p l s m args c A D cI cS cJ b L xs) (hi0 : vp_in i L) (hi1 : vp_in (i + 1) L) (hi2 : vp_in (i + 2) L) (hi3 : vp_in (i + 3) L) (hi4 : vp_in (i + 4) L) (hcs : cs + 2 ≤ 601024) (hss : ss + 12 ≤ 7293034) (hl : lv_has ls 9 [(0, .ref b), (1, .ref (G 2 0)), (2, .ref (bm 0)), (3, .ref o), (4, .int i)]) (hP : va_P D vwCl (lwW cI cS cJ G o bm (N, O, M)) H) (hD : va_D A (lwW cI cS cJ G o bm (N, O, M))) (hS : va_S A s.heap H locs) {post : Ne → (Nat → Int64) → Md → Prop} (h : wp_law_17 xs i N O M post)
    (cont : ∀ (d' : Drawn) (N : Ne) (O : Nat → Int64) (M : Md) (H : Heap) (locs : List Loc) (ls : Array Slot), s.drawn.sameBut d' lw_cs → lv_has ls 9 [(0, .ref b), (1, .ref (G 2 0)), (2, .ref (bm 0)), (3, .ref o), (4, .int i)] → va_P D vwCl (lwW cI cS cJ G o bm (N, O, M)) H → va_D A (lwW cI cS cJ G o bm (N, O, M)) → va_S A s.heap H locs → post N O M → W p l e room_1 (s.setDrawn d') m args below meth c H locs (cs + 2) (ss + 12) Q (F0 m 1874 ls [])) :
    W p l e room_1 s m args below meth c H locs cs ss Q (F0 m 1262 ls []) := by
  obtain ⟨hst, FC, hK0, hV, hH, hX, hbl, hbA, hA⟩ := C
  have hx := FC.1
  have hb := FC.2.1
  have hown := FC.2.2.2.1
  have hts := FC.2.2.2.2
  have F := FC
  have hK := hK0
  unfold wp_law_17 at h
  refine lv_aload_n hx hb dL_law_1262 rfl (lv_at hl 1 rfl) ?_
  refine roVi (As := []) (rest := []) F (c_X3_envelopes l D cI cS cJ G N H  h) (cw_L_164 hts (Nat.le_of_ble_eq_true rfl) (Nat.le_of_ble_eq_true rfl)) hK (vP_L (vP_perm lwN_f hP)) (recv (ci := 3) (k0 := 1) hK hP rfl rfl) rfl hl.1 rfl (Nat.le_of_ble_eq_true rfl) dL_law_1263 ⟨show cs + 0 ≤ 601024 by omega, show ss + 0 ≤ 7293034 by omega⟩ (fun r1 h => ?_)
  refine lv_aload_n hx hb dL_law_1266 rfl (lv_at hl 2 rfl) ?_
  refine rwVi (wr := lwMr cI cS cJ G o (N, O)) (As := []) (rest := [.int r1]) lwM_f F (c_X4_envelopes l D cI cS cJ bm M H.size  h) (cw_L_167 hts (Nat.le_of_ble_eq_true rfl) (Nat.le_of_ble_eq_true rfl)) hK hP hD hS hA (recv (ci := 4) (k0 := 69) hK hP rfl rfl) rfl hl.1 rfl (Nat.le_of_ble_eq_true rfl) dL_law_1267 ⟨show cs + 0 ≤ 601024 by omega, show ss + 0 ≤ 7293034 by omega⟩ (fun r2 u3 H locs h hP hD hS => ?_)
  have hP : va_P D vwCl (lwW cI cS cJ G o bm (N, O, u3)) H := vP_perm (lwM_b u3) hP
  have hD : va_D A (lwW cI cS cJ G o bm (N, O, u3)) := vD_perm (lwM_b u3) hD
  refine lv_icmp_eq (tgt := 1874) hx hb dL_law_1270 (by decide) (fun c4 => ?_) (fun c4 => ?_)
  · replace h := h.1 c4
    refine W.widen (k := cs + 2) (n := ss + 12) (by omega) (by omega) ?_
    exact cont s.drawn _ _ _ _ _ _ (Drawn.sameBut.refl _ _) (lv_sub hl [0, 1, 2, 3, 4] rfl) hP hD hS h
  · replace h := h.2 c4
    refine lv_iconst (v := (0 : Int32)) hx hb dL_law_1273 (by decide) ?_
    exact h.elim

def wp_law_18 (xs : Nat → Int32) (i : Int32) (N : Ne) (O : Nat → Int64) (M : Md) (post : Ne → (Nat → Int64) → Md → Prop) : Prop :=
  wp_L_envelope (N, O) (xs (Int32.toNatClampNeg (i + (1 : Int32)))) (xs (Int32.toNatClampNeg (i + (2 : Int32)))) (fun r1 u2 => wp_X4_envelope M (xs (Int32.toNatClampNeg (i + (1 : Int32)))) (xs (Int32.toNatClampNeg (i + (2 : Int32)))) (fun r3 u4 => wp_X4_thrown u4 (fun r5 => (r5 = r1 → (¬ r1 = 0 → post u2.1 u2.2 u4) ∧ (r1 = 0 → ((lg_cmp (u2.2 (Int32.toNatClampNeg (0 : Int32))) (Int32.toInt64 r3)) = 0 → post u2.1 u2.2 u4) ∧ (¬ (lg_cmp (u2.2 (Int32.toNatClampNeg (0 : Int32))) (Int32.toInt64 r3)) = 0 → False))) ∧ (¬ r5 = r1 → False))))
set_option maxHeartbeats 4000000 in
set_option maxRecDepth 100000 in
theorem c_law_18 {p : Program} {l : Launch} {e : Env} {s : State} {m : MethodId} {args : Array Value} {below : List Frame} {meth : Method} {c : Code} {Q : State → Prop} {A : Nat → Prop} {D : va_G} {cI cS cJ : ClassId} {G : Nat → Nat → Nat} {o : Nat} {bm : Nat → Nat} {b L cs ss : Nat} {xs : Nat → Int32} {i : Int32} {N : Ne} {O : Nat → Int64} {M : Md} {H : Heap} {locs : List Loc} {ls : Array Slot} (C : lwC p l s m args c A D cI cS cJ b L xs) (hi0 : vp_in i L) (hi1 : vp_in (i + 1) L) (hi2 : vp_in (i + 2) L) (hi3 : vp_in (i + 3) L) (hi4 : vp_in (i + 4) L) (hcs : cs + 2 ≤ 601024) (hss : ss + 12 ≤ 7293034) (hl : lv_has ls 9 [(0, .ref b), (1, .ref (G 2 0)), (2, .ref (bm 0)), (3, .ref o), (4, .int i)]) (hP : va_P D vwCl (lwW cI cS cJ G o bm (N, O, M)) H) (hD : va_D A (lwW cI cS cJ G o bm (N, O, M))) (hS : va_S A s.heap H locs) {post : Ne → (Nat → Int64) → Md → Prop} (h : wp_law_18 xs i N O M post)
    (cont : ∀ (d' : Drawn) (N : Ne) (O : Nat → Int64) (M : Md) (H : Heap) (locs : List Loc) (ls : Array Slot), s.drawn.sameBut d' lw_cs → lv_has ls 9 [(0, .ref b), (1, .ref (G 2 0)), (2, .ref (bm 0)), (3, .ref o), (4, .int i)] → va_P D vwCl (lwW cI cS cJ G o bm (N, O, M)) H → va_D A (lwW cI cS cJ G o bm (N, O, M)) → va_S A s.heap H locs → post N O M → W p l e room_1 (s.setDrawn d') m args below meth c H locs (cs + 2) (ss + 12) Q (F0 m 1874 ls [])) :
    W p l e room_1 s m args below meth c H locs cs ss Q (F0 m 1275 ls []) := by
  obtain ⟨hst, FC, hK0, hV, hH, hX, hbl, hbA, hA⟩ := C
  have hx := FC.1
  have hb := FC.2.1
  have hown := FC.2.2.2.1
  have hts := FC.2.2.2.2
  have F := FC
  have hK := hK0
  unfold wp_law_18 at h
  refine lv_aload_n hx hb dL_law_1275 rfl (lv_at hl 1 rfl) ?_
  refine lv_aload_n hx hb dL_law_1276 rfl (lv_at hl 0 rfl) ?_
  refine lv_iload hx hb dL_law_1277 (lv_at hl 4 rfl) ?_
  refine lv_iconst (v := (1 : Int32)) hx hb dL_law_1279 (by decide) ?_
  refine lv_iadd hx hb dL_law_1280 ?_
  refine va_sld hx hb hX hbl hbA hS hi1 dL_law_1281 ?_
  refine lv_aload_n hx hb dL_law_1282 rfl (lv_at hl 0 rfl) ?_
  refine lv_iload hx hb dL_law_1283 (lv_at hl 4 rfl) ?_
  refine lv_iconst (v := (2 : Int32)) hx hb dL_law_1285 (by decide) ?_
  refine lv_iadd hx hb dL_law_1286 ?_
  refine va_sld hx hb hX hbl hbA hS hi2 dL_law_1287 ?_
  refine lv_aload_n hx hb dL_law_1288 rfl (lv_at hl 3 rfl) ?_
  refine rwHi (wr := mdW cI bm M) (As := [.ref (G 2 0), .int (xs (Int32.toNatClampNeg (i + (1 : Int32)))), .int (xs (Int32.toNatClampNeg (i + (2 : Int32)))), .ref o]) (rest := []) lwH_f F (c_L_envelope l hst D cI cS cJ G o (N, O) H.size (xs (Int32.toNatClampNeg (i + (1 : Int32)))) (xs (Int32.toNatClampNeg (i + (2 : Int32)))) h) (cwH_envelope hts (Nat.le_of_ble_eq_true rfl) (Nat.le_of_ble_eq_true rfl)) hK hV hH hP hD hS hA rfl hl.1 rfl (Nat.le_of_ble_eq_true rfl) dL_law_1289 ⟨show cs + 1 ≤ 601024 by omega, show ss + 6 ≤ 7293034 by omega⟩ (fun r1 u2 H locs h hP hD hS => ?_)
  have hP : va_P D vwCl (lwW cI cS cJ G o bm (u2.1, u2.2, M)) H := vP_perm lwH_b hP
  have hD : va_D A (lwW cI cS cJ G o bm (u2.1, u2.2, M)) := vD_perm lwH_b hD
  refine lv_istore (lv' := [(5, .int r1), (0, .ref b), (1, .ref (G 2 0)), (2, .ref (bm 0)), (3, .ref o), (4, .int i)]) hx hb dL_law_1292 hl (by decide) rfl (fun ls hl => ?_)
  refine lv_aload_n hx hb dL_law_1294 rfl (lv_at hl 3 rfl) ?_
  refine lv_aload_n hx hb dL_law_1295 rfl (lv_at hl 1 rfl) ?_
  refine lv_iload hx hb dL_law_1296 (lv_at hl 5 rfl) ?_
  refine lv_iconst (v := (1 : Int32)) hx hb dL_law_1298 (by decide) ?_
  refine lv_iadd hx hb dL_law_1299 ?_
  refine va_sld hx hb hX hbl hbA hS hi1 dL_law_1300 ?_
  refine lv_aload_n hx hb dL_law_1301 rfl (lv_at hl 1 rfl) ?_
  refine lv_iload hx hb dL_law_1302 (lv_at hl 5 rfl) ?_
  refine lv_iconst (v := (2 : Int32)) hx hb dL_law_1304 (by decide) ?_
  refine lv_iadd hx hb dL_law_1305 ?_
  refine va_sld hx hb hX hbl hbA hS hi2 dL_law_1306 ?_
  refine rwVi (wr := lwMr cI cS cJ G o (u2.1, u2.2)) (As := [.int (xs (Int32.toNatClampNeg (i + (1 : Int32)))), .int (xs (Int32.toNatClampNeg (i + (2 : Int32))))]) (rest := []) lwM_f F (c_X4_envelope l D cI cS cJ bm M H.size (xs (Int32.toNatClampNeg (i + (1 : Int32)))) (xs (Int32.toNatClampNeg (i + (2 : Int32)))) h) (cw_L_170 hts (Nat.le_of_ble_eq_true rfl) (Nat.le_of_ble_eq_true rfl)) hK hP hD hS hA (recv (ci := 4) (k0 := 69) hK hP rfl rfl) rfl hl.1 rfl (Nat.le_of_ble_eq_true rfl) dL_law_1307 ⟨show (cs + 1) + 0 ≤ 601024 by omega, show (ss + 6) + 0 ≤ 7293034 by omega⟩ (fun r3 u4 H locs h hP hD hS => ?_)
  have hP : va_P D vwCl (lwW cI cS cJ G o bm (u2.1, u2.2, u4)) H := vP_perm (lwM_b u4) hP
  have hD : va_D A (lwW cI cS cJ G o bm (u2.1, u2.2, u4)) := vD_perm (lwM_b u4) hD
  refine lv_istore (lv' := [(6, .int r3), (5, .int r1), (0, .ref b), (1, .ref (G 2 0)), (2, .ref (bm 0)), (3, .ref o), (4, .int i)]) hx hb dL_law_1310 hl (by decide) rfl (fun ls hl => ?_)
  refine lv_aload_n hx hb dL_law_1312 rfl (lv_at hl 4 rfl) ?_
  refine roVi (As := []) (rest := []) F (c_X4_thrown l D cI cS cJ bm u4 H  h) (cw_L_107 hts (Nat.le_of_ble_eq_true rfl) (Nat.le_of_ble_eq_true rfl)) hK (vP_L (vP_perm lwM_f hP)) (recv (ci := 4) (k0 := 69) hK hP rfl rfl) rfl hl.1 rfl (Nat.le_of_ble_eq_true rfl) dL_law_1313 ⟨show ((cs + 1) + 0) + 0 ≤ 601024 by omega, show ((ss + 6) + 0) + 0 ≤ 7293034 by omega⟩ (fun r5 h => ?_)
  refine lv_iload hx hb dL_law_1316 (lv_at hl 1 rfl) ?_
  refine lv_icmp_eq (tgt := 1323) hx hb dL_law_1318 (by decide) (fun c6 => ?_) (fun c6 => ?_)
  · replace h := h.1 c6
    refine lv_iload hx hb dL_law_1323 (lv_at hl 1 rfl) ?_
    refine lv_if_ne (tgt := 1340) hx hb dL_law_1325 (by decide) (fun c7 => ?_) (fun c7 => ?_)
    · replace h := h.1 c7
      refine lv_goto (tgt := 1874) hx hb dL_law_1340 (by decide) ?_
      refine W.widen (k := cs + 2) (n := ss + 12) (by omega) (by omega) ?_
      exact cont s.drawn _ _ _ _ _ _ (Drawn.sameBut.refl _ _) (lv_sub hl [2, 3, 4, 5, 6] rfl) hP hD hS h
    · replace h := h.2 c7
      refine lv_aload_n hx hb dL_law_1328 rfl (lv_at hl 5 rfl) ?_
      refine lv_iconst (v := (0 : Int32)) hx hb dL_law_1329 (by decide) ?_
      refine va_lald hx hb hK.k hP 0 2 rfl rfl in01 dL_law_1330 ?_
      refine lv_iload hx hb dL_law_1331 (lv_at hl 0 rfl) ?_
      refine lv_i2l (v := (Int32.toInt64 r3)) hx hb dL_law_1333 rfl ?_
      refine W.lcmp hx hb dL_law_1334 ?_
      refine lv_if_eq (tgt := 1340) hx hb dL_law_1335 (by decide) (fun c8 => ?_) (fun c8 => ?_)
      · replace h := h.1 c8
        refine lv_goto (tgt := 1874) hx hb dL_law_1340 (by decide) ?_
        refine W.widen (k := cs + 2) (n := ss + 12) (by omega) (by omega) ?_
        exact cont s.drawn _ _ _ _ _ _ (Drawn.sameBut.refl _ _) (lv_sub hl [2, 3, 4, 5, 6] rfl) hP hD hS h
      · replace h := h.2 c8
        refine lv_iconst (v := (0 : Int32)) hx hb dL_law_1338 (by decide) ?_
        exact h.elim
  · replace h := h.2 c6
    refine lv_iconst (v := (0 : Int32)) hx hb dL_law_1321 (by decide) ?_
    exact h.elim

def wp_law_19 (xs : Nat → Int32) (i : Int32) (N : Ne) (O : Nat → Int64) (M : Md) (post : Ne → (Nat → Int64) → Md → Prop) : Prop :=
  wp_L_letter (N, O) (xs (Int32.toNatClampNeg (i + (1 : Int32)))) (fun r1 u2 => wp_X4_letter M (xs (Int32.toNatClampNeg (i + (1 : Int32)))) (fun r3 u4 => wp_X4_thrown u4 (fun r5 => (r5 = r1 → (¬ r1 = 0 → post u2.1 u2.2 u4) ∧ (r1 = 0 → ((lg_cmp (u2.2 (Int32.toNatClampNeg (0 : Int32))) (Int32.toInt64 r3)) = 0 → post u2.1 u2.2 u4) ∧ (¬ (lg_cmp (u2.2 (Int32.toNatClampNeg (0 : Int32))) (Int32.toInt64 r3)) = 0 → False))) ∧ (¬ r5 = r1 → False))))
set_option maxHeartbeats 4000000 in
set_option maxRecDepth 100000 in
theorem c_law_19 {p : Program} {l : Launch} {e : Env} {s : State} {m : MethodId} {args : Array Value} {below : List Frame} {meth : Method} {c : Code} {Q : State → Prop} {A : Nat → Prop} {D : va_G} {cI cS cJ : ClassId} {G : Nat → Nat → Nat} {o : Nat} {bm : Nat → Nat} {b L cs ss : Nat} {xs : Nat → Int32} {i : Int32} {N : Ne} {O : Nat → Int64} {M : Md} {H : Heap} {locs : List Loc} {ls : Array Slot} (C : lwC p l s m args c A D cI cS cJ b L xs) (hi0 : vp_in i L) (hi1 : vp_in (i + 1) L) (hi2 : vp_in (i + 2) L) (hi3 : vp_in (i + 3) L) (hi4 : vp_in (i + 4) L) (hcs : cs + 2 ≤ 601024) (hss : ss + 12 ≤ 7293034) (hl : lv_has ls 9 [(0, .ref b), (1, .ref (G 2 0)), (2, .ref (bm 0)), (3, .ref o), (4, .int i)]) (hP : va_P D vwCl (lwW cI cS cJ G o bm (N, O, M)) H) (hD : va_D A (lwW cI cS cJ G o bm (N, O, M))) (hS : va_S A s.heap H locs) {post : Ne → (Nat → Int64) → Md → Prop} (h : wp_law_19 xs i N O M post)
    (cont : ∀ (d' : Drawn) (N : Ne) (O : Nat → Int64) (M : Md) (H : Heap) (locs : List Loc) (ls : Array Slot), s.drawn.sameBut d' lw_cs → lv_has ls 9 [(0, .ref b), (1, .ref (G 2 0)), (2, .ref (bm 0)), (3, .ref o), (4, .int i)] → va_P D vwCl (lwW cI cS cJ G o bm (N, O, M)) H → va_D A (lwW cI cS cJ G o bm (N, O, M)) → va_S A s.heap H locs → post N O M → W p l e room_1 (s.setDrawn d') m args below meth c H locs (cs + 2) (ss + 12) Q (F0 m 1874 ls [])) :
    W p l e room_1 s m args below meth c H locs cs ss Q (F0 m 1343 ls []) := by
  obtain ⟨hst, FC, hK0, hV, hH, hX, hbl, hbA, hA⟩ := C
  have hx := FC.1
  have hb := FC.2.1
  have hown := FC.2.2.2.1
  have hts := FC.2.2.2.2
  have F := FC
  have hK := hK0
  unfold wp_law_19 at h
  refine lv_aload_n hx hb dL_law_1343 rfl (lv_at hl 1 rfl) ?_
  refine lv_aload_n hx hb dL_law_1344 rfl (lv_at hl 0 rfl) ?_
  refine lv_iload hx hb dL_law_1345 (lv_at hl 4 rfl) ?_
  refine lv_iconst (v := (1 : Int32)) hx hb dL_law_1347 (by decide) ?_
  refine lv_iadd hx hb dL_law_1348 ?_
  refine va_sld hx hb hX hbl hbA hS hi1 dL_law_1349 ?_
  refine lv_aload_n hx hb dL_law_1350 rfl (lv_at hl 3 rfl) ?_
  refine rwHi (wr := mdW cI bm M) (As := [.ref (G 2 0), .int (xs (Int32.toNatClampNeg (i + (1 : Int32)))), .ref o]) (rest := []) lwH_f F (c_L_letter l hst D cI cS cJ G o (N, O) H.size (xs (Int32.toNatClampNeg (i + (1 : Int32)))) h) (cwH_letter hts (Nat.le_of_ble_eq_true rfl) (Nat.le_of_ble_eq_true rfl)) hK hV hH hP hD hS hA rfl hl.1 rfl (Nat.le_of_ble_eq_true rfl) dL_law_1351 ⟨show cs + 1 ≤ 601024 by omega, show ss + 6 ≤ 7293034 by omega⟩ (fun r1 u2 H locs h hP hD hS => ?_)
  have hP : va_P D vwCl (lwW cI cS cJ G o bm (u2.1, u2.2, M)) H := vP_perm lwH_b hP
  have hD : va_D A (lwW cI cS cJ G o bm (u2.1, u2.2, M)) := vD_perm lwH_b hD
  refine lv_istore (lv' := [(5, .int r1), (0, .ref b), (1, .ref (G 2 0)), (2, .ref (bm 0)), (3, .ref o), (4, .int i)]) hx hb dL_law_1354 hl (by decide) rfl (fun ls hl => ?_)
  refine lv_aload_n hx hb dL_law_1356 rfl (lv_at hl 3 rfl) ?_
  refine lv_aload_n hx hb dL_law_1357 rfl (lv_at hl 1 rfl) ?_
  refine lv_iload hx hb dL_law_1358 (lv_at hl 5 rfl) ?_
  refine lv_iconst (v := (1 : Int32)) hx hb dL_law_1360 (by decide) ?_
  refine lv_iadd hx hb dL_law_1361 ?_
  refine va_sld hx hb hX hbl hbA hS hi1 dL_law_1362 ?_
  refine rwVi (wr := lwMr cI cS cJ G o (u2.1, u2.2)) (As := [.int (xs (Int32.toNatClampNeg (i + (1 : Int32))))]) (rest := []) lwM_f F (c_X4_letter l D cI cS cJ bm M H.size (xs (Int32.toNatClampNeg (i + (1 : Int32)))) h) (cw_L_173 hts (Nat.le_of_ble_eq_true rfl) (Nat.le_of_ble_eq_true rfl)) hK hP hD hS hA (recv (ci := 4) (k0 := 69) hK hP rfl rfl) rfl hl.1 rfl (Nat.le_of_ble_eq_true rfl) dL_law_1363 ⟨show (cs + 1) + 0 ≤ 601024 by omega, show (ss + 6) + 0 ≤ 7293034 by omega⟩ (fun r3 u4 H locs h hP hD hS => ?_)
  have hP : va_P D vwCl (lwW cI cS cJ G o bm (u2.1, u2.2, u4)) H := vP_perm (lwM_b u4) hP
  have hD : va_D A (lwW cI cS cJ G o bm (u2.1, u2.2, u4)) := vD_perm (lwM_b u4) hD
  refine lv_istore (lv' := [(6, .int r3), (5, .int r1), (0, .ref b), (1, .ref (G 2 0)), (2, .ref (bm 0)), (3, .ref o), (4, .int i)]) hx hb dL_law_1366 hl (by decide) rfl (fun ls hl => ?_)
  refine lv_aload_n hx hb dL_law_1368 rfl (lv_at hl 4 rfl) ?_
  refine roVi (As := []) (rest := []) F (c_X4_thrown l D cI cS cJ bm u4 H  h) (cw_L_107 hts (Nat.le_of_ble_eq_true rfl) (Nat.le_of_ble_eq_true rfl)) hK (vP_L (vP_perm lwM_f hP)) (recv (ci := 4) (k0 := 69) hK hP rfl rfl) rfl hl.1 rfl (Nat.le_of_ble_eq_true rfl) dL_law_1369 ⟨show ((cs + 1) + 0) + 0 ≤ 601024 by omega, show ((ss + 6) + 0) + 0 ≤ 7293034 by omega⟩ (fun r5 h => ?_)
  refine lv_iload hx hb dL_law_1372 (lv_at hl 1 rfl) ?_
  refine lv_icmp_eq (tgt := 1379) hx hb dL_law_1374 (by decide) (fun c6 => ?_) (fun c6 => ?_)
  · replace h := h.1 c6
    refine lv_iload hx hb dL_law_1379 (lv_at hl 1 rfl) ?_
    refine lv_if_ne (tgt := 1396) hx hb dL_law_1381 (by decide) (fun c7 => ?_) (fun c7 => ?_)
    · replace h := h.1 c7
      refine lv_goto (tgt := 1874) hx hb dL_law_1396 (by decide) ?_
      refine W.widen (k := cs + 2) (n := ss + 12) (by omega) (by omega) ?_
      exact cont s.drawn _ _ _ _ _ _ (Drawn.sameBut.refl _ _) (lv_sub hl [2, 3, 4, 5, 6] rfl) hP hD hS h
    · replace h := h.2 c7
      refine lv_aload_n hx hb dL_law_1384 rfl (lv_at hl 5 rfl) ?_
      refine lv_iconst (v := (0 : Int32)) hx hb dL_law_1385 (by decide) ?_
      refine va_lald hx hb hK.k hP 0 2 rfl rfl in01 dL_law_1386 ?_
      refine lv_iload hx hb dL_law_1387 (lv_at hl 0 rfl) ?_
      refine lv_i2l (v := (Int32.toInt64 r3)) hx hb dL_law_1389 rfl ?_
      refine W.lcmp hx hb dL_law_1390 ?_
      refine lv_if_eq (tgt := 1396) hx hb dL_law_1391 (by decide) (fun c8 => ?_) (fun c8 => ?_)
      · replace h := h.1 c8
        refine lv_goto (tgt := 1874) hx hb dL_law_1396 (by decide) ?_
        refine W.widen (k := cs + 2) (n := ss + 12) (by omega) (by omega) ?_
        exact cont s.drawn _ _ _ _ _ _ (Drawn.sameBut.refl _ _) (lv_sub hl [2, 3, 4, 5, 6] rfl) hP hD hS h
      · replace h := h.2 c8
        refine lv_iconst (v := (0 : Int32)) hx hb dL_law_1394 (by decide) ?_
        exact h.elim
  · replace h := h.2 c6
    refine lv_iconst (v := (0 : Int32)) hx hb dL_law_1377 (by decide) ?_
    exact h.elim

def wp_law_20 (xs : Nat → Int32) (i : Int32) (N : Ne) (O : Nat → Int64) (M : Md) (post : Ne → (Nat → Int64) → Md → Prop) : Prop :=
  wp_X3_lastAnswer N (fun r1 => wp_X4_lastAnswer M (fun r2 u3 => (r1 = r2 → post N O u3) ∧ (¬ r1 = r2 → False)))
set_option maxHeartbeats 4000000 in
set_option maxRecDepth 100000 in
theorem c_law_20 {p : Program} {l : Launch} {e : Env} {s : State} {m : MethodId} {args : Array Value} {below : List Frame} {meth : Method} {c : Code} {Q : State → Prop} {A : Nat → Prop} {D : va_G} {cI cS cJ : ClassId} {G : Nat → Nat → Nat} {o : Nat} {bm : Nat → Nat} {b L cs ss : Nat} {xs : Nat → Int32} {i : Int32} {N : Ne} {O : Nat → Int64} {M : Md} {H : Heap} {locs : List Loc} {ls : Array Slot} (C : lwC p l s m args c A D cI cS cJ b L xs) (hi0 : vp_in i L) (hi1 : vp_in (i + 1) L) (hi2 : vp_in (i + 2) L) (hi3 : vp_in (i + 3) L) (hi4 : vp_in (i + 4) L) (hcs : cs + 2 ≤ 601024) (hss : ss + 12 ≤ 7293034) (hl : lv_has ls 9 [(0, .ref b), (1, .ref (G 2 0)), (2, .ref (bm 0)), (3, .ref o), (4, .int i)]) (hP : va_P D vwCl (lwW cI cS cJ G o bm (N, O, M)) H) (hD : va_D A (lwW cI cS cJ G o bm (N, O, M))) (hS : va_S A s.heap H locs) {post : Ne → (Nat → Int64) → Md → Prop} (h : wp_law_20 xs i N O M post)
    (cont : ∀ (d' : Drawn) (N : Ne) (O : Nat → Int64) (M : Md) (H : Heap) (locs : List Loc) (ls : Array Slot), s.drawn.sameBut d' lw_cs → lv_has ls 9 [(0, .ref b), (1, .ref (G 2 0)), (2, .ref (bm 0)), (3, .ref o), (4, .int i)] → va_P D vwCl (lwW cI cS cJ G o bm (N, O, M)) H → va_D A (lwW cI cS cJ G o bm (N, O, M)) → va_S A s.heap H locs → post N O M → W p l e room_1 (s.setDrawn d') m args below meth c H locs (cs + 2) (ss + 12) Q (F0 m 1874 ls [])) :
    W p l e room_1 s m args below meth c H locs cs ss Q (F0 m 1399 ls []) := by
  obtain ⟨hst, FC, hK0, hV, hH, hX, hbl, hbA, hA⟩ := C
  have hx := FC.1
  have hb := FC.2.1
  have hown := FC.2.2.2.1
  have hts := FC.2.2.2.2
  have F := FC
  have hK := hK0
  unfold wp_law_20 at h
  refine lv_aload_n hx hb dL_law_1399 rfl (lv_at hl 1 rfl) ?_
  refine roVi (As := []) (rest := []) F (c_X3_lastAnswer l D cI cS cJ G N H  h) (cw_L_174 hts (Nat.le_of_ble_eq_true rfl) (Nat.le_of_ble_eq_true rfl)) hK (vP_L (vP_perm lwN_f hP)) (recv (ci := 3) (k0 := 1) hK hP rfl rfl) rfl hl.1 rfl (Nat.le_of_ble_eq_true rfl) dL_law_1400 ⟨show cs + 0 ≤ 601024 by omega, show ss + 0 ≤ 7293034 by omega⟩ (fun r1 h => ?_)
  refine lv_aload_n hx hb dL_law_1403 rfl (lv_at hl 2 rfl) ?_
  refine rwVi (wr := lwMr cI cS cJ G o (N, O)) (As := []) (rest := [.int r1]) lwM_f F (c_X4_lastAnswer l D cI cS cJ bm M H.size  h) (cw_L_177 hts (Nat.le_of_ble_eq_true rfl) (Nat.le_of_ble_eq_true rfl)) hK hP hD hS hA (recv (ci := 4) (k0 := 69) hK hP rfl rfl) rfl hl.1 rfl (Nat.le_of_ble_eq_true rfl) dL_law_1404 ⟨show cs + 0 ≤ 601024 by omega, show ss + 0 ≤ 7293034 by omega⟩ (fun r2 u3 H locs h hP hD hS => ?_)
  have hP : va_P D vwCl (lwW cI cS cJ G o bm (N, O, u3)) H := vP_perm (lwM_b u3) hP
  have hD : va_D A (lwW cI cS cJ G o bm (N, O, u3)) := vD_perm (lwM_b u3) hD
  refine lv_icmp_eq (tgt := 1874) hx hb dL_law_1407 (by decide) (fun c4 => ?_) (fun c4 => ?_)
  · replace h := h.1 c4
    refine W.widen (k := cs + 2) (n := ss + 12) (by omega) (by omega) ?_
    exact cont s.drawn _ _ _ _ _ _ (Drawn.sameBut.refl _ _) (lv_sub hl [0, 1, 2, 3, 4] rfl) hP hD hS h
  · replace h := h.2 c4
    refine lv_iconst (v := (0 : Int32)) hx hb dL_law_1410 (by decide) ?_
    exact h.elim

def wp_law_21 (xs : Nat → Int32) (i : Int32) (N : Ne) (O : Nat → Int64) (M : Md) (post : Ne → (Nat → Int64) → Md → Prop) : Prop :=
  wp_L_count (N, O) (xs (Int32.toNatClampNeg (i + (1 : Int32)))) (fun r1 u2 => wp_X4_count M (xs (Int32.toNatClampNeg (i + (1 : Int32)))) (fun r3 u4 => wp_X4_thrown u4 (fun r5 => (r5 = r1 → (¬ r1 = 0 → post u2.1 u2.2 u4) ∧ (r1 = 0 → ((lg_cmp (u2.2 (Int32.toNatClampNeg (0 : Int32))) (Int32.toInt64 r3)) = 0 → post u2.1 u2.2 u4) ∧ (¬ (lg_cmp (u2.2 (Int32.toNatClampNeg (0 : Int32))) (Int32.toInt64 r3)) = 0 → False))) ∧ (¬ r5 = r1 → False))))
set_option maxHeartbeats 4000000 in
set_option maxRecDepth 100000 in
theorem c_law_21 {p : Program} {l : Launch} {e : Env} {s : State} {m : MethodId} {args : Array Value} {below : List Frame} {meth : Method} {c : Code} {Q : State → Prop} {A : Nat → Prop} {D : va_G} {cI cS cJ : ClassId} {G : Nat → Nat → Nat} {o : Nat} {bm : Nat → Nat} {b L cs ss : Nat} {xs : Nat → Int32} {i : Int32} {N : Ne} {O : Nat → Int64} {M : Md} {H : Heap} {locs : List Loc} {ls : Array Slot} (C : lwC p l s m args c A D cI cS cJ b L xs) (hi0 : vp_in i L) (hi1 : vp_in (i + 1) L) (hi2 : vp_in (i + 2) L) (hi3 : vp_in (i + 3) L) (hi4 : vp_in (i + 4) L) (hcs : cs + 2 ≤ 601024) (hss : ss + 12 ≤ 7293034) (hl : lv_has ls 9 [(0, .ref b), (1, .ref (G 2 0)), (2, .ref (bm 0)), (3, .ref o), (4, .int i)]) (hP : va_P D vwCl (lwW cI cS cJ G o bm (N, O, M)) H) (hD : va_D A (lwW cI cS cJ G o bm (N, O, M))) (hS : va_S A s.heap H locs) {post : Ne → (Nat → Int64) → Md → Prop} (h : wp_law_21 xs i N O M post)
    (cont : ∀ (d' : Drawn) (N : Ne) (O : Nat → Int64) (M : Md) (H : Heap) (locs : List Loc) (ls : Array Slot), s.drawn.sameBut d' lw_cs → lv_has ls 9 [(0, .ref b), (1, .ref (G 2 0)), (2, .ref (bm 0)), (3, .ref o), (4, .int i)] → va_P D vwCl (lwW cI cS cJ G o bm (N, O, M)) H → va_D A (lwW cI cS cJ G o bm (N, O, M)) → va_S A s.heap H locs → post N O M → W p l e room_1 (s.setDrawn d') m args below meth c H locs (cs + 2) (ss + 12) Q (F0 m 1874 ls [])) :
    W p l e room_1 s m args below meth c H locs cs ss Q (F0 m 1412 ls []) := by
  obtain ⟨hst, FC, hK0, hV, hH, hX, hbl, hbA, hA⟩ := C
  have hx := FC.1
  have hb := FC.2.1
  have hown := FC.2.2.2.1
  have hts := FC.2.2.2.2
  have F := FC
  have hK := hK0
  unfold wp_law_21 at h
  refine lv_aload_n hx hb dL_law_1412 rfl (lv_at hl 1 rfl) ?_
  refine lv_aload_n hx hb dL_law_1413 rfl (lv_at hl 0 rfl) ?_
  refine lv_iload hx hb dL_law_1414 (lv_at hl 4 rfl) ?_
  refine lv_iconst (v := (1 : Int32)) hx hb dL_law_1416 (by decide) ?_
  refine lv_iadd hx hb dL_law_1417 ?_
  refine va_sld hx hb hX hbl hbA hS hi1 dL_law_1418 ?_
  refine lv_aload_n hx hb dL_law_1419 rfl (lv_at hl 3 rfl) ?_
  refine rwHi (wr := mdW cI bm M) (As := [.ref (G 2 0), .int (xs (Int32.toNatClampNeg (i + (1 : Int32)))), .ref o]) (rest := []) lwH_f F (c_L_count l hst D cI cS cJ G o (N, O) H.size (xs (Int32.toNatClampNeg (i + (1 : Int32)))) h) (cwH_count hts (Nat.le_of_ble_eq_true rfl) (Nat.le_of_ble_eq_true rfl)) hK hV hH hP hD hS hA rfl hl.1 rfl (Nat.le_of_ble_eq_true rfl) dL_law_1420 ⟨show cs + 1 ≤ 601024 by omega, show ss + 6 ≤ 7293034 by omega⟩ (fun r1 u2 H locs h hP hD hS => ?_)
  have hP : va_P D vwCl (lwW cI cS cJ G o bm (u2.1, u2.2, M)) H := vP_perm lwH_b hP
  have hD : va_D A (lwW cI cS cJ G o bm (u2.1, u2.2, M)) := vD_perm lwH_b hD
  refine lv_istore (lv' := [(5, .int r1), (0, .ref b), (1, .ref (G 2 0)), (2, .ref (bm 0)), (3, .ref o), (4, .int i)]) hx hb dL_law_1423 hl (by decide) rfl (fun ls hl => ?_)
  refine lv_aload_n hx hb dL_law_1425 rfl (lv_at hl 3 rfl) ?_
  refine lv_aload_n hx hb dL_law_1426 rfl (lv_at hl 1 rfl) ?_
  refine lv_iload hx hb dL_law_1427 (lv_at hl 5 rfl) ?_
  refine lv_iconst (v := (1 : Int32)) hx hb dL_law_1429 (by decide) ?_
  refine lv_iadd hx hb dL_law_1430 ?_
  refine va_sld hx hb hX hbl hbA hS hi1 dL_law_1431 ?_
  refine rwVi (wr := lwMr cI cS cJ G o (u2.1, u2.2)) (As := [.int (xs (Int32.toNatClampNeg (i + (1 : Int32))))]) (rest := []) lwM_f F (c_X4_count l D cI cS cJ bm M H.size (xs (Int32.toNatClampNeg (i + (1 : Int32)))) h) (cw_L_180 hts (Nat.le_of_ble_eq_true rfl) (Nat.le_of_ble_eq_true rfl)) hK hP hD hS hA (recv (ci := 4) (k0 := 69) hK hP rfl rfl) rfl hl.1 rfl (Nat.le_of_ble_eq_true rfl) dL_law_1432 ⟨show (cs + 1) + 0 ≤ 601024 by omega, show (ss + 6) + 0 ≤ 7293034 by omega⟩ (fun r3 u4 H locs h hP hD hS => ?_)
  have hP : va_P D vwCl (lwW cI cS cJ G o bm (u2.1, u2.2, u4)) H := vP_perm (lwM_b u4) hP
  have hD : va_D A (lwW cI cS cJ G o bm (u2.1, u2.2, u4)) := vD_perm (lwM_b u4) hD
  refine lv_istore (lv' := [(6, .int r3), (5, .int r1), (0, .ref b), (1, .ref (G 2 0)), (2, .ref (bm 0)), (3, .ref o), (4, .int i)]) hx hb dL_law_1435 hl (by decide) rfl (fun ls hl => ?_)
  refine lv_aload_n hx hb dL_law_1437 rfl (lv_at hl 4 rfl) ?_
  refine roVi (As := []) (rest := []) F (c_X4_thrown l D cI cS cJ bm u4 H  h) (cw_L_107 hts (Nat.le_of_ble_eq_true rfl) (Nat.le_of_ble_eq_true rfl)) hK (vP_L (vP_perm lwM_f hP)) (recv (ci := 4) (k0 := 69) hK hP rfl rfl) rfl hl.1 rfl (Nat.le_of_ble_eq_true rfl) dL_law_1438 ⟨show ((cs + 1) + 0) + 0 ≤ 601024 by omega, show ((ss + 6) + 0) + 0 ≤ 7293034 by omega⟩ (fun r5 h => ?_)
  refine lv_iload hx hb dL_law_1441 (lv_at hl 1 rfl) ?_
  refine lv_icmp_eq (tgt := 1448) hx hb dL_law_1443 (by decide) (fun c6 => ?_) (fun c6 => ?_)
  · replace h := h.1 c6
    refine lv_iload hx hb dL_law_1448 (lv_at hl 1 rfl) ?_
    refine lv_if_ne (tgt := 1465) hx hb dL_law_1450 (by decide) (fun c7 => ?_) (fun c7 => ?_)
    · replace h := h.1 c7
      refine lv_goto (tgt := 1874) hx hb dL_law_1465 (by decide) ?_
      refine W.widen (k := cs + 2) (n := ss + 12) (by omega) (by omega) ?_
      exact cont s.drawn _ _ _ _ _ _ (Drawn.sameBut.refl _ _) (lv_sub hl [2, 3, 4, 5, 6] rfl) hP hD hS h
    · replace h := h.2 c7
      refine lv_aload_n hx hb dL_law_1453 rfl (lv_at hl 5 rfl) ?_
      refine lv_iconst (v := (0 : Int32)) hx hb dL_law_1454 (by decide) ?_
      refine va_lald hx hb hK.k hP 0 2 rfl rfl in01 dL_law_1455 ?_
      refine lv_iload hx hb dL_law_1456 (lv_at hl 0 rfl) ?_
      refine lv_i2l (v := (Int32.toInt64 r3)) hx hb dL_law_1458 rfl ?_
      refine W.lcmp hx hb dL_law_1459 ?_
      refine lv_if_eq (tgt := 1465) hx hb dL_law_1460 (by decide) (fun c8 => ?_) (fun c8 => ?_)
      · replace h := h.1 c8
        refine lv_goto (tgt := 1874) hx hb dL_law_1465 (by decide) ?_
        refine W.widen (k := cs + 2) (n := ss + 12) (by omega) (by omega) ?_
        exact cont s.drawn _ _ _ _ _ _ (Drawn.sameBut.refl _ _) (lv_sub hl [2, 3, 4, 5, 6] rfl) hP hD hS h
      · replace h := h.2 c8
        refine lv_iconst (v := (0 : Int32)) hx hb dL_law_1463 (by decide) ?_
        exact h.elim
  · replace h := h.2 c6
    refine lv_iconst (v := (0 : Int32)) hx hb dL_law_1446 (by decide) ?_
    exact h.elim
