/-! The law: the end of a turn, the turn, its loop. -/
set_option maxHeartbeats 4000000 in
set_option maxRecDepth 100000 in
theorem law_end {p : Program} {l : Launch} {e : Env} {s : State} {m : MethodId} {below : List Frame} {meth : Method} {c : Code} {b L : Nat} {xs : Nat → Int32} {G : fw_G} (E0 : lw_E p l s m c b L xs G) {x q2 q3 q4 q5 i9 i nC nT nO T : Nat} {c1 n1 : Nat} {Q : State → Prop} {v w : Int32} (hi : i9 = i + 1) (hi5 : i < 50) (hc1 : c1 + 180 ≤ 827442) (hn1 : n1 + 3000 ≤ 6619141) {F : fw_F} {H : Heap} {locs : List Loc} {ls : Array Slot} (hR : p4_R G F x q2 q3 q4 q5 i9 nC nT nO T) (hw : fw_S G (fun q : Nat => s.heap.size ≤ q) s F H locs) (hl : lv_has ls 24 [(14, .int (nI 1)), (0, .ref b), (1, .ref x), (2, .ref q2), (3, .ref q3), (4, .ref q4), (5, .ref q5), (6, .int (nI nC)), (7, .int (nI nT)), (8, .int (nI nO)), (9, .int (nI T)), (10, .int (nI i)), (11, .int v), (12, .int w)])
    (K : ∀ (F : fw_F) (H : Heap) (locs : List Loc) (ls : Array Slot), fw_S G (fun q : Nat => s.heap.size ≤ q) s F H locs → p4_R G F x q2 q3 q4 q5 i9 nC nT nO T → lv_has ls 24 [(0, .ref b), (1, .ref x), (2, .ref q2), (3, .ref q3), (4, .ref q4), (5, .ref q5), (6, .int (nI nC)), (7, .int (nI nT)), (8, .int (nI nO)), (9, .int (nI T)), (10, .int (nI (i + 1)))] → W p l e room_1 s m #[Value.ref b] below meth c H locs (c1 + 180) (n1 + 3000) Q (F0 m 45 ls [])) : W p l e room_1 s m #[Value.ref b] below meth c H locs (c1) (n1) Q (F0 m 669 ls []) := by
  obtain ⟨hx, hb, hml, hown, hT, hz, hcx, hl9, hX9, hbl, hL, hAn⟩ := E0
  have C : CallFix p m c code 24 s #[Value.ref b] fw_tb RL := ⟨hx, hb, hml, hown, hT⟩
  have hbA : ¬ (fun q : Nat => s.heap.size ≤ q) b := Nat.not_le.mpr hbl
  have hR0 := hR
  obtain ⟨f, nJ, h, gA, gB, gO, gH, hA, hT60, hCL, hPU, hPV⟩ := hR
  have hCL0 := hCL
  obtain ⟨lc, lt, lo, lm, lw, dr, ds, dfr, ca, ta, sl, fr, oa, tr, ml, ma, ja, da, wj, sa, ms, nW, hX, hC, hT1, hTr, hO1, hK, hI, hZ, hD, htr⟩ := hCL
  have hc10 := hC.1
  have ht8 := hT1.1
  have ho12 := hO1.1
  have hj96 := hI.j96
  have hV := hPV
  refine lv_iload hx hb dL_law_669 (lv_at hl 8 rfl) ?_
  refine lv_if_ne (tgt := 678) hx hb dL_law_671 (by decide) (fun d => ?_) (fun d => ?_)
  · have d : ¬ nT = 0 := fun h9 => d ((nI_eq (a := nT) (b := 0) (by omega) (by omega)).mpr h9)
    refine lv_iload hx hb dL_law_678 (lv_at hl 13 rfl) ?_
    refine lv_iconst (v := (nI 3)) hx hb dL_law_680 (by decide) ?_
    refine lv_ishr hx hb dL_law_681 ?_
    refine lv_topi (fun s1 _ => ?_)
    refine lv_iload hx hb dL_law_682 (lv_at hl 8 rfl) ?_
    refine fw_calli (fw_runS (As := [.int s1, .int (nI nT)]) (rest := []) C hz hw (c_L_low l G _ _ s1 nT (by omega) (by omega)) (fw_cwS hT wd_601 ySL_low rfl rfl ⟨Nat.le_of_ble_eq_true rfl, Nat.le_of_ble_eq_true rfl⟩) rfl hl.1 rfl (Nat.le_of_ble_eq_true rfl) dL_law_684 ⟨by show c1 + 0 + 0 ≤ 827442; omega, by show n1 + 0 + 0 ≤ 6619141; omega⟩) hw (fun r F1 H locs hw hp => ?_)
    refine W.widen (k := c1 + 0) (n := n1 + 0) (by omega) (by omega) ?_
    obtain ⟨hF1, j1, hj1, hr9⟩ := hp
    rw [hF1] at hw
    rw [hr9]
    refine lv_istore (lv' := [(15, .int (nI j1)), (14, .int (nI 1)), (0, .ref b), (1, .ref x), (2, .ref q2), (3, .ref q3), (4, .ref q4), (5, .ref q5), (6, .int (nI nC)), (7, .int (nI nT)), (8, .int (nI nO)), (9, .int (nI T)), (10, .int (nI i)), (11, .int v), (12, .int w)]) hx hb dL_law_687 hl (by decide) rfl (fun ls hl => ?_)
    refine lv_iload hx hb dL_law_689 (lv_at hl 1 rfl) ?_
    refine lv_if_eq (tgt := 734) hx hb dL_law_691 (by decide) (fun cx => absurd cx (by decide)) (fun cx => ?_)
    refine lv_aload_n hx hb dL_law_694 rfl (lv_at hl 3 rfl) ?_
    refine lv_iload hx hb dL_law_695 (lv_at hl 10 rfl) ?_
    refine lv_iload hx hb dL_law_697 (lv_at hl 8 rfl) ?_
    refine fw_calli (fw_runSP (As := [.ref x, .int (nI nO), .int (nI nC)]) (rest := []) C hz hcx hw (c_L_areJobs l G _ _ x nC nT nO nJ 0 T f hl9 hCL0 hPU hV.1 hV.2.1 hV.2.2.1 hV.2.2.2.1 (by omega)) (fw_cwS hT wd_605 ySL_areJobs rfl rfl ⟨Nat.le_of_ble_eq_true rfl, Nat.le_of_ble_eq_true rfl⟩) rfl hl.1 rfl (Nat.le_of_ble_eq_true rfl) dL_law_699 ⟨by show c1 + 0 + 100 ≤ 827442; omega, by show n1 + 0 + 600 ≤ 6619141; omega⟩) hw (fun r F1 H locs hw hp => ?_)
    refine W.widen (k := c1 + 100) (n := n1 + 600) (by omega) (by omega) ?_
    obtain ⟨hF1, hr9⟩ := hp
    rw [hF1] at hw
    rw [hr9]
    refine lv_if_eq (tgt := 734) hx hb dL_law_702 (by decide) (fun cx => absurd cx (by decide)) (fun cx => ?_)
    refine lv_iload hx hb dL_law_705 (lv_at hl 9 rfl) ?_
    refine lv_if_le (tgt := 736) hx hb dL_law_707 (by decide) (fun d2 => ?_) (fun d2 => ?_)
    · have d2 := (nI_leI (a := nT) (b := 0) (by omega) (by omega)).mp d2
      omega
    · have d2 : ¬ nT ≤ 0 := fun h9 => d2 ((nI_leI (a := nT) (b := 0) (by omega) (by omega)).mpr h9)
      obtain ⟨eA, eB⟩ := hV.2.2.2.2.2.2.1 j1 hj1
      refine lv_aload_n hx hb dL_law_710 rfl (lv_at hl 3 rfl) ?_
      refine lv_iload hx hb dL_law_711 (lv_at hl 0 rfl) ?_
      refine lv_aload_n hx hb dL_law_713 rfl (lv_at hl 4 rfl) ?_
      refine lv_iload hx hb dL_law_714 (lv_at hl 0 rfl) ?_
      refine fw_iald hx hb hz hw hA.1 (vp_in_nI (show j1 < 8 by omega) (by omega)) dL_law_716 ?_
      rw [nI_clamp (show j1 < 2 ^ 31 by omega)]
      refine fw_top (x' := (nI (rf_P f j1 2))) (eA) ?_
      refine lv_aload_n hx hb dL_law_717 rfl (lv_at hl 5 rfl) ?_
      refine lv_iload hx hb dL_law_718 (lv_at hl 0 rfl) ?_
      refine fw_iald hx hb hz hw hA.2.1 (vp_in_nI (show j1 < 8 by omega) (by omega)) dL_law_720 ?_
      rw [nI_clamp (show j1 < 2 ^ 31 by omega)]
      refine fw_top (x' := (nI (rf_P f j1 1))) (eB) ?_
      refine lv_iload hx hb dL_law_721 (lv_at hl 13 rfl) ?_
      refine lv_ldc (v := nI 600001) hx hb hown (hT _ wd_660) dL_law_723 ?_
      refine fw_calli (fw_runS (As := [.int v, .int (nI 600001)]) (rest := [.int (nI (rf_P f j1 1)), .int (nI (rf_P f j1 2)), .int (nI j1), .ref x]) C hz hw (c_L_low l G _ _ v 600001 (Nat.le_of_ble_eq_true rfl) (Nat.le_of_ble_eq_true rfl)) (fw_cwS hT wd_601 ySL_low rfl rfl ⟨Nat.le_of_ble_eq_true rfl, Nat.le_of_ble_eq_true rfl⟩) rfl hl.1 rfl (Nat.le_of_ble_eq_true rfl) dL_law_725 ⟨by show c1 + 100 + 0 ≤ 827442; omega, by show n1 + 600 + 0 ≤ 6619141; omega⟩) hw (fun r F1 H locs hw hp => ?_)
      refine W.widen (k := c1 + 100) (n := n1 + 600) (by omega) (by omega) ?_
      obtain ⟨hF1, j2, hj2, hr9⟩ := hp
      rw [hF1] at hw
      rw [hr9]
      refine fw_calli (fw_runSP (As := [.ref x, .int (nI j1), .int (nI (rf_P f j1 2)), .int (nI (rf_P f j1 1)), .int (nI j2)]) (rest := []) C hz hcx hw (c_L_isTrain l G _ _ x nC nT nO nJ 0 T j1 j2 f hl9 hCL0 hPU hj1 (by omega)) (fw_cwS hT wd_629 ySL_isTrain rfl rfl ⟨Nat.le_of_ble_eq_true rfl, Nat.le_of_ble_eq_true rfl⟩) rfl hl.1 rfl (Nat.le_of_ble_eq_true rfl) dL_law_728 ⟨by show c1 + 100 + 11 ≤ 827442; omega, by show n1 + 600 + 54 ≤ 6619141; omega⟩) hw (fun r F1 H locs hw hp => ?_)
      refine W.widen (k := c1 + 111) (n := n1 + 654) (by omega) (by omega) ?_
      obtain ⟨hr9, hk9⟩ := hp
      rw [hr9]
      refine lv_if_ne (tgt := 736) hx hb dL_law_731 (by decide) (fun cx => ?_) (fun cx => absurd cx (by decide))
      refine lv_iinc (v := (nI (i + 1))) (lv' := [(10, .int (nI (i + 1))), (15, .int (nI j1)), (14, .int (nI 1)), (0, .ref b), (1, .ref x), (2, .ref q2), (3, .ref q3), (4, .ref q4), (5, .ref q5), (6, .int (nI nC)), (7, .int (nI nT)), (8, .int (nI nO)), (9, .int (nI T)), (11, .int v), (12, .int w)]) hx hb dL_law_736 hl (k := 12) rfl (nI_1 _) (by decide) rfl (fun ls hl => ?_)
      refine lv_goto (tgt := 45) hx hb dL_law_739 (by decide) ?_
      refine W.widen (k := c1 + 180) (n := n1 + 3000) (by omega) (by omega) ?_
      exact K _ _ _ _ hw ⟨f, nJ, h, gA, gB, gO, gH, hA.kp hk9 (fun t z => by omega), hT60, hCL0.kp (hk9.wk (fun t z => Or.inr z)), hPU, hPV⟩ (lv_sub hl [3, 4, 5, 6, 7, 8, 9, 10, 11, 12, 0] rfl)
  · have d := (nI_eq (a := nT) (b := 0) (by omega) (by omega)).mp d
    refine lv_iconst (v := (nI 0)) hx hb dL_law_674 (by decide) ?_
    refine lv_goto (tgt := 687) hx hb dL_law_675 (by decide) ?_
    refine lv_istore (lv' := [(15, .int (nI 0)), (14, .int (nI 1)), (0, .ref b), (1, .ref x), (2, .ref q2), (3, .ref q3), (4, .ref q4), (5, .ref q5), (6, .int (nI nC)), (7, .int (nI nT)), (8, .int (nI nO)), (9, .int (nI T)), (10, .int (nI i)), (11, .int v), (12, .int w)]) hx hb dL_law_687 hl (by decide) rfl (fun ls hl => ?_)
    refine lv_iload hx hb dL_law_689 (lv_at hl 1 rfl) ?_
    refine lv_if_eq (tgt := 734) hx hb dL_law_691 (by decide) (fun cx => absurd cx (by decide)) (fun cx => ?_)
    refine lv_aload_n hx hb dL_law_694 rfl (lv_at hl 3 rfl) ?_
    refine lv_iload hx hb dL_law_695 (lv_at hl 10 rfl) ?_
    refine lv_iload hx hb dL_law_697 (lv_at hl 8 rfl) ?_
    refine fw_calli (fw_runSP (As := [.ref x, .int (nI nO), .int (nI nC)]) (rest := []) C hz hcx hw (c_L_areJobs l G _ _ x nC nT nO nJ 0 T f hl9 hCL0 hPU hV.1 hV.2.1 hV.2.2.1 hV.2.2.2.1 (by omega)) (fw_cwS hT wd_605 ySL_areJobs rfl rfl ⟨Nat.le_of_ble_eq_true rfl, Nat.le_of_ble_eq_true rfl⟩) rfl hl.1 rfl (Nat.le_of_ble_eq_true rfl) dL_law_699 ⟨by show c1 + 0 + 100 ≤ 827442; omega, by show n1 + 0 + 600 ≤ 6619141; omega⟩) hw (fun r F1 H locs hw hp => ?_)
    refine W.widen (k := c1 + 100) (n := n1 + 600) (by omega) (by omega) ?_
    obtain ⟨hF1, hr9⟩ := hp
    rw [hF1] at hw
    rw [hr9]
    refine lv_if_eq (tgt := 734) hx hb dL_law_702 (by decide) (fun cx => absurd cx (by decide)) (fun cx => ?_)
    refine lv_iload hx hb dL_law_705 (lv_at hl 9 rfl) ?_
    refine lv_if_le (tgt := 736) hx hb dL_law_707 (by decide) (fun d2 => ?_) (fun d2 => ?_)
    · have d2 := (nI_leI (a := nT) (b := 0) (by omega) (by omega)).mp d2
      refine lv_iinc (v := (nI (i + 1))) (lv' := [(10, .int (nI (i + 1))), (15, .int (nI 0)), (14, .int (nI 1)), (0, .ref b), (1, .ref x), (2, .ref q2), (3, .ref q3), (4, .ref q4), (5, .ref q5), (6, .int (nI nC)), (7, .int (nI nT)), (8, .int (nI nO)), (9, .int (nI T)), (11, .int v), (12, .int w)]) hx hb dL_law_736 hl (k := 12) rfl (nI_1 _) (by decide) rfl (fun ls hl => ?_)
      refine lv_goto (tgt := 45) hx hb dL_law_739 (by decide) ?_
      refine W.widen (k := c1 + 180) (n := n1 + 3000) (by omega) (by omega) ?_
      exact K _ _ _ _ hw hR0 (lv_sub hl [3, 4, 5, 6, 7, 8, 9, 10, 11, 12, 0] rfl)
    · have d2 : ¬ nT ≤ 0 := fun h9 => d2 ((nI_leI (a := nT) (b := 0) (by omega) (by omega)).mpr h9)
      omega
set_option maxHeartbeats 4000000 in
set_option maxRecDepth 100000 in
theorem law_turn {p : Program} {l : Launch} {e : Env} {s : State} {m : MethodId} {below : List Frame} {meth : Method} {c : Code} {b L : Nat} {xs : Nat → Int32} {G : fw_G} (E0 : lw_E p l s m c b L xs G) {x q2 q3 q4 q5 i nC nT nO T : Nat} {c1 n1 : Nat} {Q : State → Prop} (hi : i < 50) (hc1 : c1 + 300 ≤ 827442) (hn1 : n1 + 12000 ≤ 6619141) {F : fw_F} {H : Heap} {locs : List Loc} {ls : Array Slot} (hR : p4_R G F x q2 q3 q4 q5 i nC nT nO T) (hw : fw_S G (fun q : Nat => s.heap.size ≤ q) s F H locs) (hl : lv_has ls 24 [(0, .ref b), (1, .ref x), (2, .ref q2), (3, .ref q3), (4, .ref q4), (5, .ref q5), (6, .int (nI nC)), (7, .int (nI nT)), (8, .int (nI nO)), (9, .int (nI T)), (10, .int (nI i))])
    (K : ∀ (F : fw_F) (H : Heap) (locs : List Loc) (ls : Array Slot) (nC nT nO T : Nat), fw_S G (fun q : Nat => s.heap.size ≤ q) s F H locs → p4_R G F x q2 q3 q4 q5 (i + 1) nC nT nO T → lv_has ls 24 [(0, .ref b), (1, .ref x), (2, .ref q2), (3, .ref q3), (4, .ref q4), (5, .ref q5), (6, .int (nI nC)), (7, .int (nI nT)), (8, .int (nI nO)), (9, .int (nI T)), (10, .int (nI (i + 1)))] → W p l e room_1 s m #[Value.ref b] below meth c H locs (c1 + 300) (n1 + 12000) Q (F0 m 45 ls [])) : W p l e room_1 s m #[Value.ref b] below meth c H locs (c1) (n1) Q (F0 m 52 ls []) := by
  have E9 := E0
  have hR9 := hR
  obtain ⟨hx, hb, hml, hown, hT, hz, hcx, hl9, hX9, hbl, hL, hAn⟩ := E0
  have C : CallFix p m c code 24 s #[Value.ref b] fw_tb RL := ⟨hx, hb, hml, hown, hT⟩
  have hbA : ¬ (fun q : Nat => s.heap.size ≤ q) b := Nat.not_le.mpr hbl
  obtain ⟨f, nJ, h, gA, gB, gO, gH, hA, hT60, hCL, hPU, hPV⟩ := hR
  have hC10 : nC ≤ 10 ∧ nT ≤ 8 ∧ nO ≤ 12 := by
    obtain ⟨lc, lt, lo, lm, lw, dr, ds, dfr, ca, ta, sl, fr, oa, tr, ml, ma, ja, da, wj, sa, ms, nW, hX, hC, hT1, hTr, hO1, hK, hI, hZ, hD, htr⟩ := hCL
    exact ⟨hC.1, hT1.1, hO1.1⟩
  have hc10 := hC10.1
  have ht8 := hC10.2.1
  have ho12 := hC10.2.2
  refine lv_aload_n hx hb dL_law_52 rfl (lv_at hl 0 rfl) ?_
  refine lv_iconst (v := (nI 2)) hx hb dL_law_53 (by decide) ?_
  refine lv_iload hx hb dL_law_54 (lv_at hl 10 rfl) ?_
  refine lv_imul hx hb dL_law_56 ?_
  refine fw_top (pk_mul _ _) ?_
  refine fw_calli (fw_runSC (As := [.ref b, .int (nI (2 * i))]) (rest := []) C hz hw hX9 hbl hbA (c_L_cell l G _ _ b L (2 * i) xs hL (by omega)) (fw_cwS hT wd_598 ySL_cell rfl rfl ⟨Nat.le_of_ble_eq_true rfl, Nat.le_of_ble_eq_true rfl⟩) rfl hl.1 rfl (Nat.le_of_ble_eq_true rfl) dL_law_57 ⟨by show c1 + 0 + 0 ≤ 827442; omega, by show n1 + 0 + 0 ≤ 6619141; omega⟩) hw (fun r F1 H locs hw hp => ?_)
  refine W.widen (k := c1 + 0) (n := n1 + 0) (by omega) (by omega) ?_
  obtain ⟨hF1, -⟩ := hp
  rw [hF1] at hw
  refine lv_topi (fun v _ => ?_)
  refine lv_istore (lv' := [(11, .int v), (0, .ref b), (1, .ref x), (2, .ref q2), (3, .ref q3), (4, .ref q4), (5, .ref q5), (6, .int (nI nC)), (7, .int (nI nT)), (8, .int (nI nO)), (9, .int (nI T)), (10, .int (nI i))]) hx hb dL_law_60 hl (by decide) rfl (fun ls hl => ?_)
  refine lv_aload_n hx hb dL_law_62 rfl (lv_at hl 1 rfl) ?_
  refine lv_iconst (v := (nI 2)) hx hb dL_law_63 (by decide) ?_
  refine lv_iload hx hb dL_law_64 (lv_at hl 11 rfl) ?_
  refine lv_imul hx hb dL_law_66 ?_
  refine fw_top (pk_mul _ _) ?_
  refine lv_iconst (v := (nI 1)) hx hb dL_law_67 (by decide) ?_
  refine lv_iadd hx hb dL_law_68 ?_
  refine fw_top (nI_add _ _) ?_
  refine fw_calli (fw_runSC (As := [.ref b, .int (nI ((2 * i) + 1))]) (rest := []) C hz hw hX9 hbl hbA (c_L_cell l G _ _ b L ((2 * i) + 1) xs hL (by omega)) (fw_cwS hT wd_598 ySL_cell rfl rfl ⟨Nat.le_of_ble_eq_true rfl, Nat.le_of_ble_eq_true rfl⟩) rfl hl.1 rfl (Nat.le_of_ble_eq_true rfl) dL_law_69 ⟨by show c1 + 0 + 0 ≤ 827442; omega, by show n1 + 0 + 0 ≤ 6619141; omega⟩) hw (fun r F1 H locs hw hp => ?_)
  refine W.widen (k := c1 + 0) (n := n1 + 0) (by omega) (by omega) ?_
  obtain ⟨hF1, -⟩ := hp
  rw [hF1] at hw
  refine lv_topi (fun w _ => ?_)
  refine lv_istore (lv' := [(12, .int w), (11, .int v), (0, .ref b), (1, .ref x), (2, .ref q2), (3, .ref q3), (4, .ref q4), (5, .ref q5), (6, .int (nI nC)), (7, .int (nI nT)), (8, .int (nI nO)), (9, .int (nI T)), (10, .int (nI i))]) hx hb dL_law_72 hl (by decide) rfl (fun ls hl => ?_)
  refine lv_iload hx hb dL_law_74 (lv_at hl 1 rfl) ?_
  refine lv_bipush (v := (nI 10)) hx hb dL_law_76 (by decide) ?_
  refine fw_calli (fw_runS (As := [.int v, .int (nI 10)]) (rest := []) C hz hw (c_L_low l G _ _ v 10 (by decide) (by decide)) (fw_cwS hT wd_601 ySL_low rfl rfl ⟨Nat.le_of_ble_eq_true rfl, Nat.le_of_ble_eq_true rfl⟩) rfl hl.1 rfl (Nat.le_of_ble_eq_true rfl) dL_law_78 ⟨by show c1 + 0 + 0 ≤ 827442; omega, by show n1 + 0 + 0 ≤ 6619141; omega⟩) hw (fun r F1 H locs hw hp => ?_)
  refine W.widen (k := c1 + 0) (n := n1 + 0) (by omega) (by omega) ?_
  obtain ⟨hF1, j13, hj13, hr9⟩ := hp
  rw [hF1] at hw
  rw [hr9]
  refine lv_istore (lv' := [(13, .int (nI j13)), (12, .int w), (11, .int v), (0, .ref b), (1, .ref x), (2, .ref q2), (3, .ref q3), (4, .ref q4), (5, .ref q5), (6, .int (nI nC)), (7, .int (nI nT)), (8, .int (nI nO)), (9, .int (nI T)), (10, .int (nI i))]) hx hb dL_law_81 hl (by decide) rfl (fun ls hl => ?_)
  refine lv_iconst (v := (nI 1)) hx hb dL_law_83 (by decide) ?_
  refine lv_istore (lv' := [(14, .int (nI 1)), (13, .int (nI j13)), (12, .int w), (11, .int v), (0, .ref b), (1, .ref x), (2, .ref q2), (3, .ref q3), (4, .ref q4), (5, .ref q5), (6, .int (nI nC)), (7, .int (nI nT)), (8, .int (nI nO)), (9, .int (nI T)), (10, .int (nI i))]) hx hb dL_law_84 hl (by decide) rfl (fun ls hl => ?_)
  have K9 : ∀ (F : fw_F) (H : Heap) (locs : List Loc) (ls : Array Slot) (nC' nT' nO' T' : Nat), fw_S G (fun q : Nat => s.heap.size ≤ q) s F H locs → p4_R G F x q2 q3 q4 q5 (i + 1) nC' nT' nO' T' → lv_has ls 24 [(14, .int (nI 1)), (0, .ref b), (1, .ref x), (2, .ref q2), (3, .ref q3), (4, .ref q4), (5, .ref q5), (6, .int (nI (nC'))), (7, .int (nI (nT'))), (8, .int (nI (nO'))), (9, .int (nI (T'))), (10, .int (nI i)), (11, .int v), (12, .int w)] → W p l e room_1 s m #[Value.ref b] below meth c H locs (c1 + 120) (n1 + 9000) Q (F0 m 669 ls []) := by
    intro F H locs ls nC' nT' nO' T' hw hR hl
    exact law_end E9 rfl hi (by omega) (by omega) hR hw hl (fun F H locs ls hw hR hl => K F H locs ls _ _ _ _ hw hR hl)
  refine W.widen (k := c1) (n := n1) (Nat.le_refl _) (Nat.le_refl _) ?_
  have j477 : ∀ (ls : Array Slot), lv_has ls 24 [(14, .int (nI 1)), (13, .int (nI j13)), (0, .ref b), (1, .ref x), (2, .ref q2), (3, .ref q3), (4, .ref q4), (5, .ref q5), (6, .int (nI nC)), (7, .int (nI nT)), (8, .int (nI nO)), (9, .int (nI T)), (10, .int (nI i)), (11, .int v), (12, .int w)] → W p l e room_1 s m #[Value.ref b] below meth c H locs (c1) (n1) Q (F0 m 477 ls []) := by
    intro ls hl
    refine lv_iload hx hb dL_law_477 (lv_at hl 1 rfl) ?_
    refine lv_bipush (v := (nI 6)) hx hb dL_law_479 (by decide) ?_
    refine lv_icmp_ne (tgt := 626) hx hb dL_law_481 (by decide) (fun d => ?_) (fun d => ?_)
    · have d : ¬ j13 = 6 := fun h9 => d ((nI_eq (a := j13) (b := 6) (by omega) (by omega)).mpr h9)
      exact law_ticks E9 hi (by omega) (by omega) hR9 hw (lv_sub hl [0, 1, 2, 3, 4, 5, 6, 7, 8, 9, 10, 11, 12, 13, 14] rfl) K9
    · have d := (nI_eq (a := j13) (b := 6) (by omega) (by omega)).mp d
      refine lv_iload hx hb dL_law_484 (lv_at hl 10 rfl) ?_
      refine lv_if_le (tgt := 626) hx hb dL_law_486 (by decide) (fun d2 => ?_) (fun d2 => ?_)
      · have d2 := (nI_leI (a := nO) (b := 0) (by omega) (by omega)).mp d2
        exact law_ticks E9 hi (by omega) (by omega) hR9 hw (lv_sub hl [0, 1, 2, 3, 4, 5, 6, 7, 8, 9, 10, 11, 12, 13, 14] rfl) K9
      · have d2 : ¬ nO ≤ 0 := fun h9 => d2 ((nI_leI (a := nO) (b := 0) (by omega) (by omega)).mpr h9)
        exact law_test E9 hi (by omega) (by omega) hR9 (by omega) hw (lv_sub hl [0, 1, 2, 3, 4, 5, 6, 7, 8, 9, 10, 11, 12, 13, 14] rfl) K9
  have j403 : ∀ (ls : Array Slot), lv_has ls 24 [(14, .int (nI 1)), (13, .int (nI j13)), (0, .ref b), (1, .ref x), (2, .ref q2), (3, .ref q3), (4, .ref q4), (5, .ref q5), (6, .int (nI nC)), (7, .int (nI nT)), (8, .int (nI nO)), (9, .int (nI T)), (10, .int (nI i)), (11, .int v), (12, .int w)] → W p l e room_1 s m #[Value.ref b] below meth c H locs (c1) (n1) Q (F0 m 403 ls []) := by
    intro ls hl
    refine lv_iload hx hb dL_law_403 (lv_at hl 1 rfl) ?_
    refine lv_bipush (v := (nI 6)) hx hb dL_law_405 (by decide) ?_
    refine lv_icmp_ge (tgt := 477) hx hb dL_law_407 (by decide) (fun d => ?_) (fun d => ?_)
    · have d := (nI_leI (a := 6) (b := j13) (by omega) (by omega)).mp d
      exact j477 _ (lv_sub hl [0, 1, 2, 3, 4, 5, 6, 7, 8, 9, 10, 11, 12, 13, 14] rfl)
    · have d : ¬ 6 ≤ j13 := fun h9 => d ((nI_leI (a := 6) (b := j13) (by omega) (by omega)).mpr h9)
      refine lv_iload hx hb dL_law_410 (lv_at hl 9 rfl) ?_
      refine lv_if_le (tgt := 477) hx hb dL_law_412 (by decide) (fun d2 => ?_) (fun d2 => ?_)
      · have d2 := (nI_leI (a := nT) (b := 0) (by omega) (by omega)).mp d2
        exact j477 _ (lv_sub hl [0, 1, 2, 3, 4, 5, 6, 7, 8, 9, 10, 11, 12, 13, 14] rfl)
      · have d2 : ¬ nT ≤ 0 := fun h9 => d2 ((nI_leI (a := nT) (b := 0) (by omega) (by omega)).mpr h9)
        refine lv_iload hx hb dL_law_415 (lv_at hl 10 rfl) ?_
        refine lv_bipush (v := (nI 12)) hx hb dL_law_417 (by decide) ?_
        refine lv_icmp_ge (tgt := 477) hx hb dL_law_419 (by decide) (fun d3 => ?_) (fun d3 => ?_)
        · have d3 := (nI_leI (a := 12) (b := nO) (by omega) (by omega)).mp d3
          exact j477 _ (lv_sub hl [0, 1, 2, 3, 4, 5, 6, 7, 8, 9, 10, 11, 12, 13, 14] rfl)
        · have d3 : ¬ 12 ≤ nO := fun h9 => d3 ((nI_leI (a := 12) (b := nO) (by omega) (by omega)).mpr h9)
          exact law_order E9 hi (by omega) (by omega) hR9 (by omega) (by omega) hw (lv_sub hl [0, 1, 2, 3, 4, 5, 6, 7, 8, 9, 10, 11, 12, 13, 14] rfl) K9
  have j166 : ∀ (ls : Array Slot), lv_has ls 24 [(14, .int (nI 1)), (13, .int (nI j13)), (0, .ref b), (1, .ref x), (2, .ref q2), (3, .ref q3), (4, .ref q4), (5, .ref q5), (6, .int (nI nC)), (7, .int (nI nT)), (8, .int (nI nO)), (9, .int (nI T)), (10, .int (nI i)), (11, .int v), (12, .int w)] → W p l e room_1 s m #[Value.ref b] below meth c H locs (c1) (n1) Q (F0 m 166 ls []) := by
    intro ls hl
    refine lv_iload hx hb dL_law_166 (lv_at hl 1 rfl) ?_
    refine lv_iconst (v := (nI 4)) hx hb dL_law_168 (by decide) ?_
    refine lv_icmp_ge (tgt := 403) hx hb dL_law_169 (by decide) (fun d => ?_) (fun d => ?_)
    · have d := (nI_leI (a := 4) (b := j13) (by omega) (by omega)).mp d
      exact j403 _ (lv_sub hl [0, 1, 2, 3, 4, 5, 6, 7, 8, 9, 10, 11, 12, 13, 14] rfl)
    · have d : ¬ 4 ≤ j13 := fun h9 => d ((nI_leI (a := 4) (b := j13) (by omega) (by omega)).mpr h9)
      refine lv_iload hx hb dL_law_172 (lv_at hl 9 rfl) ?_
      refine lv_bipush (v := (nI 8)) hx hb dL_law_174 (by decide) ?_
      refine lv_icmp_ge (tgt := 403) hx hb dL_law_176 (by decide) (fun d2 => ?_) (fun d2 => ?_)
      · have d2 := (nI_leI (a := 8) (b := nT) (by omega) (by omega)).mp d2
        exact j403 _ (lv_sub hl [0, 1, 2, 3, 4, 5, 6, 7, 8, 9, 10, 11, 12, 13, 14] rfl)
      · have d2 : ¬ 8 ≤ nT := fun h9 => d2 ((nI_leI (a := 8) (b := nT) (by omega) (by omega)).mpr h9)
        exact law_train E9 hi (by omega) (by omega) hR9 (by omega) hw (lv_sub hl [0, 1, 2, 3, 4, 5, 6, 7, 8, 9, 10, 11, 12, 13, 14] rfl) K9
  refine lv_iload hx hb dL_law_86 (lv_at hl 10 rfl) ?_
  refine lv_iconst (v := (nI 2)) hx hb dL_law_88 (by decide) ?_
  refine lv_icmp_lt (tgt := 104) hx hb dL_law_89 (by decide) (fun d => ?_) (fun d => ?_)
  · have d := (nI_ltI (a := nC) (b := 2) (by omega) (by omega)).mp d
    exact law_cutter E9 hi (by omega) (by omega) hR9 (by omega) hw (lv_sub hl [0, 1, 4, 5, 6, 7, 8, 9, 10, 11, 12, 13, 14, 3, 2] rfl) K9
  · have d : ¬ nC < 2 := fun h9 => d ((nI_ltI (a := nC) (b := 2) (by omega) (by omega)).mpr h9)
    refine lv_iload hx hb dL_law_92 (lv_at hl 1 rfl) ?_
    refine lv_if_ne (tgt := 166) hx hb dL_law_94 (by decide) (fun d2 => ?_) (fun d2 => ?_)
    · have d2 : ¬ j13 = 0 := fun h9 => d2 ((nI_eq (a := j13) (b := 0) (by omega) (by omega)).mpr h9)
      exact j166 _ (lv_sub hl [0, 1, 4, 5, 6, 7, 8, 9, 10, 11, 12, 13, 14, 3, 2] rfl)
    · have d2 := (nI_eq (a := j13) (b := 0) (by omega) (by omega)).mp d2
      refine lv_iload hx hb dL_law_97 (lv_at hl 10 rfl) ?_
      refine lv_bipush (v := (nI 10)) hx hb dL_law_99 (by decide) ?_
      refine lv_icmp_ge (tgt := 166) hx hb dL_law_101 (by decide) (fun d3 => ?_) (fun d3 => ?_)
      · have d3 := (nI_leI (a := 10) (b := nC) (by omega) (by omega)).mp d3
        exact j166 _ (lv_sub hl [0, 1, 4, 5, 6, 7, 8, 9, 10, 11, 12, 13, 14, 3, 2] rfl)
      · have d3 : ¬ 10 ≤ nC := fun h9 => d3 ((nI_leI (a := 10) (b := nC) (by omega) (by omega)).mpr h9)
        exact law_cutter E9 hi (by omega) (by omega) hR9 (by omega) hw (lv_sub hl [0, 1, 4, 5, 6, 7, 8, 9, 10, 11, 12, 13, 14, 3, 2] rfl) K9
