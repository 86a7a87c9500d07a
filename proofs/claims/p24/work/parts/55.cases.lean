/-! The law's cases: a cutter, ticks, an order, a test. -/
set_option maxHeartbeats 4000000 in
set_option maxRecDepth 100000 in
theorem law_cutter {p : Program} {l : Launch} {e : Env} {s : State} {m : MethodId} {below : List Frame} {meth : Method} {c : Code} {b L : Nat} {xs : Nat → Int32} {G : fw_G} (E0 : lw_E p l s m c b L xs G) {x q2 q3 q4 q5 i nC nT nO T : Nat} {c1 n1 : Nat} {Q : State → Prop} {v w : Int32} (hi : i < 50) (hc1 : c1 + 120 ≤ 827442) (hn1 : n1 + 9000 ≤ 6619141) {F : fw_F} {H : Heap} {locs : List Loc} {ls : Array Slot} {j13 : Nat} (hR : p4_R G F x q2 q3 q4 q5 i nC nT nO T) (hn : nC < 10) (hw : fw_S G (fun q : Nat => s.heap.size ≤ q) s F H locs) (hl : lv_has ls 24 [(14, .int (nI 1)), (13, .int (nI j13)), (0, .ref b), (1, .ref x), (2, .ref q2), (3, .ref q3), (4, .ref q4), (5, .ref q5), (6, .int (nI nC)), (7, .int (nI nT)), (8, .int (nI nO)), (9, .int (nI T)), (10, .int (nI i)), (11, .int v), (12, .int w)])
    (K : ∀ (F : fw_F) (H : Heap) (locs : List Loc) (ls : Array Slot) (nC' nT' nO' T' : Nat), fw_S G (fun q : Nat => s.heap.size ≤ q) s F H locs → p4_R G F x q2 q3 q4 q5 (i + 1) nC' nT' nO' T' → lv_has ls 24 [(14, .int (nI 1)), (0, .ref b), (1, .ref x), (2, .ref q2), (3, .ref q3), (4, .ref q4), (5, .ref q5), (6, .int (nI (nC'))), (7, .int (nI (nT'))), (8, .int (nI (nO'))), (9, .int (nI (T'))), (10, .int (nI i)), (11, .int v), (12, .int w)] → W p l e room_1 s m #[Value.ref b] below meth c H locs (c1 + 120) (n1 + 9000) Q (F0 m 669 ls [])) : W p l e room_1 s m #[Value.ref b] below meth c H locs (c1) (n1) Q (F0 m 104 ls []) := by
  obtain ⟨hx, hb, hml, hown, hT, hz, hcx, hl9, hX9, hbl, hL, hAn⟩ := E0
  have C : CallFix p m c code 24 s #[Value.ref b] fw_tb RL := ⟨hx, hb, hml, hown, hT⟩
  have hbA : ¬ (fun q : Nat => s.heap.size ≤ q) b := Nat.not_le.mpr hbl
  obtain ⟨f, nJ, h, gA, gB, gO, gH, hA, hT60, hCL, hPU, hPV⟩ := hR
  have hCL0 := hCL
  obtain ⟨lc, lt, lo, lm, lw, dr, ds, dfr, ca, ta, sl, fr, oa, tr, ml, ma, ja, da, wj, sa, ms, nW, hX, hC, hT1, hTr, hO1, hK, hI, hZ, hD, htr⟩ := hCL
  have hc10 := hC.1
  have ht8 := hT1.1
  have ho12 := hO1.1
  have hj96 := hI.j96
  refine lv_bipush (v := (nI 8)) hx hb dL_law_104 (by decide) ?_
  refine lv_iload hx hb dL_law_106 (lv_at hl 14 rfl) ?_
  refine lv_iconst (v := (nI 2)) hx hb dL_law_108 (by decide) ?_
  refine lv_ishr hx hb dL_law_109 ?_
  refine lv_topi (fun s1 _ => ?_)
  refine lv_bipush (v := (nI 20)) hx hb dL_law_110 (by decide) ?_
  refine fw_calli (fw_runS (As := [.int s1, .int (nI 20)]) (rest := [.int (nI 8)]) C hz hw (c_L_low l G _ _ s1 20 (by decide) (by decide)) (fw_cwS hT wd_601 ySL_low rfl rfl ⟨Nat.le_of_ble_eq_true rfl, Nat.le_of_ble_eq_true rfl⟩) rfl hl.1 rfl (Nat.le_of_ble_eq_true rfl) dL_law_112 ⟨by show c1 + 0 + 0 ≤ 827442; omega, by show n1 + 0 + 0 ≤ 6619141; omega⟩) hw (fun r F1 H locs hw hp => ?_)
  refine W.widen (k := c1 + 0) (n := n1 + 0) (by omega) (by omega) ?_
  obtain ⟨hF1, j1, hj1, hr9⟩ := hp
  rw [hF1] at hw
  rw [hr9]
  refine lv_iadd hx hb dL_law_115 ?_
  refine fw_top (nI_add _ _) ?_
  refine lv_istore (lv' := [(15, .int (nI (8 + j1))), (14, .int (nI 1)), (13, .int (nI j13)), (0, .ref b), (1, .ref x), (2, .ref q2), (3, .ref q3), (4, .ref q4), (5, .ref q5), (6, .int (nI nC)), (7, .int (nI nT)), (8, .int (nI nO)), (9, .int (nI T)), (10, .int (nI i)), (11, .int v), (12, .int w)]) hx hb dL_law_116 hl (by decide) rfl (fun ls hl => ?_)
  refine lv_aload_n hx hb dL_law_118 rfl (lv_at hl 4 rfl) ?_
  refine lv_iconst (v := (nI 1)) hx hb dL_law_119 (by decide) ?_
  refine lv_iload hx hb dL_law_120 (lv_at hl 15 rfl) ?_
  refine lv_iconst (v := (nI 2)) hx hb dL_law_122 (by decide) ?_
  refine fw_calli (fw_runS (As := [.int w, .int (nI 2)]) (rest := [.int (nI 1), .ref x]) C hz hw (c_L_low l G _ _ w 2 (by decide) (by decide)) (fw_cwS hT wd_601 ySL_low rfl rfl ⟨Nat.le_of_ble_eq_true rfl, Nat.le_of_ble_eq_true rfl⟩) rfl hl.1 rfl (Nat.le_of_ble_eq_true rfl) dL_law_123 ⟨by show c1 + 0 + 0 ≤ 827442; omega, by show n1 + 0 + 0 ≤ 6619141; omega⟩) hw (fun r F1 H locs hw hp => ?_)
  refine W.widen (k := c1 + 0) (n := n1 + 0) (by omega) (by omega) ?_
  obtain ⟨hF1, j2, hj2, hr9⟩ := hp
  rw [hF1] at hw
  rw [hr9]
  refine lv_iadd hx hb dL_law_126 ?_
  refine fw_top (nI_add _ _) ?_
  refine lv_iload hx hb dL_law_127 (lv_at hl 0 rfl) ?_
  refine lv_iload hx hb dL_law_129 (lv_at hl 0 rfl) ?_
  refine lv_iload hx hb dL_law_131 (lv_at hl 15 rfl) ?_
  refine lv_bipush (v := (nI 7)) hx hb dL_law_133 (by decide) ?_
  refine lv_ishr hx hb dL_law_135 ?_
  refine lv_topi (fun s3 _ => ?_)
  refine lv_bipush (v := (nI 61)) hx hb dL_law_136 (by decide) ?_
  refine lv_iload hx hb dL_law_138 (lv_at hl 0 rfl) ?_
  refine lv_isub hx hb dL_law_140 ?_
  refine fw_top (pk_sub (by omega)) ?_
  refine fw_calli (fw_runS (As := [.int s3, .int (nI (61 - (8 + j1)))]) (rest := [.int (nI (8 + j1)), .int (nI (8 + j1)), .int (nI (1 + j2)), .ref x]) C hz hw (c_L_low l G _ _ s3 (61 - (8 + j1)) (by omega) (by omega)) (fw_cwS hT wd_601 ySL_low rfl rfl ⟨Nat.le_of_ble_eq_true rfl, Nat.le_of_ble_eq_true rfl⟩) rfl hl.1 rfl (Nat.le_of_ble_eq_true rfl) dL_law_141 ⟨by show c1 + 0 + 0 ≤ 827442; omega, by show n1 + 0 + 0 ≤ 6619141; omega⟩) hw (fun r F1 H locs hw hp => ?_)
  refine W.widen (k := c1 + 0) (n := n1 + 0) (by omega) (by omega) ?_
  obtain ⟨hF1, j3, hj3, hr9⟩ := hp
  rw [hF1] at hw
  rw [hr9]
  refine lv_iadd hx hb dL_law_144 ?_
  refine fw_top (nI_add _ _) ?_
  have hok : rf_okC (nI (1 + j2)) (nI (8 + j1)) (nI (8 + j1 + j3)) = true := p4_okC (by omega) (by omega) (by omega) (by omega) (by omega)
  have hC9 := hC
  obtain ⟨-, ⟨arc, hLc⟩, -⟩ := hC9
  refine fw_ask (fw_xrunV (As := [.int (nI (1 + j2)), .int (nI (8 + j1)), .int (nI ((8 + j1) + j3))]) (rest := []) C hz hcx hw (c_X8_addCutter l G _ _ x lc lt lo lm lw dr (nI T) ca f nC arc (nI (1 + j2)) (nI (8 + j1)) (nI (8 + j1 + j3)) hl9 hX hLc hc10) (fw_cwV hT wd_197 yVX8_addCutter rfl rfl ⟨Nat.le_of_ble_eq_true rfl, Nat.le_of_ble_eq_true rfl⟩) (fw_rec hz hw hX (q := vwCl[9]) rfl) rfl hl.1 rfl (Nat.le_of_ble_eq_true rfl) dL_law_145 ⟨by show c1 + 0 + 2 ≤ 827442; omega, by show n1 + 0 + 244 ≤ 6619141; omega⟩) hw (fun E h9 => by
      rcases h9 with ⟨-, h9⟩ | ⟨-, -, h9⟩
      · rw [hok] at h9; cases h9
      · omega) (fun r F1 H locs hw hp => ?_)
  refine W.widen (k := c1 + 2) (n := n1 + 244) (by omega) (by omega) ?_
  obtain ⟨-, hn9, hr9, b9, q9, hb9, hF2⟩ := hp
  rw [hr9]
  obtain ⟨c1L, c1P, c1k⟩ := st_addCutter hX hC hT1 hTr hO1 hK hI hZ hD htr hPU hn hb9 hF2 rfl
  refine lv_iload hx hb dL_law_148 (lv_at hl 9 rfl) ?_
  refine lv_icmp_ne (tgt := 157) hx hb dL_law_150 (by decide) (fun d => ?_) (fun d => ?_)
  · have d : ¬ nC = nC := fun h9 => d ((nI_eq (a := nC) (b := nC) (by omega) (by omega)).mpr h9)
    omega
  · have d := (nI_eq (a := nC) (b := nC) (by omega) (by omega)).mp d
    refine lv_iconst (v := (nI 1)) hx hb dL_law_153 (by decide) ?_
    refine lv_goto (tgt := 158) hx hb dL_law_154 (by decide) ?_
    refine lv_istore (lv' := [(14, .int (nI 1)), (15, .int (nI (8 + j1))), (13, .int (nI j13)), (0, .ref b), (1, .ref x), (2, .ref q2), (3, .ref q3), (4, .ref q4), (5, .ref q5), (6, .int (nI nC)), (7, .int (nI nT)), (8, .int (nI nO)), (9, .int (nI T)), (10, .int (nI i)), (11, .int v), (12, .int w)]) hx hb dL_law_158 hl (by decide) rfl (fun ls hl => ?_)
    refine lv_iinc (v := (nI (nC + 1))) (lv' := [(6, .int (nI (nC + 1))), (14, .int (nI 1)), (15, .int (nI (8 + j1))), (13, .int (nI j13)), (0, .ref b), (1, .ref x), (2, .ref q2), (3, .ref q3), (4, .ref q4), (5, .ref q5), (7, .int (nI nT)), (8, .int (nI nO)), (9, .int (nI T)), (10, .int (nI i)), (11, .int v), (12, .int w)]) hx hb dL_law_160 hl (k := 9) rfl (nI_1 _) (by decide) rfl (fun ls hl => ?_)
    refine lv_goto (tgt := 669) hx hb dL_law_163 (by decide) ?_
    refine W.widen (k := c1 + 120) (n := n1 + 9000) (by omega) (by omega) ?_
    exact K _ _ _ _ (nC + 1) nT nO T hw ⟨_, nJ, h, gA, gB, gO, gH, hA.kp c1k (fun t z => by omega), by omega, c1L, c1P, pw_addCutter hPV hn rfl⟩ (lv_sub hl [1, 4, 5, 6, 7, 8, 9, 0, 10, 11, 12, 13, 14, 15] rfl)
set_option maxHeartbeats 4000000 in
set_option maxRecDepth 100000 in
theorem law_ticks {p : Program} {l : Launch} {e : Env} {s : State} {m : MethodId} {below : List Frame} {meth : Method} {c : Code} {b L : Nat} {xs : Nat → Int32} {G : fw_G} (E0 : lw_E p l s m c b L xs G) {x q2 q3 q4 q5 i nC nT nO T : Nat} {c1 n1 : Nat} {Q : State → Prop} {v w : Int32} (hi : i < 50) (hc1 : c1 + 120 ≤ 827442) (hn1 : n1 + 9000 ≤ 6619141) {F : fw_F} {H : Heap} {locs : List Loc} {ls : Array Slot} {j13 : Nat} (hR : p4_R G F x q2 q3 q4 q5 i nC nT nO T) (hw : fw_S G (fun q : Nat => s.heap.size ≤ q) s F H locs) (hl : lv_has ls 24 [(14, .int (nI 1)), (13, .int (nI j13)), (0, .ref b), (1, .ref x), (2, .ref q2), (3, .ref q3), (4, .ref q4), (5, .ref q5), (6, .int (nI nC)), (7, .int (nI nT)), (8, .int (nI nO)), (9, .int (nI T)), (10, .int (nI i)), (11, .int v), (12, .int w)])
    (K : ∀ (F : fw_F) (H : Heap) (locs : List Loc) (ls : Array Slot) (nC' nT' nO' T' : Nat), fw_S G (fun q : Nat => s.heap.size ≤ q) s F H locs → p4_R G F x q2 q3 q4 q5 (i + 1) nC' nT' nO' T' → lv_has ls 24 [(14, .int (nI 1)), (0, .ref b), (1, .ref x), (2, .ref q2), (3, .ref q3), (4, .ref q4), (5, .ref q5), (6, .int (nI (nC'))), (7, .int (nI (nT'))), (8, .int (nI (nO'))), (9, .int (nI (T'))), (10, .int (nI i)), (11, .int v), (12, .int w)] → W p l e room_1 s m #[Value.ref b] below meth c H locs (c1 + 120) (n1 + 9000) Q (F0 m 669 ls [])) : W p l e room_1 s m #[Value.ref b] below meth c H locs (c1) (n1) Q (F0 m 626 ls []) := by
  obtain ⟨hx, hb, hml, hown, hT, hz, hcx, hl9, hX9, hbl, hL, hAn⟩ := E0
  have C : CallFix p m c code 24 s #[Value.ref b] fw_tb RL := ⟨hx, hb, hml, hown, hT⟩
  have hbA : ¬ (fun q : Nat => s.heap.size ≤ q) b := Nat.not_le.mpr hbl
  obtain ⟨f, nJ, h, gA, gB, gO, gH, hA, hT60, hCL, hPU, hPV⟩ := hR
  have hCL0 := hCL
  obtain ⟨lc, lt, lo, lm, lw, dr, ds, dfr, ca, ta, sl, fr, oa, tr, ml, ma, ja, da, wj, sa, ms, nW, hX, hC, hT1, hTr, hO1, hK, hI, hZ, hD, htr⟩ := hCL
  have hc10 := hC.1
  have ht8 := hT1.1
  have ho12 := hO1.1
  have hj96 := hI.j96
  refine lv_iconst (v := (nI 1)) hx hb dL_law_626 (by decide) ?_
  refine lv_iload hx hb dL_law_627 (lv_at hl 14 rfl) ?_
  refine lv_bipush (v := (nI 60)) hx hb dL_law_629 (by decide) ?_
  refine fw_calli (fw_runS (As := [.int w, .int (nI 60)]) (rest := [.int (nI 1)]) C hz hw (c_L_low l G _ _ w 60 (by decide) (by decide)) (fw_cwS hT wd_601 ySL_low rfl rfl ⟨Nat.le_of_ble_eq_true rfl, Nat.le_of_ble_eq_true rfl⟩) rfl hl.1 rfl (Nat.le_of_ble_eq_true rfl) dL_law_631 ⟨by show c1 + 0 + 0 ≤ 827442; omega, by show n1 + 0 + 0 ≤ 6619141; omega⟩) hw (fun r F1 H locs hw hp => ?_)
  refine W.widen (k := c1 + 0) (n := n1 + 0) (by omega) (by omega) ?_
  obtain ⟨hF1, j1, hj1, hr9⟩ := hp
  rw [hF1] at hw
  rw [hr9]
  refine lv_iadd hx hb dL_law_634 ?_
  refine fw_top (nI_add _ _) ?_
  refine lv_istore (lv' := [(15, .int (nI (1 + j1))), (14, .int (nI 1)), (13, .int (nI j13)), (0, .ref b), (1, .ref x), (2, .ref q2), (3, .ref q3), (4, .ref q4), (5, .ref q5), (6, .int (nI nC)), (7, .int (nI nT)), (8, .int (nI nO)), (9, .int (nI T)), (10, .int (nI i)), (11, .int v), (12, .int w)]) hx hb dL_law_635 hl (by decide) rfl (fun ls hl => ?_)
  refine lv_iload hx hb dL_law_637 (lv_at hl 12 rfl) ?_
  refine lv_iload hx hb dL_law_639 (lv_at hl 0 rfl) ?_
  refine lv_iadd hx hb dL_law_641 ?_
  refine fw_top (nI_add _ _) ?_
  refine lv_istore (lv' := [(9, .int (nI (T + (1 + j1)))), (15, .int (nI (1 + j1))), (14, .int (nI 1)), (13, .int (nI j13)), (0, .ref b), (1, .ref x), (2, .ref q2), (3, .ref q3), (4, .ref q4), (5, .ref q5), (6, .int (nI nC)), (7, .int (nI nT)), (8, .int (nI nO)), (10, .int (nI i)), (11, .int v), (12, .int w)]) hx hb dL_law_642 hl (by decide) rfl (fun ls hl => ?_)
  refine lv_aload_n hx hb dL_law_644 rfl (lv_at hl 5 rfl) ?_
  refine lv_iload hx hb dL_law_645 (lv_at hl 1 rfl) ?_
  have hok : rf_in (nI (1 + j1)) (nI 1) (nI 200) = true := p4_in (by omega) (by omega) (by decide)
  refine fw_ask (fw_xrunV (As := [.int (nI (1 + j1))]) (rest := []) C hz hcx hw (c_X8_pass l G _ _ x lc lt lo lm lw dr (nI T) ma ja oa tr ml f nJ nO nW wj (nI (1 + j1)) hl9 hX hK hI) (fw_cwV hT wd_506 yVX8_pass rfl rfl ⟨Nat.le_of_ble_eq_true rfl, Nat.le_of_ble_eq_true rfl⟩) (fw_rec hz hw hX (q := vwCl[9]) rfl) rfl hl.1 rfl (Nat.le_of_ble_eq_true rfl) dL_law_647 ⟨by show c1 + 0 + 1 ≤ 827442; omega, by show n1 + 0 + 6 ≤ 6619141; omega⟩) hw (fun E h9 => absurd h9.2 (by rw [hok]; decide)) (fun r F1 H locs hw hp => ?_)
  refine W.widen (k := c1 + 1) (n := n1 + 6) (by omega) (by omega) ?_
  obtain ⟨j9, nW1, wj1, b1, b2, ej9, hr9, z1, z2, z3, hk9⟩ := hp
  obtain rfl := nI_j (show 1 + j1 ≤ 1000 by omega) (by omega) ej9
  rw [hr9]
  rw [nI_add] at z1
  obtain ⟨c1L, c1P, c1k⟩ := st_pass (T := T) hX hC hT1 hTr hO1 hK hI hZ hD htr hPU (show T + (1 + j1) < 1000000 by omega) z1 rfl z2 z3 hk9
  have hpn := rf_passn_le nJ (nI T) f (1 + j1)
  refine lv_if_lt (tgt := 666) hx hb dL_law_650 (by decide) (fun d => ?_) (fun d => ?_)
  · have d := (nI_ltI (a := rf_passn nJ (nI T) f (1 + j1)) (b := 0) (by omega) (by omega)).mp d
    omega
  · have d : ¬ (rf_passn nJ (nI T) f (1 + j1)) < 0 := fun h9 => d ((nI_ltI (a := rf_passn nJ (nI T) f (1 + j1)) (b := 0) (by omega) (by omega)).mpr h9)
    refine lv_aload_n hx hb dL_law_653 rfl (lv_at hl 5 rfl) ?_
    have hX := z1
    refine fw_calli (fw_runV (As := []) (rest := []) C hz hw (c_X8_time l G _ _ x lc lt lo lm lw dr (nI (T + (1 + j1))) hX) (fw_cwV hT wd_556 yVX8_time rfl rfl ⟨Nat.le_of_ble_eq_true rfl, Nat.le_of_ble_eq_true rfl⟩) (fw_rec hz hw hX (q := vwCl[9]) rfl) rfl hl.1 rfl (Nat.le_of_ble_eq_true rfl) dL_law_654 ⟨by show c1 + 1 + 0 ≤ 827442; omega, by show n1 + 6 + 0 ≤ 6619141; omega⟩) hw (fun r F2 H locs hw hp => ?_)
    refine W.widen (k := c1 + 1) (n := n1 + 6) (by omega) (by omega) ?_
    obtain ⟨hF9, hr9⟩ := hp
    rw [hF9] at hw
    rw [hr9]
    refine lv_iload hx hb dL_law_657 (lv_at hl 0 rfl) ?_
    refine lv_icmp_ne (tgt := 666) hx hb dL_law_659 (by decide) (fun d2 => ?_) (fun d2 => ?_)
    · have d2 : ¬ (T + (1 + j1)) = (T + (1 + j1)) := fun h9 => d2 ((nI_eq (a := T + (1 + j1)) (b := T + (1 + j1)) (by omega) (by omega)).mpr h9)
      omega
    · have d2 := (nI_eq (a := T + (1 + j1)) (b := T + (1 + j1)) (by omega) (by omega)).mp d2
      refine lv_iconst (v := (nI 1)) hx hb dL_law_662 (by decide) ?_
      refine lv_goto (tgt := 667) hx hb dL_law_663 (by decide) ?_
      refine lv_istore (lv' := [(14, .int (nI 1)), (9, .int (nI (T + (1 + j1)))), (15, .int (nI (1 + j1))), (13, .int (nI j13)), (0, .ref b), (1, .ref x), (2, .ref q2), (3, .ref q3), (4, .ref q4), (5, .ref q5), (6, .int (nI nC)), (7, .int (nI nT)), (8, .int (nI nO)), (10, .int (nI i)), (11, .int v), (12, .int w)]) hx hb dL_law_667 hl (by decide) rfl (fun ls hl => ?_)
      refine W.widen (k := c1 + 120) (n := n1 + 9000) (by omega) (by omega) ?_
      exact K _ _ _ _ nC nT nO (T + (1 + j1)) hw ⟨_, nJ, h, gA, gB, gO, gH, hA.kp c1k (fun t z => by omega), by omega, c1L, c1P, pw_pass hPV hc10 hj96⟩ (lv_sub hl [0, 4, 5, 6, 7, 8, 9, 10, 11, 12, 1, 13, 14, 15] rfl)
set_option maxHeartbeats 4000000 in
set_option maxRecDepth 100000 in
theorem law_order {p : Program} {l : Launch} {e : Env} {s : State} {m : MethodId} {below : List Frame} {meth : Method} {c : Code} {b L : Nat} {xs : Nat → Int32} {G : fw_G} (E0 : lw_E p l s m c b L xs G) {x q2 q3 q4 q5 i nC nT nO T : Nat} {c1 n1 : Nat} {Q : State → Prop} {v w : Int32} (hi : i < 50) (hc1 : c1 + 120 ≤ 827442) (hn1 : n1 + 9000 ≤ 6619141) {F : fw_F} {H : Heap} {locs : List Loc} {ls : Array Slot} {j13 : Nat} (hR : p4_R G F x q2 q3 q4 q5 i nC nT nO T) (hn : nO < 12) (hnT : 0 < nT) (hw : fw_S G (fun q : Nat => s.heap.size ≤ q) s F H locs) (hl : lv_has ls 24 [(14, .int (nI 1)), (13, .int (nI j13)), (0, .ref b), (1, .ref x), (2, .ref q2), (3, .ref q3), (4, .ref q4), (5, .ref q5), (6, .int (nI nC)), (7, .int (nI nT)), (8, .int (nI nO)), (9, .int (nI T)), (10, .int (nI i)), (11, .int v), (12, .int w)])
    (K : ∀ (F : fw_F) (H : Heap) (locs : List Loc) (ls : Array Slot) (nC' nT' nO' T' : Nat), fw_S G (fun q : Nat => s.heap.size ≤ q) s F H locs → p4_R G F x q2 q3 q4 q5 (i + 1) nC' nT' nO' T' → lv_has ls 24 [(14, .int (nI 1)), (0, .ref b), (1, .ref x), (2, .ref q2), (3, .ref q3), (4, .ref q4), (5, .ref q5), (6, .int (nI (nC'))), (7, .int (nI (nT'))), (8, .int (nI (nO'))), (9, .int (nI (T'))), (10, .int (nI i)), (11, .int v), (12, .int w)] → W p l e room_1 s m #[Value.ref b] below meth c H locs (c1 + 120) (n1 + 9000) Q (F0 m 669 ls [])) : W p l e room_1 s m #[Value.ref b] below meth c H locs (c1) (n1) Q (F0 m 422 ls []) := by
  obtain ⟨hx, hb, hml, hown, hT, hz, hcx, hl9, hX9, hbl, hL, hAn⟩ := E0
  have C : CallFix p m c code 24 s #[Value.ref b] fw_tb RL := ⟨hx, hb, hml, hown, hT⟩
  have hbA : ¬ (fun q : Nat => s.heap.size ≤ q) b := Nat.not_le.mpr hbl
  obtain ⟨f, nJ, h, gA, gB, gO, gH, hA, hT60, hCL, hPU, hPV⟩ := hR
  have hCL0 := hCL
  obtain ⟨lc, lt, lo, lm, lw, dr, ds, dfr, ca, ta, sl, fr, oa, tr, ml, ma, ja, da, wj, sa, ms, nW, hX, hC, hT1, hTr, hO1, hK, hI, hZ, hD, htr⟩ := hCL
  have hc10 := hC.1
  have ht8 := hT1.1
  have ho12 := hO1.1
  have hj96 := hI.j96
  refine lv_aload hx hb dL_law_422 (lv_at hl 6 rfl) ?_
  refine lv_iload hx hb dL_law_424 (lv_at hl 10 rfl) ?_
  refine lv_iload hx hb dL_law_426 (lv_at hl 14 rfl) ?_
  refine lv_iload hx hb dL_law_428 (lv_at hl 9 rfl) ?_
  refine fw_calli (fw_runS (As := [.int w, .int (nI nT)]) (rest := [.int (nI nO), .ref q4]) C hz hw (c_L_low l G _ _ w nT (by omega) (by omega)) (fw_cwS hT wd_601 ySL_low rfl rfl ⟨Nat.le_of_ble_eq_true rfl, Nat.le_of_ble_eq_true rfl⟩) rfl hl.1 rfl (Nat.le_of_ble_eq_true rfl) dL_law_430 ⟨by show c1 + 0 + 0 ≤ 827442; omega, by show n1 + 0 + 0 ≤ 6619141; omega⟩) hw (fun r F1 H locs hw hp => ?_)
  refine W.widen (k := c1 + 0) (n := n1 + 0) (by omega) (by omega) ?_
  obtain ⟨hF1, j1, hj1, hr9⟩ := hp
  rw [hF1] at hw
  rw [hr9]
  refine fw_iast hx hb hz hw hA.2.2.1 (vp_in_nI (show nO < 12 by omega) (by omega)) dL_law_433 (fun H locs hw => ?_)
  rw [nI_clamp (show nO < 2 ^ 31 by omega)] at hw
  have hA1 := hA.s4 (g := upd gO nO (nI j1))
  have hCL := hCL0.up (e' := fw_ia (fw_cI G) 12 (upd gO nO (nI j1))) hA.2.2.1 (by decide)
  obtain ⟨lc, lt, lo, lm, lw, dr, ds, dfr, ca, ta, sl, fr, oa, tr, ml, ma, ja, da, wj, sa, ms, nW, hX, hC, hT1, hTr, hO1, hK, hI, hZ, hD, htr⟩ := hCL
  obtain ⟨F9, hF9⟩ : ∃ z, z = va_up F q4 (some ((63, 0, 0), fw_ia (fw_cI G) 12 (upd gO nO (nI j1)))) := ⟨_, rfl⟩
  rw [← hF9] at hw hA1 hX hC hT1 hTr hO1 hK hZ hD
  refine lv_iinc (v := (nI (nO + 1))) (lv' := [(8, .int (nI (nO + 1))), (14, .int (nI 1)), (13, .int (nI j13)), (0, .ref b), (1, .ref x), (2, .ref q2), (3, .ref q3), (4, .ref q4), (5, .ref q5), (6, .int (nI nC)), (7, .int (nI nT)), (9, .int (nI T)), (10, .int (nI i)), (11, .int v), (12, .int w)]) hx hb dL_law_434 hl (k := 10) rfl (nI_1 _) (by decide) rfl (fun ls hl => ?_)
  refine lv_aload_n hx hb dL_law_437 rfl (lv_at hl 4 rfl) ?_
  refine lv_aload hx hb dL_law_438 (lv_at hl 7 rfl) ?_
  refine lv_iload hx hb dL_law_440 (lv_at hl 0 rfl) ?_
  refine lv_iconst (v := (nI 1)) hx hb dL_law_442 (by decide) ?_
  refine lv_isub hx hb dL_law_443 ?_
  refine fw_top (pk_sub (by omega)) ?_
  refine fw_iald hx hb hz hw hA1.2.2.1 (vp_in_nI (show (nO + 1) - 1 < 12 by omega) (by omega)) dL_law_444 ?_
  rw [nI_clamp (show (nO + 1) - 1 < 2 ^ 31 by omega)]
  refine fw_top (x' := (nI j1)) (by rw [Nat.add_sub_cancel, pk_us]) ?_
  have hT9 := hT1
  obtain ⟨-, at9, hLt⟩ := hT9
  have hO9 := hO1
  obtain ⟨-, ao9, hLo⟩ := hO9
  have hK9 := hK
  obtain ⟨-, ⟨hnW, ⟨aw9, hLw⟩, -⟩, -, -⟩ := hK9
  have hnW8 : nW ≤ 8 * nO := Nat.le_trans hI.row.nW hPU.2.2.2.2.2.2.2.1
  refine fw_ask (fw_xrunV (As := [.int (nI j1)]) (rest := []) C hz hcx hw (c_X8_order l G _ _ x lc lt lo lm lw dr (nI T) ta sl fr sa f nT ca nC ao9 aw9 nO nW nJ oa (fun k => ja (wj k)) (nI j1) hl9 hX hT1 hTr hC hLo ho12 hLw hnW8 hPU.1) (fw_cwV hT wd_408 yVX8_order rfl rfl ⟨Nat.le_of_ble_eq_true rfl, Nat.le_of_ble_eq_true rfl⟩) (fw_rec hz hw hX (q := vwCl[9]) rfl) rfl hl.1 rfl (Nat.le_of_ble_eq_true rfl) dL_law_445 ⟨by show c1 + 0 + 28 ≤ 827442; omega, by show n1 + 0 + 3166 ≤ 6619141; omega⟩) hw (fun E h9 => by
      rcases h9 with ⟨-, h9⟩ | ⟨-, -, h9⟩
      · rw [rf_ix_of (show nT ≤ 100 by omega) (show j1 < nT by omega)] at h9; cases h9
      · omega) (fun r F1 H locs hw hp => ?_)
  refine W.widen (k := c1 + 28) (n := n1 + 3166) (by omega) (by omega) ?_
  obtain ⟨j9, p9, q9, arr9, msn, al9, aw1, wf1, hj9, ej9, h12, hr9, z1, z2, z3, z4, z5, z6, z7, hk9⟩ := hp
  obtain rfl := nI_j (show j1 ≤ 1000 by omega) (by omega) ej9
  rw [hr9]
  obtain ⟨c1L, c1P, c1k⟩ := st_order hX hC hT1 hTr hO1 hK hI hZ hD htr hPU hj1 h12 rfl z1 z2 z3 z4 z5 z6 z7 hk9
  have hV1 := pw_order hPV hc10 hj96 h12 hj1 ht8 hPU.1 hI.jok.2 hPU.2.2.2.1 hPU.2.2.2.2.1 rfl
  have hR1 : p4_R G F1 x q2 q3 q4 q5 (i + 1) nC nT (nO + 1) T := ⟨_, _, h, gA, gB, _, gH, hA1.kp c1k (fun t z => by omega), by omega, c1L, c1P, hV1⟩
  obtain ⟨g, hg⟩ : ∃ g, g = va_up (va_up (rf_ordJ f nC nJ nO j1 (rf_sm f j1)) 12 (upd (f 12) nO (nI j1))) 13 (upd (f 13) nO (-1)) := ⟨_, rfl⟩
  rw [← hg] at c1L
  have e13 : g 13 nO = -1 := by rw [hg]; exact pk_us
  obtain ⟨lc, lt, lo, lm, lw, dr, ds, dfr, ca, ta, sl, fr, oa, tr, ml, ma, ja, da, wj, sa, ms, nW, hX, hC, hT1, hTr, hO1, hK, hI, hZ, hD, htr⟩ := c1L
  refine lv_iload hx hb dL_law_448 (lv_at hl 0 rfl) ?_
  refine lv_iconst (v := (nI 1)) hx hb dL_law_450 (by decide) ?_
  refine lv_isub hx hb dL_law_451 ?_
  refine fw_top (pk_sub (by omega)) ?_
  refine lv_icmp_ne (tgt := 471) hx hb dL_law_452 (by decide) (fun d => ?_) (fun d => ?_)
  · have d : ¬ nO = ((nO + 1) - 1) := fun h9 => d ((nI_eq (a := nO) (b := (nO + 1) - 1) (by omega) (by omega)).mpr h9)
    omega
  · have d := (nI_eq (a := nO) (b := (nO + 1) - 1) (by omega) (by omega)).mp d
    refine lv_aload_n hx hb dL_law_455 rfl (lv_at hl 4 rfl) ?_
    refine lv_iload hx hb dL_law_456 (lv_at hl 0 rfl) ?_
    refine lv_iconst (v := (nI 1)) hx hb dL_law_458 (by decide) ?_
    refine lv_isub hx hb dL_law_459 ?_
    refine fw_top (pk_sub (by omega)) ?_
    refine fw_ask (fw_xrunV (As := [.int (nI ((nO + 1) - 1))]) (rest := []) C hz hcx hw (c_X8_doneAt l G _ _ x lc lt lo lm lw dr (nI T) oa tr ml g (nJ + 2 * rf_sm f j1) (nO + 1) (nI (nO + 1 - 1)) hl9 hX hO1 hK.2.2.1) (fw_cwV hT wd_560 yVX8_doneAt rfl rfl ⟨Nat.le_of_ble_eq_true rfl, Nat.le_of_ble_eq_true rfl⟩) (fw_rec hz hw hX (q := vwCl[9]) rfl) rfl hl.1 rfl (Nat.le_of_ble_eq_true rfl) dL_law_460 ⟨by show c1 + 28 + 1 ≤ 827442; omega, by show n1 + 3166 + 6 ≤ 6619141; omega⟩) hw (fun E h9 => absurd h9.2 (by rw [rf_ix_of (show nO + 1 ≤ 100 by omega) (show nO + 1 - 1 < nO + 1 by omega)]; decide)) (fun r F2 H locs hw hp => ?_)
    refine W.widen (k := c1 + 29) (n := n1 + 3172) (by omega) (by omega) ?_
    obtain ⟨hF2, j9, hj9, ej9, hr9⟩ := hp
    rw [hF2] at hw
    obtain rfl := nI_j (show nO + 1 - 1 ≤ 1000 by omega) (by omega) ej9
    rw [hr9, Nat.add_sub_cancel, e13]
    refine lv_iconst (v := (-1)) hx hb dL_law_463 (by decide) ?_
    refine lv_icmp_ne (tgt := 471) hx hb dL_law_464 (by decide) (fun cx => absurd cx (by decide)) (fun cx => ?_)
    refine lv_iconst (v := (nI 1)) hx hb dL_law_467 (by decide) ?_
    refine lv_goto (tgt := 472) hx hb dL_law_468 (by decide) ?_
    refine lv_istore (lv' := [(14, .int (nI 1)), (8, .int (nI (nO + 1))), (13, .int (nI j13)), (0, .ref b), (1, .ref x), (2, .ref q2), (3, .ref q3), (4, .ref q4), (5, .ref q5), (6, .int (nI nC)), (7, .int (nI nT)), (9, .int (nI T)), (10, .int (nI i)), (11, .int v), (12, .int w)]) hx hb dL_law_472 hl (by decide) rfl (fun ls hl => ?_)
    refine lv_goto (tgt := 669) hx hb dL_law_474 (by decide) ?_
    refine W.widen (k := c1 + 120) (n := n1 + 9000) (by omega) (by omega) ?_
    exact K _ _ _ _ nC nT (nO + 1) T hw hR1 (lv_sub hl [0, 3, 4, 5, 6, 7, 8, 9, 10, 1, 11, 12, 13, 14] rfl)
set_option maxHeartbeats 4000000 in
set_option maxRecDepth 100000 in
theorem law_test {p : Program} {l : Launch} {e : Env} {s : State} {m : MethodId} {below : List Frame} {meth : Method} {c : Code} {b L : Nat} {xs : Nat → Int32} {G : fw_G} (E0 : lw_E p l s m c b L xs G) {x q2 q3 q4 q5 i nC nT nO T : Nat} {c1 n1 : Nat} {Q : State → Prop} {v w : Int32} (hi : i < 50) (hc1 : c1 + 120 ≤ 827442) (hn1 : n1 + 9000 ≤ 6619141) {F : fw_F} {H : Heap} {locs : List Loc} {ls : Array Slot} {j13 : Nat} (hR : p4_R G F x q2 q3 q4 q5 i nC nT nO T) (hnO : 0 < nO) (hw : fw_S G (fun q : Nat => s.heap.size ≤ q) s F H locs) (hl : lv_has ls 24 [(14, .int (nI 1)), (13, .int (nI j13)), (0, .ref b), (1, .ref x), (2, .ref q2), (3, .ref q3), (4, .ref q4), (5, .ref q5), (6, .int (nI nC)), (7, .int (nI nT)), (8, .int (nI nO)), (9, .int (nI T)), (10, .int (nI i)), (11, .int v), (12, .int w)])
    (K : ∀ (F : fw_F) (H : Heap) (locs : List Loc) (ls : Array Slot) (nC' nT' nO' T' : Nat), fw_S G (fun q : Nat => s.heap.size ≤ q) s F H locs → p4_R G F x q2 q3 q4 q5 (i + 1) nC' nT' nO' T' → lv_has ls 24 [(14, .int (nI 1)), (0, .ref b), (1, .ref x), (2, .ref q2), (3, .ref q3), (4, .ref q4), (5, .ref q5), (6, .int (nI (nC'))), (7, .int (nI (nT'))), (8, .int (nI (nO'))), (9, .int (nI (T'))), (10, .int (nI i)), (11, .int v), (12, .int w)] → W p l e room_1 s m #[Value.ref b] below meth c H locs (c1 + 120) (n1 + 9000) Q (F0 m 669 ls [])) : W p l e room_1 s m #[Value.ref b] below meth c H locs (c1) (n1) Q (F0 m 489 ls []) := by
  obtain ⟨hx, hb, hml, hown, hT, hz, hcx, hl9, hX9, hbl, hL, hAn⟩ := E0
  have C : CallFix p m c code 24 s #[Value.ref b] fw_tb RL := ⟨hx, hb, hml, hown, hT⟩
  have hbA : ¬ (fun q : Nat => s.heap.size ≤ q) b := Nat.not_le.mpr hbl
  obtain ⟨f, nJ, h, gA, gB, gO, gH, hA, hT60, hCL, hPU, hPV⟩ := hR
  have hCL0 := hCL
  obtain ⟨lc, lt, lo, lm, lw, dr, ds, dfr, ca, ta, sl, fr, oa, tr, ml, ma, ja, da, wj, sa, ms, nW, hX, hC, hT1, hTr, hO1, hK, hI, hZ, hD, htr⟩ := hCL
  have hc10 := hC.1
  have ht8 := hT1.1
  have ho12 := hO1.1
  have hj96 := hI.j96
  refine lv_iload hx hb dL_law_489 (lv_at hl 14 rfl) ?_
  refine lv_iload hx hb dL_law_491 (lv_at hl 10 rfl) ?_
  refine fw_calli (fw_runS (As := [.int w, .int (nI nO)]) (rest := []) C hz hw (c_L_low l G _ _ w nO (by omega) (by omega)) (fw_cwS hT wd_601 ySL_low rfl rfl ⟨Nat.le_of_ble_eq_true rfl, Nat.le_of_ble_eq_true rfl⟩) rfl hl.1 rfl (Nat.le_of_ble_eq_true rfl) dL_law_493 ⟨by show c1 + 0 + 0 ≤ 827442; omega, by show n1 + 0 + 0 ≤ 6619141; omega⟩) hw (fun r F1 H locs hw hp => ?_)
  refine W.widen (k := c1 + 0) (n := n1 + 0) (by omega) (by omega) ?_
  obtain ⟨hF1, k9, hk9, hr9⟩ := hp
  rw [hF1] at hw
  rw [hr9]
  have hot := hPU.2.1 k9 hk9
  have htk := hPU.1 _ hot.2
  obtain ⟨h14, h15⟩ := hPV.2.2.2.2.2.1.2 k9 hk9
  have hh80 := hPV.2.2.2.2.2.1.1 k9 (by omega)
  obtain ⟨u, hu, eu⟩ := h15 0 (by decide)
  have egO := hPV.2.2.2.2.2.2.2.1 k9 hk9
  have egH := hPV.2.2.2.2.2.2.2.2 k9 (by omega)
  obtain ⟨t9, et9⟩ : ∃ z, z = rf_ot f k9 := ⟨_, rfl⟩
  have ht9 : t9 < nT := by rw [et9]; exact hot.2
  rw [← et9] at egO htk
  refine lv_istore (lv' := [(15, .int (nI k9)), (14, .int (nI 1)), (13, .int (nI j13)), (0, .ref b), (1, .ref x), (2, .ref q2), (3, .ref q3), (4, .ref q4), (5, .ref q5), (6, .int (nI nC)), (7, .int (nI nT)), (8, .int (nI nO)), (9, .int (nI T)), (10, .int (nI i)), (11, .int v), (12, .int w)]) hx hb dL_law_496 hl (by decide) rfl (fun ls hl => ?_)
  refine lv_aload_n hx hb dL_law_498 rfl (lv_at hl 4 rfl) ?_
  refine lv_aload hx hb dL_law_499 (lv_at hl 7 rfl) ?_
  refine lv_iload hx hb dL_law_501 (lv_at hl 0 rfl) ?_
  refine fw_iald hx hb hz hw hA.2.2.1 (vp_in_nI (show k9 < 12 by omega) (by omega)) dL_law_503 ?_
  rw [nI_clamp (show k9 < 2 ^ 31 by omega)]
  refine fw_top (x' := (nI t9)) (egO) ?_
  refine fw_ask (fw_xrunV (As := [.int (nI t9)]) (rest := []) C hz hcx hw (c_X8_claims l G _ _ x lc lt lo lm lw dr (nI T) ta sl fr sa f nT (nI t9) hl9 hX hT1 hTr) (fw_cwV hT wd_594 yVX8_claims rfl rfl ⟨Nat.le_of_ble_eq_true rfl, Nat.le_of_ble_eq_true rfl⟩) (fw_rec hz hw hX (q := vwCl[9]) rfl) rfl hl.1 rfl (Nat.le_of_ble_eq_true rfl) dL_law_504 ⟨by show c1 + 0 + 1 ≤ 827442; omega, by show n1 + 0 + 6 ≤ 6619141; omega⟩) hw (fun E h9 => absurd h9.2 (by rw [rf_ix_of (show nT ≤ 100 by omega) (show t9 < nT by omega)]; decide)) (fun r F1 H locs hw hp => ?_)
  refine W.widen (k := c1 + 1) (n := n1 + 6) (by omega) (by omega) ?_
  obtain ⟨hF2, j9, hj9, ej9, hr9⟩ := hp
  rw [hF2] at hw
  obtain rfl := nI_j (show t9 ≤ 1000 by omega) (by omega) ej9
  rw [hr9]
  have eu : f 15 (4 * k9) = nI u := eu
  have hsm9 : ∀ j, j < nO → 0 < rf_sm f (rf_ot f j) ∧ rf_sm f (rf_ot f j) ≤ 4 := fun j hj => ⟨(hPU.1 _ (hPU.2.1 j hj).2).2.1, (hPU.1 _ (hPU.2.1 j hj).2).2.2.1⟩
  refine lv_istore (lv' := [(16, .int (f 10 t9)), (15, .int (nI k9)), (14, .int (nI 1)), (13, .int (nI j13)), (0, .ref b), (1, .ref x), (2, .ref q2), (3, .ref q3), (4, .ref q4), (5, .ref q5), (6, .int (nI nC)), (7, .int (nI nT)), (8, .int (nI nO)), (9, .int (nI T)), (10, .int (nI i)), (11, .int v), (12, .int w)]) hx hb dL_law_507 hl (by decide) rfl (fun ls hl => ?_)
  refine lv_aload_n hx hb dL_law_509 rfl (lv_at hl 5 rfl) ?_
  refine lv_iload hx hb dL_law_510 (lv_at hl 1 rfl) ?_
  refine lv_iconst (v := (nI 0)) hx hb dL_law_512 (by decide) ?_
  refine fw_ask (fw_xrunV (As := [.int (nI k9), .int (nI 0)]) (rest := []) C hz hcx hw (c_X8_wear l G _ _ x lc lt lo lm lw dr (nI T) oa tr ml f nJ nO ms sa (nI k9) (nI 0) hl9 hX hO1 hK.2.2.1 hZ (fun j hj => (hPU.1 _ (hPU.2.1 j hj).2).2.2.1)) (fw_cwV hT wd_588 yVX8_wear rfl rfl ⟨Nat.le_of_ble_eq_true rfl, Nat.le_of_ble_eq_true rfl⟩) (fw_rec hz hw hX (q := vwCl[9]) rfl) rfl hl.1 rfl (Nat.le_of_ble_eq_true rfl) dL_law_513 ⟨by show c1 + 1 + 2 ≤ 827442; omega, by show n1 + 6 + 12 ≤ 6619141; omega⟩) hw (fun E h9 => by
      obtain ⟨-, h9⟩ := h9
      rcases h9 with h9 | ⟨j9, hj9, ej9, h9⟩
      · rw [rf_ix_of (show nO ≤ 100 by omega) (show k9 < nO by omega)] at h9; cases h9
      · obtain rfl := nI_j (show k9 ≤ 1000 by omega) (by omega) ej9
        rw [rf_ix_of (Nat.le_trans (hsm9 k9 hj9).2 (by decide)) (hsm9 k9 hj9).1] at h9; cases h9) (fun r F1 H locs hw hp => ?_)
  refine W.widen (k := c1 + 3) (n := n1 + 18) (by omega) (by omega) ?_
  obtain ⟨hF2, j9, k0, hj9, ej9, hk0, ek0, hr9⟩ := hp
  rw [hF2] at hw
  obtain rfl := nI_j (show k9 ≤ 1000 by omega) (by omega) ej9
  obtain rfl : k0 = 0 := by
    have := (hsm9 k9 hj9).2
    exact (nI_j (by omega) (by omega) ek0).symm
  rw [hr9, show f 15 (4 * k9 + 0) = (nI u) from eu]
  refine lv_istore (lv' := [(17, .int (nI u)), (16, .int (f 10 t9)), (15, .int (nI k9)), (14, .int (nI 1)), (13, .int (nI j13)), (0, .ref b), (1, .ref x), (2, .ref q2), (3, .ref q3), (4, .ref q4), (5, .ref q5), (6, .int (nI nC)), (7, .int (nI nT)), (8, .int (nI nO)), (9, .int (nI T)), (10, .int (nI i)), (11, .int v), (12, .int w)]) hx hb dL_law_516 hl (by decide) rfl (fun ls hl => ?_)
  refine lv_iconst (v := (nI 1)) hx hb dL_law_518 (by decide) ?_
  refine lv_iload hx hb dL_law_519 (lv_at hl 17 rfl) ?_
  refine lv_iconst (v := (nI 5)) hx hb dL_law_521 (by decide) ?_
  refine lv_ishr hx hb dL_law_522 ?_
  refine lv_topi (fun s1 _ => ?_)
  refine lv_bipush (v := (nI 40)) hx hb dL_law_523 (by decide) ?_
  refine fw_calli (fw_runS (As := [.int s1, .int (nI 40)]) (rest := [.int (nI 1)]) C hz hw (c_L_low l G _ _ s1 40 (by decide) (by decide)) (fw_cwS hT wd_601 ySL_low rfl rfl ⟨Nat.le_of_ble_eq_true rfl, Nat.le_of_ble_eq_true rfl⟩) rfl hl.1 rfl (Nat.le_of_ble_eq_true rfl) dL_law_525 ⟨by show c1 + 3 + 0 ≤ 827442; omega, by show n1 + 18 + 0 ≤ 6619141; omega⟩) hw (fun r F1 H locs hw hp => ?_)
  refine W.widen (k := c1 + 3) (n := n1 + 18) (by omega) (by omega) ?_
  obtain ⟨hF1, j1, hj1, hr9⟩ := hp
  rw [hF1] at hw
  rw [hr9]
  refine lv_iadd hx hb dL_law_528 ?_
  refine fw_top (nI_add _ _) ?_
  refine lv_istore (lv' := [(18, .int (nI (1 + j1))), (17, .int (nI u)), (16, .int (f 10 t9)), (15, .int (nI k9)), (14, .int (nI 1)), (13, .int (nI j13)), (0, .ref b), (1, .ref x), (2, .ref q2), (3, .ref q3), (4, .ref q4), (5, .ref q5), (6, .int (nI nC)), (7, .int (nI nT)), (8, .int (nI nO)), (9, .int (nI T)), (10, .int (nI i)), (11, .int v), (12, .int w)]) hx hb dL_law_529 hl (by decide) rfl (fun ls hl => ?_)
  refine lv_aload_n hx hb dL_law_531 rfl (lv_at hl 7 rfl) ?_
  refine lv_iload hx hb dL_law_532 (lv_at hl 3 rfl) ?_
  refine fw_ask (fw_xrunV (As := [.int (nI k9)]) (rest := []) C hz hcx hw (c_X8_doneAt l G _ _ x lc lt lo lm lw dr (nI T) oa tr ml f nJ nO (nI k9) hl9 hX hO1 hK.2.2.1) (fw_cwV hT wd_560 yVX8_doneAt rfl rfl ⟨Nat.le_of_ble_eq_true rfl, Nat.le_of_ble_eq_true rfl⟩) (fw_rec hz hw hX (q := vwCl[9]) rfl) rfl hl.1 rfl (Nat.le_of_ble_eq_true rfl) dL_law_534 ⟨by show c1 + 3 + 1 ≤ 827442; omega, by show n1 + 18 + 6 ≤ 6619141; omega⟩) hw (fun E h9 => absurd h9.2 (by rw [rf_ix_of (show nO ≤ 100 by omega) (show k9 < nO by omega)]; decide)) (fun r F1 H locs hw hp => ?_)
  refine W.widen (k := c1 + 4) (n := n1 + 24) (by omega) (by omega) ?_
  obtain ⟨hF2, j9, hj9, ej9, hr9⟩ := hp
  rw [hF2] at hw
  obtain rfl := nI_j (show k9 ≤ 1000 by omega) (by omega) ej9
  rw [hr9]
  rcases hPV.2.2.1 k9 hk9 with e13 | ⟨d9, hd9, e13⟩
  · rw [e13]
    refine lv_if_lt (tgt := 623) hx hb dL_law_537 (by decide) (fun cx => ?_) (fun cx => absurd cx (by decide))
    refine lv_goto (tgt := 669) hx hb dL_law_623 (by decide) ?_
    refine W.widen (k := c1 + 120) (n := n1 + 9000) (by omega) (by omega) ?_
    exact K _ _ _ _ nC nT nO T hw ⟨f, nJ, h, gA, gB, gO, gH, hA, by omega, hCL0, hPU, hPV⟩ (lv_sub hl [4, 6, 7, 8, 9, 10, 11, 12, 13, 14, 15, 16, 17, 18] rfl)
  · rw [e13]
    refine lv_if_lt (tgt := 623) hx hb dL_law_537 (by decide) (fun d => ?_) (fun d => ?_)
    · have d := (nI_ltI (a := d9) (b := 0) (by omega) (by omega)).mp d
      omega
    · have d : ¬ d9 < 0 := fun h9 => d ((nI_ltI (a := d9) (b := 0) (by omega) (by omega)).mpr h9)
      refine lv_aload hx hb dL_law_540 (lv_at hl 11 rfl) ?_
      refine lv_iload hx hb dL_law_542 (lv_at hl 3 rfl) ?_
      refine fw_iald hx hb hz hw hA.2.2.2 (vp_in_nI (show k9 < 12 by omega) (by omega)) dL_law_544 ?_
      rw [nI_clamp (show k9 < 2 ^ 31 by omega)]
      refine fw_top (x' := (nI (h k9))) (egH) ?_
      refine lv_iload hx hb dL_law_545 (lv_at hl 0 rfl) ?_
      refine lv_iadd hx hb dL_law_547 ?_
      refine fw_top (nI_add _ _) ?_
      refine lv_bipush (v := (nI 80)) hx hb dL_law_548 (by decide) ?_
      refine lv_icmp_gt (tgt := 623) hx hb dL_law_550 (by decide) (fun d2 => ?_) (fun d2 => ?_)
      · have d2 := (nI_ltI (a := 80) (b := (h k9) + (1 + j1)) (by omega) (by omega)).mp d2
        refine lv_goto (tgt := 669) hx hb dL_law_623 (by decide) ?_
        refine W.widen (k := c1 + 120) (n := n1 + 9000) (by omega) (by omega) ?_
        exact K _ _ _ _ nC nT nO T hw ⟨f, nJ, h, gA, gB, gO, gH, hA, by omega, hCL0, hPU, hPV⟩ (lv_sub hl [4, 6, 7, 8, 9, 10, 11, 12, 13, 14, 15, 16, 17, 18] rfl)
      · have d2 : ¬ 80 < ((h k9) + (1 + j1)) := fun h9 => d2 ((nI_ltI (a := 80) (b := (h k9) + (1 + j1)) (by omega) (by omega)).mpr h9)
        refine lv_aload hx hb dL_law_553 (lv_at hl 11 rfl) ?_
        refine lv_iload hx hb dL_law_555 (lv_at hl 3 rfl) ?_
        refine lv_dup2_11 hx hb dL_law_557 rfl rfl ?_
        refine fw_iald hx hb hz hw hA.2.2.2 (vp_in_nI (show k9 < 12 by omega) (by omega)) dL_law_558 ?_
        rw [nI_clamp (show k9 < 2 ^ 31 by omega)]
        refine fw_top (x' := (nI (h k9))) (egH) ?_
        refine lv_iload hx hb dL_law_559 (lv_at hl 0 rfl) ?_
        refine lv_iadd hx hb dL_law_561 ?_
        refine fw_top (nI_add _ _) ?_
        refine fw_iast hx hb hz hw hA.2.2.2 (vp_in_nI (show k9 < 12 by omega) (by omega)) dL_law_562 (fun H locs hw => ?_)
        rw [nI_clamp (show k9 < 2 ^ 31 by omega)] at hw
        have hA1 := hA.s5 (g := (upd gH k9 (nI (h k9 + (1 + j1)))))
        have hCL := hCL0.up (e' := fw_ia (fw_cI G) 12 (upd gH k9 (nI (h k9 + (1 + j1))))) hA.2.2.2 (by decide)
        obtain ⟨lc, lt, lo, lm, lw, dr, ds, dfr, ca, ta, sl, fr, oa, tr, ml, ma, ja, da, wj, sa, ms, nW, hX, hC, hT1, hTr, hO1, hK, hI, hZ, hD, htr⟩ := hCL
        obtain ⟨F9, hF9⟩ : ∃ z, z = va_up F q5 (some ((64, 0, 0), fw_ia (fw_cI G) 12 (upd gH k9 (nI (h k9 + (1 + j1)))))) := ⟨_, rfl⟩
        rw [← hF9] at hw hA1 hX hC hT1 hTr hO1 hK hZ hD
        have hlf : rf_left f (nI k9) nJ = 0 := by
          rcases Nat.eq_zero_or_pos (rf_left f (nI k9) nJ) with q | q
          · exact q
          · exact absurd ((hI.don k9 hk9 q).symm.trans e13) (fun z => nI_neg1 (by omega) z.symm)
        have hok : rf_okT (nI 1) (nI (1 + j1)) = true := p4_okT (by decide) (by decide) (by omega) (by omega)
        refine lv_aload_n hx hb dL_law_563 rfl (lv_at hl 7 rfl) ?_
        refine lv_iload hx hb dL_law_564 (lv_at hl 3 rfl) ?_
        refine lv_iconst (v := (nI 1)) hx hb dL_law_566 (by decide) ?_
        refine lv_iload hx hb dL_law_567 (lv_at hl 0 rfl) ?_
        refine fw_ask (fw_xrunV (As := [.int (nI k9), .int (nI 1), .int (nI (1 + j1))]) (rest := []) C hz hcx hw (c_X8_test l G _ _ x lc lt lo lm lw dr (nI T) oa tr ml ta sl fr ms sa f nJ nO nT (nI k9) (nI 1) (nI (1 + j1)) hl9 hX hO1 hK.2.2.1 hTr hZ hI.j96 hPU.1 (fun j hj => ⟨(hPU.2.1 j hj).2, htr j hj⟩) hPU.2.2.2.2.2.1) (fw_cwV hT wd_569 yVX8_test rfl rfl ⟨Nat.le_of_ble_eq_true rfl, Nat.le_of_ble_eq_true rfl⟩) (fw_rec hz hw hX (q := vwCl[9]) rfl) rfl hl.1 rfl (Nat.le_of_ble_eq_true rfl) dL_law_569 ⟨by show c1 + 4 + 2 ≤ 827442; omega, by show n1 + 24 + 12 ≤ 6619141; omega⟩) hw (fun E h9 => by
            rcases h9 with ⟨-, h9⟩ | ⟨-, -, h9⟩ | ⟨-, j9, hj9, ej9, -, h9⟩
            · rw [rf_ix_of (show nO ≤ 100 by omega) (show k9 < nO by omega)] at h9; cases h9
            · rw [hok] at h9; cases h9
            · obtain rfl := nI_j (show k9 ≤ 1000 by omega) (by omega) ej9
              rcases h9 with h9 | h9
              · omega
              · exact h9 h14) (fun r F1 H locs hw hp => ?_)
        refine W.widen (k := c1 + 6) (n := n1 + 36) (by omega) (by omega) ?_
        obtain ⟨j9, a1, a2, hj9, ej9, b1, b2, b3, b4, ea1, ea2, -, -, hr9, z1, z2, z3, hkk9⟩ := hp
        obtain rfl := nI_j (show k9 ≤ 1000 by omega) (by omega) ej9
        obtain rfl := nI_j (show 1 ≤ 1000 by omega) (by omega) ea1
        obtain rfl := nI_j (show 1 + j1 ≤ 1000 by omega) (by omega) ea2
        rw [Nat.one_mul] at hr9 z1 z2 z3
        obtain ⟨c1L, c1P, c1k⟩ := st_test hX hC hT1 hTr hO1 hK hI hZ hD htr hPU hk9 h14 rfl z1 z2 z3 hkk9
        obtain ⟨hV1, g14, g10, g12, u1, u2, hu1, hu2, eu1, eu2⟩ := pw_test (lh := 1 + j1) hPV hc10 hk9 ho12 (by rw [← et9]; exact htk) (by omega) rfl
        have hR1 : p4_R G F1 x q2 q3 q4 q5 (i + 1) nC nT nO T := ⟨_, nJ, _, gA, gB, gO, _, hA1.kp c1k (fun t z => by omega), by omega, c1L, c1P, hV1⟩
        have hA2 := hA1.kp c1k (fun t z => by omega)
        rw [hr9, g14]
        obtain ⟨g, hg⟩ : ∃ g, g = rf_testf f k9 (rf_ot f k9) (1 + j1) := ⟨_, rfl⟩
        rw [← hg] at c1L c1P g10 g12 eu2
        have euu : u = u1 := (nI_eq (by omega) (by omega)).mp (eu.symm.trans eu1)
        have hPU := c1P
        have hsm9 : ∀ j, j < nO → 0 < rf_sm g (rf_ot g j) ∧ rf_sm g (rf_ot g j) ≤ 4 := fun j hj => ⟨(hPU.1 _ (hPU.2.1 j hj).2).2.1, (hPU.1 _ (hPU.2.1 j hj).2).2.2.1⟩
        obtain ⟨lc, lt, lo, lm, lw, dr, ds, dfr, ca, ta, sl, fr, oa, tr, ml, ma, ja, da, wj, sa, ms, nW, hX, hC, hT1, hTr, hO1, hK, hI, hZ, hD, htr⟩ := c1L
        refine lv_if_ne (tgt := 620) hx hb dL_law_572 (by decide) (fun cx => absurd cx (by decide)) (fun cx => ?_)
        refine lv_aload_n hx hb dL_law_575 rfl (lv_at hl 7 rfl) ?_
        refine lv_aload hx hb dL_law_576 (lv_at hl 10 rfl) ?_
        refine lv_iload hx hb dL_law_578 (lv_at hl 3 rfl) ?_
        refine fw_iald hx hb hz hw hA2.2.2.1 (vp_in_nI (show k9 < 12 by omega) (by omega)) dL_law_580 ?_
        rw [nI_clamp (show k9 < 2 ^ 31 by omega)]
        refine fw_top (x' := (nI t9)) (egO) ?_
        refine fw_ask (fw_xrunV (As := [.int (nI t9)]) (rest := []) C hz hcx hw (c_X8_claims l G _ _ x lc lt lo lm lw dr (nI T) ta sl fr sa g nT (nI t9) hl9 hX hT1 hTr) (fw_cwV hT wd_594 yVX8_claims rfl rfl ⟨Nat.le_of_ble_eq_true rfl, Nat.le_of_ble_eq_true rfl⟩) (fw_rec hz hw hX (q := vwCl[9]) rfl) rfl hl.1 rfl (Nat.le_of_ble_eq_true rfl) dL_law_581 ⟨by show c1 + 6 + 1 ≤ 827442; omega, by show n1 + 36 + 6 ≤ 6619141; omega⟩) hw (fun E h9 => absurd h9.2 (by rw [rf_ix_of (show nT ≤ 100 by omega) (show t9 < nT by omega)]; decide)) (fun r F2 H locs hw hp => ?_)
        refine W.widen (k := c1 + 7) (n := n1 + 42) (by omega) (by omega) ?_
        obtain ⟨hF2, j9, hj9, ej9, hr9⟩ := hp
        rw [hF2] at hw
        obtain rfl := nI_j (show t9 ≤ 1000 by omega) (by omega) ej9
        rw [hr9, g10]
        refine lv_iload hx hb dL_law_584 (lv_at hl 2 rfl) ?_
        refine lv_icmp_ne (tgt := 620) hx hb dL_law_586 (by decide) (fun cx => absurd cx (fun h => h rfl)) (fun cx => ?_)
        refine lv_aload_n hx hb dL_law_589 rfl (lv_at hl 7 rfl) ?_
        refine lv_iload hx hb dL_law_590 (lv_at hl 3 rfl) ?_
        refine lv_iconst (v := (nI 0)) hx hb dL_law_592 (by decide) ?_
        refine fw_ask (fw_xrunV (As := [.int (nI k9), .int (nI 0)]) (rest := []) C hz hcx hw (c_X8_wear l G _ _ x lc lt lo lm lw dr (nI T) oa tr ml g nJ nO ms sa (nI k9) (nI 0) hl9 hX hO1 hK.2.2.1 hZ (fun j hj => (hPU.1 _ (hPU.2.1 j hj).2).2.2.1)) (fw_cwV hT wd_588 yVX8_wear rfl rfl ⟨Nat.le_of_ble_eq_true rfl, Nat.le_of_ble_eq_true rfl⟩) (fw_rec hz hw hX (q := vwCl[9]) rfl) rfl hl.1 rfl (Nat.le_of_ble_eq_true rfl) dL_law_593 ⟨by show c1 + 7 + 2 ≤ 827442; omega, by show n1 + 42 + 12 ≤ 6619141; omega⟩) hw (fun E h9 => by
            obtain ⟨-, h9⟩ := h9
            rcases h9 with h9 | ⟨j9, hj9, ej9, h9⟩
            · rw [rf_ix_of (show nO ≤ 100 by omega) (show k9 < nO by omega)] at h9; cases h9
            · obtain rfl := nI_j (show k9 ≤ 1000 by omega) (by omega) ej9
              rw [rf_ix_of (Nat.le_trans (hsm9 k9 hj9).2 (by decide)) (hsm9 k9 hj9).1] at h9; cases h9) (fun r F2 H locs hw hp => ?_)
        refine W.widen (k := c1 + 9) (n := n1 + 54) (by omega) (by omega) ?_
        obtain ⟨hF2, j9, k0, hj9, ej9, hk0, ek0, hr9⟩ := hp
        rw [hF2] at hw
        obtain rfl := nI_j (show k9 ≤ 1000 by omega) (by omega) ej9
        obtain rfl : k0 = 0 := by
          have := (hsm9 k9 hj9).2
          exact (nI_j (by omega) (by omega) ek0).symm
        rw [hr9, show g 15 (4 * k9 + 0) = (nI u2) from eu2]
        refine lv_iload hx hb dL_law_596 (lv_at hl 1 rfl) ?_
        refine lv_icmp_lt (tgt := 620) hx hb dL_law_598 (by decide) (fun d3 => ?_) (fun d3 => ?_)
        · have d3 := (nI_ltI (a := u2) (b := u) (by omega) (by omega)).mp d3
          omega
        · have d3 : ¬ u2 < u := fun h9 => d3 ((nI_ltI (a := u2) (b := u) (by omega) (by omega)).mpr h9)
          refine lv_aload_n hx hb dL_law_601 rfl (lv_at hl 7 rfl) ?_
          refine lv_iload hx hb dL_law_602 (lv_at hl 3 rfl) ?_
          refine lv_iconst (v := (nI 0)) hx hb dL_law_604 (by decide) ?_
          refine fw_ask (fw_xrunV (As := [.int (nI k9), .int (nI 0)]) (rest := []) C hz hcx hw (c_X8_wear l G _ _ x lc lt lo lm lw dr (nI T) oa tr ml g nJ nO ms sa (nI k9) (nI 0) hl9 hX hO1 hK.2.2.1 hZ (fun j hj => (hPU.1 _ (hPU.2.1 j hj).2).2.2.1)) (fw_cwV hT wd_588 yVX8_wear rfl rfl ⟨Nat.le_of_ble_eq_true rfl, Nat.le_of_ble_eq_true rfl⟩) (fw_rec hz hw hX (q := vwCl[9]) rfl) rfl hl.1 rfl (Nat.le_of_ble_eq_true rfl) dL_law_605 ⟨by show c1 + 9 + 2 ≤ 827442; omega, by show n1 + 54 + 12 ≤ 6619141; omega⟩) hw (fun E h9 => by
              obtain ⟨-, h9⟩ := h9
              rcases h9 with h9 | ⟨j9, hj9, ej9, h9⟩
              · rw [rf_ix_of (show nO ≤ 100 by omega) (show k9 < nO by omega)] at h9; cases h9
              · obtain rfl := nI_j (show k9 ≤ 1000 by omega) (by omega) ej9
                rw [rf_ix_of (Nat.le_trans (hsm9 k9 hj9).2 (by decide)) (hsm9 k9 hj9).1] at h9; cases h9) (fun r F2 H locs hw hp => ?_)
          refine W.widen (k := c1 + 11) (n := n1 + 66) (by omega) (by omega) ?_
          obtain ⟨hF2, j9, k0, hj9, ej9, hk0, ek0, hr9⟩ := hp
          rw [hF2] at hw
          obtain rfl := nI_j (show k9 ≤ 1000 by omega) (by omega) ej9
          obtain rfl : k0 = 0 := by
            have := (hsm9 k9 hj9).2
            exact (nI_j (by omega) (by omega) ek0).symm
          rw [hr9, show g 15 (4 * k9 + 0) = (nI u2) from eu2]
          refine lv_aload hx hb dL_law_608 (lv_at hl 11 rfl) ?_
          refine lv_iload hx hb dL_law_610 (lv_at hl 3 rfl) ?_
          refine fw_iald hx hb hz hw hA2.2.2.2 (vp_in_nI (show k9 < 12 by omega) (by omega)) dL_law_612 ?_
          rw [nI_clamp (show k9 < 2 ^ 31 by omega)]
          refine fw_top (x' := (nI (h k9 + (1 + j1)))) (pk_us) ?_
          refine lv_icmp_gt (tgt := 620) hx hb dL_law_613 (by decide) (fun d4 => ?_) (fun d4 => ?_)
          · have d4 := (nI_ltI (a := h k9 + (1 + j1)) (b := u2) (by omega) (by omega)).mp d4
            omega
          · have d4 : ¬ (h k9 + (1 + j1)) < u2 := fun h9 => d4 ((nI_ltI (a := h k9 + (1 + j1)) (b := u2) (by omega) (by omega)).mpr h9)
            refine lv_iconst (v := (nI 1)) hx hb dL_law_616 (by decide) ?_
            refine lv_goto (tgt := 621) hx hb dL_law_617 (by decide) ?_
            refine lv_istore (lv' := [(14, .int (nI 1)), (18, .int (nI (1 + j1))), (17, .int (nI u)), (16, .int (f 10 t9)), (15, .int (nI k9)), (13, .int (nI j13)), (0, .ref b), (1, .ref x), (2, .ref q2), (3, .ref q3), (4, .ref q4), (5, .ref q5), (6, .int (nI nC)), (7, .int (nI nT)), (8, .int (nI nO)), (9, .int (nI T)), (10, .int (nI i)), (11, .int v), (12, .int w)]) hx hb dL_law_621 hl (by decide) rfl (fun ls hl => ?_)
            refine lv_goto (tgt := 669) hx hb dL_law_623 (by decide) ?_
            refine W.widen (k := c1 + 120) (n := n1 + 9000) (by omega) (by omega) ?_
            exact K _ _ _ _ nC nT nO T hw hR1 (lv_sub hl [0, 6, 7, 8, 9, 10, 11, 12, 13, 14, 15, 16, 17, 18] rfl)
