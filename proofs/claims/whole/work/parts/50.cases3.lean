/-! The law's three cases without arguments. -/
set_option maxHeartbeats 4000000 in
set_option maxRecDepth 100000 in
theorem law_scrap {p : Program} {l : Launch} {e : Env} {s : State} {m : MethodId} {below : List Frame} {meth : Method} {c : Code} {b L : Nat} {xs : Nat → Int32} {G : fw_G} (E0 : lw_E p l s m meth c b L xs G) {F : fw_F} {x y o i : Nat} {H : Heap} {locs : List Loc} {ls : Array Slot} {c1 n1 : Nat} {Q : State → Prop} (hi4 : 4 * i + 3 < L) (hc1 : c1 + 40 ≤ 875399) (hn1 : n1 + 4000 ≤ 6469906) (hR : lw_R G F x y o i) (hw : fw_S G (fun q : Nat => s.heap.size ≤ q) s F H locs) (hl : lv_has ls 7 [(4, .int (nI (4 * i))), (0, .ref b), (1, .ref x), (2, .ref y), (3, .ref o)])
    (K : ∀ (F : fw_F) (H : Heap) (locs : List Loc) (ls : Array Slot), fw_S G (fun q : Nat => s.heap.size ≤ q) s F H locs → lw_R G F x y o (i + 1) → lv_has ls 7 [(4, .int (nI (4 * i))), (0, .ref b), (1, .ref x), (2, .ref y), (3, .ref o)] → W p l e room_1 s m #[Value.ref b] below meth c H locs (c1 + 40) (n1 + 4000) Q (F0 m 1334 ls [])) : W p l e room_1 s m #[Value.ref b] below meth c H locs (c1) (n1) Q (F0 m 364 ls []) := by
  obtain ⟨hx, hb, hml, hown, hT9, hz, hcx, hnc, hl9, hXs, hbl, hL⟩ := E0
  have hT := hT9
  have C : CallFix p m c code 7 s #[Value.ref b] fw_tb RL := ⟨hx, hb, hml, hown, hT⟩
  have hbA : ¬ (fun q : Nat => s.heap.size ≤ q) b := Nat.not_le.mpr hbl
  obtain ⟨ad, sc, f, g0, nC, nT, nO, nJ, nD, T, hmW, ho, hT200, hCL, hPU, hMS⟩ := hR
  have hCL9 := hCL
  obtain ⟨lc, lt, lo, lm, lw, dr, ds, dfr, ca, ta, sl, fr, oa, tr, ml, ma, ja, da, wj, sa, ms, nW, hX, hC, hT1, hTr, hO1, hK, hI, hZ, hD, htr⟩ := hCL9
  have hC9 := hC
  obtain ⟨hc10, ⟨arc, hLc⟩, hcs⟩ := hC9
  have hT9 := hT1
  obtain ⟨ht8, at9, hLt⟩ := hT9
  have hO9 := hO1
  obtain ⟨ho12, ao9, hLo⟩ := hO9
  have hK9 := hK
  obtain ⟨-, ⟨hnW, ⟨aw9, hLw⟩, -⟩, -, -⟩ := hK9
  have hD9 := hD
  obtain ⟨hd4, hD1, ⟨ad9, hD2⟩, hD3, hD4⟩ := hD9
  have hd2 := rf_dp_ok hPU.2.2.2.2.2.2.2.2 (w := 2) (Or.inr rfl) nD (Nat.le_refl _)
  have hd1 := rf_dp_ok hPU.2.2.2.2.2.2.2.2 (w := 1) (Or.inl rfl) nD (Nat.le_refl _)
  have h60 : 60 ^ nD ≤ 60 ^ 4 := Nat.pow_le_pow_right (by decide) hd4
  have hdg : 0 < cr_dg f nD := Nat.gcd_pos_of_pos_left _ hd2.1
  have hdu : rf_dp f 2 nD / cr_dg f nD ≤ 12960000 := Nat.le_trans (Nat.div_le_self _ _) (by omega)
  have hdv : rf_dp f 1 nD / cr_dg f nD ≤ 12960000 := Nat.le_trans (Nat.div_le_self _ _) (by omega)
  have hdv0 : 0 < rf_dp f 1 nD / cr_dg f nD := Nat.div_pos (Nat.le_of_dvd hd1.1 (Nat.gcd_dvd_right _ _)) hdg
  have hnW8 : nW ≤ 8 * nO := Nat.le_trans hI.row.nW hPU.2.2.2.2.2.2.2.1
  refine lv_aload_n hx hb dL_law_364 rfl (lv_at hl 2 rfl) ?_
  refine fw_calli (fw_runV (As := []) (rest := []) C hz hw (c_X8_scrap l G _ _ x lc lt lo lm lw dr (nI T) ds dfr ad9 nD nT da hX hD1 hD2) (fw_cwV hT wd_200 yVX8_scrap rfl rfl ⟨Nat.le_of_ble_eq_true rfl, Nat.le_of_ble_eq_true rfl⟩) (fw_rec hz hw hX (q := vwCl[9]) rfl) rfl hl.1 rfl (Nat.le_of_ble_eq_true rfl) dL_law_365 ⟨by show c1 + 3 ≤ 875399; omega, by show n1 + 8 ≤ 6469906; omega⟩) hw (fun r F1 H locs hw hp => ?_)
  refine W.widen (k := c1 + 40) (n := n1 + 4000) (by omega) (by omega) ?_
  obtain ⟨hr, b0, z1, z2, y1, y2, y3, y4, hk⟩ := hp
  obtain ⟨c1L, c2, c3⟩ := st_scrap (G := G) hX hC hT1 hTr hO1 hK hI hZ hD htr hPU y1 y2 y3 y4 hk
  have ho1 := c3 _ _ _ ho (by decide)
  have hm1 : mm_W G F1 y ad sc f := hmW.kp c3 (fun t h z => by omega)
  have hm : mm_M G (fun q : Nat => s.heap.size ≤ q) s F1 y ad sc f F1 H locs := ⟨hw, hm1, mm_keep.rf⟩
  refine lv_aload_n hx hb dL_law_368 rfl (lv_at hl 3 rfl) ?_
  refine mm_calli (As := []) (rest := [.int r]) C hz hm (c_X9_scrap l G _ _ y ad _ _ hm1) wd_840 yVX9_scrap ⟨Nat.le_of_ble_eq_true rfl, Nat.le_of_ble_eq_true rfl⟩ rfl hl.1 rfl (Nat.le_of_ble_eq_true rfl) dL_law_369 ⟨by show c1 + 40 + 0 ≤ 875399; omega, by show n1 + 4000 + 0 ≤ 6469906; omega⟩ (fun b9 sc1 f1 F4 H locs hm hP => ?_)
  refine W.widen (k := c1 + 40) (n := n1 + 4000) (Nat.le_refl _) (Nat.le_refl _) ?_
  obtain ⟨hs, hf, hb9⟩ := hP
  rw [hf] at hm
  have hw := hm.1
  obtain ⟨-, hR5⟩ := wr_b (i := i) ho1 hm.2.2 hm.2.1 (show T ≤ 200 * (i + 1) by omega) c1L c2 (by rw [hs]; exact ⟨hMS.1, rfl, hMS.2.2⟩)
  have he : r = b9 := by rw [hr, hb9]; exact hMS.2.1.symm
  refine lv_icmp_eq (tgt := 1334) hx hb dL_law_372 (by decide) (fun cx => ?_) (fun cx => absurd cx (fun h => h he))
  exact K _ _ _ _ hw hR5 (lv_sub hl [0, 1, 2, 3, 4] rfl)
set_option maxHeartbeats 4000000 in
set_option maxRecDepth 100000 in
theorem law_time {p : Program} {l : Launch} {e : Env} {s : State} {m : MethodId} {below : List Frame} {meth : Method} {c : Code} {b L : Nat} {xs : Nat → Int32} {G : fw_G} (E0 : lw_E p l s m meth c b L xs G) {F : fw_F} {x y o i : Nat} {H : Heap} {locs : List Loc} {ls : Array Slot} {c1 n1 : Nat} {Q : State → Prop} (hi4 : 4 * i + 3 < L) (hc1 : c1 + 40 ≤ 875399) (hn1 : n1 + 4000 ≤ 6469906) (hR : lw_R G F x y o i) (hw : fw_S G (fun q : Nat => s.heap.size ≤ q) s F H locs) (hl : lv_has ls 7 [(4, .int (nI (4 * i))), (0, .ref b), (1, .ref x), (2, .ref y), (3, .ref o)])
    (K : ∀ (F : fw_F) (H : Heap) (locs : List Loc) (ls : Array Slot), fw_S G (fun q : Nat => s.heap.size ≤ q) s F H locs → lw_R G F x y o (i + 1) → lv_has ls 7 [(4, .int (nI (4 * i))), (0, .ref b), (1, .ref x), (2, .ref y), (3, .ref o)] → W p l e room_1 s m #[Value.ref b] below meth c H locs (c1 + 40) (n1 + 4000) Q (F0 m 1334 ls [])) : W p l e room_1 s m #[Value.ref b] below meth c H locs (c1) (n1) Q (F0 m 793 ls []) := by
  obtain ⟨hx, hb, hml, hown, hT9, hz, hcx, hnc, hl9, hXs, hbl, hL⟩ := E0
  have hT := hT9
  have C : CallFix p m c code 7 s #[Value.ref b] fw_tb RL := ⟨hx, hb, hml, hown, hT⟩
  have hbA : ¬ (fun q : Nat => s.heap.size ≤ q) b := Nat.not_le.mpr hbl
  obtain ⟨ad, sc, f, g0, nC, nT, nO, nJ, nD, T, hmW, ho, hT200, hCL, hPU, hMS⟩ := hR
  have hCL9 := hCL
  obtain ⟨lc, lt, lo, lm, lw, dr, ds, dfr, ca, ta, sl, fr, oa, tr, ml, ma, ja, da, wj, sa, ms, nW, hX, hC, hT1, hTr, hO1, hK, hI, hZ, hD, htr⟩ := hCL9
  have hC9 := hC
  obtain ⟨hc10, ⟨arc, hLc⟩, hcs⟩ := hC9
  have hT9 := hT1
  obtain ⟨ht8, at9, hLt⟩ := hT9
  have hO9 := hO1
  obtain ⟨ho12, ao9, hLo⟩ := hO9
  have hK9 := hK
  obtain ⟨-, ⟨hnW, ⟨aw9, hLw⟩, -⟩, -, -⟩ := hK9
  have hD9 := hD
  obtain ⟨hd4, hD1, ⟨ad9, hD2⟩, hD3, hD4⟩ := hD9
  have hd2 := rf_dp_ok hPU.2.2.2.2.2.2.2.2 (w := 2) (Or.inr rfl) nD (Nat.le_refl _)
  have hd1 := rf_dp_ok hPU.2.2.2.2.2.2.2.2 (w := 1) (Or.inl rfl) nD (Nat.le_refl _)
  have h60 : 60 ^ nD ≤ 60 ^ 4 := Nat.pow_le_pow_right (by decide) hd4
  have hdg : 0 < cr_dg f nD := Nat.gcd_pos_of_pos_left _ hd2.1
  have hdu : rf_dp f 2 nD / cr_dg f nD ≤ 12960000 := Nat.le_trans (Nat.div_le_self _ _) (by omega)
  have hdv : rf_dp f 1 nD / cr_dg f nD ≤ 12960000 := Nat.le_trans (Nat.div_le_self _ _) (by omega)
  have hdv0 : 0 < rf_dp f 1 nD / cr_dg f nD := Nat.div_pos (Nat.le_of_dvd hd1.1 (Nat.gcd_dvd_right _ _)) hdg
  have hnW8 : nW ≤ 8 * nO := Nat.le_trans hI.row.nW hPU.2.2.2.2.2.2.2.1
  refine lv_aload_n hx hb dL_law_793 rfl (lv_at hl 2 rfl) ?_
  refine fw_calli (fw_runV (As := []) (rest := []) C hz hw (c_X8_time l G _ _ x lc lt lo lm lw dr (nI T) hX) (fw_cwV hT wd_208 yVX8_time rfl rfl ⟨Nat.le_of_ble_eq_true rfl, Nat.le_of_ble_eq_true rfl⟩) (fw_rec hz hw hX (q := vwCl[9]) rfl) rfl hl.1 rfl (Nat.le_of_ble_eq_true rfl) dL_law_794 ⟨by show c1 + 0 ≤ 875399; omega, by show n1 + 0 ≤ 6469906; omega⟩) hw (fun r F1 H locs hw hp => ?_)
  refine W.widen (k := c1 + 40) (n := n1 + 4000) (by omega) (by omega) ?_
  obtain ⟨hF1, hr⟩ := hp
  rw [hF1] at hw
  have c1L := hCL
  have c2 := hPU
  have c3 : fw_kp F F (fun t => t.1 < 60) := fw_kp.rf
  have ho1 := c3 _ _ _ ho (by decide)
  have hm1 : mm_W G F y ad sc f := hmW.kp c3 (fun t h z => by omega)
  have hm : mm_M G (fun q : Nat => s.heap.size ≤ q) s F y ad sc f F H locs := ⟨hw, hm1, mm_keep.rf⟩
  refine lv_aload_n hx hb dL_law_797 rfl (lv_at hl 3 rfl) ?_
  refine mm_calli (As := []) (rest := [.int r]) C hz hm (c_X9_time l G _ _ y ad _ _ hm1) wd_909 yVX9_time ⟨Nat.le_of_ble_eq_true rfl, Nat.le_of_ble_eq_true rfl⟩ rfl hl.1 rfl (Nat.le_of_ble_eq_true rfl) dL_law_798 ⟨by show c1 + 40 + 0 ≤ 875399; omega, by show n1 + 4000 + 0 ≤ 6469906; omega⟩ (fun b9 sc1 f1 F4 H locs hm hP => ?_)
  refine W.widen (k := c1 + 40) (n := n1 + 4000) (Nat.le_refl _) (Nat.le_refl _) ?_
  obtain ⟨hs, hf, hb9⟩ := hP
  rw [hf] at hm
  have hw := hm.1
  obtain ⟨-, hR5⟩ := wr_b (i := i) ho1 hm.2.2 hm.2.1 (show T ≤ 200 * (i + 1) by omega) c1L c2 (by rw [hs]; exact hMS)
  have he : r = b9 := by rw [hr, hb9]; exact hMS.2.2.2.2.2.symm
  refine lv_icmp_eq (tgt := 1334) hx hb dL_law_801 (by decide) (fun cx => ?_) (fun cx => absurd cx (fun h => h he))
  exact K _ _ _ _ hw hR5 (lv_sub hl [0, 1, 2, 3, 4] rfl)
set_option maxHeartbeats 4000000 in
set_option maxRecDepth 100000 in
theorem law_waiting {p : Program} {l : Launch} {e : Env} {s : State} {m : MethodId} {below : List Frame} {meth : Method} {c : Code} {b L : Nat} {xs : Nat → Int32} {G : fw_G} (E0 : lw_E p l s m meth c b L xs G) {F : fw_F} {x y o i : Nat} {H : Heap} {locs : List Loc} {ls : Array Slot} {c1 n1 : Nat} {Q : State → Prop} (hi4 : 4 * i + 3 < L) (hc1 : c1 + 40 ≤ 875399) (hn1 : n1 + 4000 ≤ 6469906) (hR : lw_R G F x y o i) (hw : fw_S G (fun q : Nat => s.heap.size ≤ q) s F H locs) (hl : lv_has ls 7 [(4, .int (nI (4 * i))), (0, .ref b), (1, .ref x), (2, .ref y), (3, .ref o)])
    (K : ∀ (F : fw_F) (H : Heap) (locs : List Loc) (ls : Array Slot), fw_S G (fun q : Nat => s.heap.size ≤ q) s F H locs → lw_R G F x y o (i + 1) → lv_has ls 7 [(4, .int (nI (4 * i))), (0, .ref b), (1, .ref x), (2, .ref y), (3, .ref o)] → W p l e room_1 s m #[Value.ref b] below meth c H locs (c1 + 40) (n1 + 4000) Q (F0 m 1334 ls [])) : W p l e room_1 s m #[Value.ref b] below meth c H locs (c1) (n1) Q (F0 m 806 ls []) := by
  obtain ⟨hx, hb, hml, hown, hT9, hz, hcx, hnc, hl9, hXs, hbl, hL⟩ := E0
  have hT := hT9
  have C : CallFix p m c code 7 s #[Value.ref b] fw_tb RL := ⟨hx, hb, hml, hown, hT⟩
  have hbA : ¬ (fun q : Nat => s.heap.size ≤ q) b := Nat.not_le.mpr hbl
  obtain ⟨ad, sc, f, g0, nC, nT, nO, nJ, nD, T, hmW, ho, hT200, hCL, hPU, hMS⟩ := hR
  have hCL9 := hCL
  obtain ⟨lc, lt, lo, lm, lw, dr, ds, dfr, ca, ta, sl, fr, oa, tr, ml, ma, ja, da, wj, sa, ms, nW, hX, hC, hT1, hTr, hO1, hK, hI, hZ, hD, htr⟩ := hCL9
  have hC9 := hC
  obtain ⟨hc10, ⟨arc, hLc⟩, hcs⟩ := hC9
  have hT9 := hT1
  obtain ⟨ht8, at9, hLt⟩ := hT9
  have hO9 := hO1
  obtain ⟨ho12, ao9, hLo⟩ := hO9
  have hK9 := hK
  obtain ⟨-, ⟨hnW, ⟨aw9, hLw⟩, -⟩, -, -⟩ := hK9
  have hD9 := hD
  obtain ⟨hd4, hD1, ⟨ad9, hD2⟩, hD3, hD4⟩ := hD9
  have hd2 := rf_dp_ok hPU.2.2.2.2.2.2.2.2 (w := 2) (Or.inr rfl) nD (Nat.le_refl _)
  have hd1 := rf_dp_ok hPU.2.2.2.2.2.2.2.2 (w := 1) (Or.inl rfl) nD (Nat.le_refl _)
  have h60 : 60 ^ nD ≤ 60 ^ 4 := Nat.pow_le_pow_right (by decide) hd4
  have hdg : 0 < cr_dg f nD := Nat.gcd_pos_of_pos_left _ hd2.1
  have hdu : rf_dp f 2 nD / cr_dg f nD ≤ 12960000 := Nat.le_trans (Nat.div_le_self _ _) (by omega)
  have hdv : rf_dp f 1 nD / cr_dg f nD ≤ 12960000 := Nat.le_trans (Nat.div_le_self _ _) (by omega)
  have hdv0 : 0 < rf_dp f 1 nD / cr_dg f nD := Nat.div_pos (Nat.le_of_dvd hd1.1 (Nat.gcd_dvd_right _ _)) hdg
  have hnW8 : nW ≤ 8 * nO := Nat.le_trans hI.row.nW hPU.2.2.2.2.2.2.2.1
  refine lv_aload_n hx hb dL_law_806 rfl (lv_at hl 2 rfl) ?_
  refine fw_calli (fw_runV (As := []) (rest := []) C hz hw (c_X8_waiting l G _ _ x lc lt lo lm lw dr (nI T) aw9 nW (fun k => ja (wj k)) hX hLw) (fw_cwV hT wd_212 yVX8_waiting rfl rfl ⟨Nat.le_of_ble_eq_true rfl, Nat.le_of_ble_eq_true rfl⟩) (fw_rec hz hw hX (q := vwCl[9]) rfl) rfl hl.1 rfl (Nat.le_of_ble_eq_true rfl) dL_law_807 ⟨by show c1 + 0 ≤ 875399; omega, by show n1 + 0 ≤ 6469906; omega⟩) hw (fun r F1 H locs hw hp => ?_)
  refine W.widen (k := c1 + 40) (n := n1 + 4000) (by omega) (by omega) ?_
  obtain ⟨hF1, hr⟩ := hp
  rw [hF1] at hw
  have c1L := hCL
  have c2 := hPU
  have c3 : fw_kp F F (fun t => t.1 < 60) := fw_kp.rf
  have ho1 := c3 _ _ _ ho (by decide)
  have hm1 : mm_W G F y ad sc f := hmW.kp c3 (fun t h z => by omega)
  have hm : mm_M G (fun q : Nat => s.heap.size ≤ q) s F y ad sc f F H locs := ⟨hw, hm1, mm_keep.rf⟩
  refine lv_aload_n hx hb dL_law_810 rfl (lv_at hl 3 rfl) ?_
  refine mm_calli (As := []) (rest := [.int r]) C hz hm (c_X9_waiting l G _ _ y ad _ _ nJ hm1 hMS.2.2.2.2.1 hI.j96) wd_913 yVX9_waiting ⟨Nat.le_of_ble_eq_true rfl, Nat.le_of_ble_eq_true rfl⟩ rfl hl.1 rfl (Nat.le_of_ble_eq_true rfl) dL_law_811 ⟨by show c1 + 40 + 0 ≤ 875399; omega, by show n1 + 4000 + 0 ≤ 6469906; omega⟩ (fun b9 sc1 f1 F4 H locs hm hP => ?_)
  refine W.widen (k := c1 + 40) (n := n1 + 4000) (Nat.le_refl _) (Nat.le_refl _) ?_
  obtain ⟨hs, hf, hb9⟩ := hP
  rw [hf] at hm
  have hw := hm.1
  obtain ⟨-, hR5⟩ := wr_b (i := i) ho1 hm.2.2 hm.2.1 (show T ≤ 200 * (i + 1) by omega) c1L c2 (by rw [hs]; exact hMS)
  have he : r = b9 := by rw [hr, hb9, rf_wait_R nJ nW hI.row]
  refine lv_icmp_eq (tgt := 1334) hx hb dL_law_814 (by decide) (fun cx => ?_) (fun cx => absurd cx (fun h => h he))
  exact K _ _ _ _ hw hR5 (lv_sub hl [0, 1, 2, 3, 4] rfl)
