/-! The law's cases: each call, and what it is held against. -/
set_option maxHeartbeats 4000000 in
set_option maxRecDepth 100000 in
theorem law_addCutter {p : Program} {l : Launch} {e : Env} {s : State} {m : MethodId} {below : List Frame} {meth : Method} {c : Code} {b L : Nat} {xs : Nat → Int32} {G : fw_G} (E0 : lw_E p l s m meth c b L xs G) {F : fw_F} {x y o i : Nat} {H : Heap} {locs : List Loc} {ls : Array Slot} {c1 n1 : Nat} {Q : State → Prop} (hi4 : 4 * i + 3 < L) (hc1 : c1 + 40 ≤ 875399) (hn1 : n1 + 4000 ≤ 6469906) (hR : lw_R G F x y o i) (hw : fw_S G (fun q : Nat => s.heap.size ≤ q) s F H locs) (hl : lv_has ls 7 [(4, .int (nI (4 * i))), (0, .ref b), (1, .ref x), (2, .ref y), (3, .ref o)])
    (K : ∀ (F : fw_F) (H : Heap) (locs : List Loc) (ls : Array Slot), fw_S G (fun q : Nat => s.heap.size ≤ q) s F H locs → lw_R G F x y o (i + 1) → lv_has ls 7 [(4, .int (nI (4 * i))), (0, .ref b), (1, .ref x), (2, .ref y), (3, .ref o)] → W p l e room_1 s m #[Value.ref b] below meth c H locs (c1 + 40) (n1 + 4000) Q (F0 m 1334 ls [])) : W p l e room_1 s m #[Value.ref b] below meth c H locs (c1) (n1) Q (F0 m 136 ls []) := by
  obtain ⟨hx, hb, hml, hown, hT9, hz, hcx, hnc, hl9, hXs, hbl, hL⟩ := E0
  have hT := hT9
  have C : CallFix p m c code 7 s #[Value.ref b] fw_tb RL := ⟨hx, hb, hml, hown, hT⟩
  have hbA : ¬ (fun q : Nat => s.heap.size ≤ q) b := Nat.not_le.mpr hbl
  obtain ⟨ad, sc, f, g0, nC, nT, nO, nJ, nD, T, hmW, ho, hT200, hCL, hPU, hMS⟩ := hR
  have hCL9 := hCL
  obtain ⟨lc, lt, lo, lm, lw, dr, ds, dfr, ca, ta, sl, fr, oa, tr, ml, ma, ja, da, wj, sa, ms, nW, hX, hC, hT1, hTr, hO1, hK, hI, hZ, hD, htr⟩ := hCL9
  have hC9 := hC
  obtain ⟨hc10, ⟨arc, hLc⟩, hcs⟩ := hC9
  have hT9 := hT1
  obtain ⟨ht8, at9, hLt⟩ := hT9
  have hO9 := hO1
  obtain ⟨ho12, ao9, hLo⟩ := hO9
  have hK9 := hK
  obtain ⟨-, ⟨hnW, ⟨aw9, hLw⟩, -⟩, -, -⟩ := hK9
  have hD9 := hD
  obtain ⟨hd4, hD1, ⟨ad9, hD2⟩, hD3, hD4⟩ := hD9
  have hd2 := rf_dp_ok hPU.2.2.2.2.2.2.2.2 (w := 2) (Or.inr rfl) nD (Nat.le_refl _)
  have hd1 := rf_dp_ok hPU.2.2.2.2.2.2.2.2 (w := 1) (Or.inl rfl) nD (Nat.le_refl _)
  have h60 : 60 ^ nD ≤ 60 ^ 4 := Nat.pow_le_pow_right (by decide) hd4
  have hdg : 0 < cr_dg f nD := Nat.gcd_pos_of_pos_left _ hd2.1
  have hdu : rf_dp f 2 nD / cr_dg f nD ≤ 12960000 := Nat.le_trans (Nat.div_le_self _ _) (by omega)
  have hdv : rf_dp f 1 nD / cr_dg f nD ≤ 12960000 := Nat.le_trans (Nat.div_le_self _ _) (by omega)
  have hdv0 : 0 < rf_dp f 1 nD / cr_dg f nD := Nat.div_pos (Nat.le_of_dvd hd1.1 (Nat.gcd_dvd_right _ _)) hdg
  have hnW8 : nW ≤ 8 * nO := Nat.le_trans hI.row.nW hPU.2.2.2.2.2.2.2.1
  refine lv_aload_n hx hb dL_law_136 rfl (lv_at hl 2 rfl) ?_
  refine lv_aload_n hx hb dL_law_137 rfl (lv_at hl 1 rfl) ?_
  refine lv_iload hx hb dL_law_138 (lv_at hl 0 rfl) ?_
  refine lv_iconst (v := (nI 1)) hx hb dL_law_140 (by decide) ?_
  refine lv_iadd hx hb dL_law_141 ?_
  refine fw_top (nI_add _ _) ?_
  refine va_sld hx hb hXs hbl hbA hw.2.1 (vp_in_nI (show (4 * i) + 1 < L by omega) (by omega)) dL_law_142 ?_
  rw [nI_clamp (show (4 * i) + 1 < 2 ^ 31 by omega)]
  refine lv_aload_n hx hb dL_law_143 rfl (lv_at hl 1 rfl) ?_
  refine lv_iload hx hb dL_law_144 (lv_at hl 0 rfl) ?_
  refine lv_iconst (v := (nI 2)) hx hb dL_law_146 (by decide) ?_
  refine lv_iadd hx hb dL_law_147 ?_
  refine fw_top (nI_add _ _) ?_
  refine va_sld hx hb hXs hbl hbA hw.2.1 (vp_in_nI (show (4 * i) + 2 < L by omega) (by omega)) dL_law_148 ?_
  rw [nI_clamp (show (4 * i) + 2 < 2 ^ 31 by omega)]
  refine lv_aload_n hx hb dL_law_149 rfl (lv_at hl 1 rfl) ?_
  refine lv_iload hx hb dL_law_150 (lv_at hl 0 rfl) ?_
  refine lv_iconst (v := (nI 3)) hx hb dL_law_152 (by decide) ?_
  refine lv_iadd hx hb dL_law_153 ?_
  refine fw_top (nI_add _ _) ?_
  refine va_sld hx hb hXs hbl hbA hw.2.1 (vp_in_nI (show (4 * i) + 3 < L by omega) (by omega)) dL_law_154 ?_
  rw [nI_clamp (show (4 * i) + 3 < 2 ^ 31 by omega)]
  refine lv_aload_n hx hb dL_law_155 rfl (lv_at hl 4 rfl) ?_
  refine fw_calli (fw_runSW (As := [.ref x, .int (xs ((4 * i) + 1)), .int (xs ((4 * i) + 2)), .int (xs ((4 * i) + 3)), .ref o]) (rest := []) C hz hcx hnc hw (c_L_addCutter l G _ _ x o _ _ g0 (xs ((4 * i) + 1)) (xs ((4 * i) + 2)) (xs ((4 * i) + 3)) _ _ hX ho (fun z => c_X8_addCutter l G F z x lc lt lo lm lw dr (nI T) ca f nC arc (xs ((4 * i) + 1)) (xs ((4 * i) + 2)) (xs ((4 * i) + 3)) hl9 hX hLc hc10) (fun E h => h.elim (fun h => Or.inl h.1) (fun h => Or.inr h.1)) (fun v F2 h => by
    obtain ⟨-, -, -, b, q, hb, hF2⟩ := h
    rw [hF2]; exact fw_up_tag (fw_up_new ho hb) (fw_up_new hLc hb) (by intro z; cases z))) (fw_cwSW (n := 5) hT wd_216 wd_217 wd_0 wd_218 (by decide +kernel) rfl rfl ⟨Nat.le_of_ble_eq_true rfl, Nat.le_of_ble_eq_true rfl⟩) rfl hl.1 rfl (Nat.le_of_ble_eq_true rfl) dL_law_156 ⟨by show c1 + 2 ≤ 875399; omega, by show n1 + 244 ≤ 6469906; omega⟩) hw (fun r F1 H locs hw hp => ?_)
  refine W.widen (k := c1 + 40) (n := n1 + 4000) (by omega) (by omega) ?_
  have hkF : fw_kp F F1 (fun t => t.1 ≤ 60) := by
    rcases hp with ⟨-, v, F2, h, hF1⟩ | ⟨hF1, -⟩
    · rw [hF1]
      have h60 : fw_kp F F2 (fun t => t.1 < 60) := (by
        obtain ⟨-, -, -, b, q, hb, hF2⟩ := h
        rw [hF2]; exact (fw_kp.rf.new hb).up (fw_up_new hLc hb) (by decide))
      exact wr_k1 h60 (h60 _ _ _ ho (by decide))
    · rw [hF1]; exact fw_kp.rf
  have hm1 : mm_W G F1 y ad sc f := hmW.kp hkF (fun t h z => by omega)
  have hm : mm_M G (fun q : Nat => s.heap.size ≤ q) s F1 y ad sc f F1 H locs := ⟨hw, hm1, mm_keep.rf⟩
  refine lv_istore (lv' := [(5, .int r), (4, .int (nI (4 * i))), (0, .ref b), (1, .ref x), (2, .ref y), (3, .ref o)]) hx hb dL_law_159 hl (by decide) rfl (fun ls hl => ?_)
  refine lv_aload_n hx hb dL_law_161 rfl (lv_at hl 4 rfl) ?_
  refine lv_aload_n hx hb dL_law_162 rfl (lv_at hl 2 rfl) ?_
  refine lv_iload hx hb dL_law_163 (lv_at hl 1 rfl) ?_
  refine lv_iconst (v := (nI 1)) hx hb dL_law_165 (by decide) ?_
  refine lv_iadd hx hb dL_law_166 ?_
  refine fw_top (nI_add _ _) ?_
  refine va_sld hx hb hXs hbl hbA hw.2.1 (vp_in_nI (show (4 * i) + 1 < L by omega) (by omega)) dL_law_167 ?_
  rw [nI_clamp (show (4 * i) + 1 < 2 ^ 31 by omega)]
  refine lv_aload_n hx hb dL_law_168 rfl (lv_at hl 2 rfl) ?_
  refine lv_iload hx hb dL_law_169 (lv_at hl 1 rfl) ?_
  refine lv_iconst (v := (nI 2)) hx hb dL_law_171 (by decide) ?_
  refine lv_iadd hx hb dL_law_172 ?_
  refine fw_top (nI_add _ _) ?_
  refine va_sld hx hb hXs hbl hbA hw.2.1 (vp_in_nI (show (4 * i) + 2 < L by omega) (by omega)) dL_law_173 ?_
  rw [nI_clamp (show (4 * i) + 2 < 2 ^ 31 by omega)]
  refine lv_aload_n hx hb dL_law_174 rfl (lv_at hl 2 rfl) ?_
  refine lv_iload hx hb dL_law_175 (lv_at hl 1 rfl) ?_
  refine lv_iconst (v := (nI 3)) hx hb dL_law_177 (by decide) ?_
  refine lv_iadd hx hb dL_law_178 ?_
  refine fw_top (nI_add _ _) ?_
  refine va_sld hx hb hXs hbl hbA hw.2.1 (vp_in_nI (show (4 * i) + 3 < L by omega) (by omega)) dL_law_179 ?_
  rw [nI_clamp (show (4 * i) + 3 < 2 ^ 31 by omega)]
  refine mm_calli (As := [.int (xs ((4 * i) + 1)), .int (xs ((4 * i) + 2)), .int (xs ((4 * i) + 3))]) (rest := []) C hz hm (c_X9_addCutter l G _ _ y ad _ _ nC (xs ((4 * i) + 1)) (xs ((4 * i) + 2)) (xs ((4 * i) + 3)) hm1 hMS.1 hc10) wd_817 yVX9_addCutter ⟨Nat.le_of_ble_eq_true rfl, Nat.le_of_ble_eq_true rfl⟩ rfl hl.1 rfl (Nat.le_of_ble_eq_true rfl) dL_law_180 ⟨by show c1 + 40 + 0 ≤ 875399; omega, by show n1 + 4000 + 0 ≤ 6469906; omega⟩ (fun b9 sc1 f1 F4 H locs hm hP => ?_)
  refine W.widen (k := c1 + 40) (n := n1 + 4000) (Nat.le_refl _) (Nat.le_refl _) ?_
  refine lv_istore (lv' := [(6, .int b9), (5, .int r), (4, .int (nI (4 * i))), (0, .ref b), (1, .ref x), (2, .ref y), (3, .ref o)]) hx hb dL_law_183 hl (by decide) rfl (fun ls hl => ?_)
  refine lv_aload_n hx hb dL_law_185 rfl (lv_at hl 5 rfl) ?_
  refine mm_calli (As := []) (rest := []) C hz hm (c_X9_thrown l G _ _ y ad _ _ hm.2.1) wd_813 yVX9_thrown ⟨Nat.le_of_ble_eq_true rfl, Nat.le_of_ble_eq_true rfl⟩ rfl hl.1 rfl (Nat.le_of_ble_eq_true rfl) dL_law_186 ⟨by show c1 + 40 + 0 ≤ 875399; omega, by show n1 + 4000 + 0 ≤ 6469906; omega⟩ (fun t9 sc2 f2 F5 H locs hm ht => ?_)
  refine W.widen (k := c1 + 40) (n := n1 + 4000) (Nat.le_refl _) (Nat.le_refl _) ?_
  obtain ⟨hsc, hff, ht⟩ := ht
  rw [hsc, hff] at hm
  have hw := hm.1
  have hag : sc1 0 = r ∧ ∃ gv, F5 o = some ((60, 0, 0), fw_la (fw_cJ G) 1 gv) ∧ (r = nI 0 → gv 0 = b9.toInt64) ∧ lw_R G F5 x y o (i + 1) := by
    rcases hp with ⟨hr, v, F2, h, hF1⟩ | ⟨hF1, hp⟩
    · have h60 : fw_kp F F2 (fun t => t.1 < 60) := (by
        obtain ⟨-, -, -, b, q, hb, hF2⟩ := h
        rw [hF2]; exact (fw_kp.rf.new hb).up (fw_up_new hLc hb) (by decide))
      have hoF2 := h60 _ _ _ ho (by decide)
      obtain ⟨hok, hn, rfl, b, q, hb, hF2⟩ := h
      obtain ⟨hf, hs, hv⟩ := hP.2.2 hok hn
      obtain ⟨c1, c2, -⟩ := st_addCutter hX hC hT1 hTr hO1 hK hI hZ hD htr hPU hn hb hF2 hf
      have e0 : sc1 0 = nI 0 := by rw [hs]; rfl
      obtain ⟨gv, q1, q2, q3⟩ := wr_a (w := b9.toInt64) hoF2 hF1 hm.2.2 hm.2.1 (by rw [hv]) (show T ≤ 200 * (i + 1) by omega) c1 c2 (by rw [hs]; exact ⟨rfl, hMS.2⟩)
      exact ⟨e0.trans hr.symm, gv, q1, fun _ => q2, q3⟩
    · rw [hF1] at hm
      rcases hp with ⟨hE, hr⟩ | ⟨hE, hr⟩
      · rcases hE with ⟨q9, hE⟩ | ⟨q9, hE⟩
        · obtain ⟨hf, hs⟩ := hP.1 hE
          have e0 : sc1 0 = nI 1 := by rw [hs]; rfl
          rw [hf] at hm
          obtain ⟨q1, q3⟩ := wr_b (i := i) ho hm.2.2 hm.2.1 (show T ≤ 200 * (i + 1) by omega) hCL hPU (by rw [hs]; exact hMS)
          exact ⟨e0.trans hr.symm, g0, q1, fun z => absurd (hr.symm.trans z) (by decide), q3⟩
        · exact absurd q9 (by decide)
      · rcases hE with ⟨q9, hE⟩ | ⟨q9, hE⟩
        · exact absurd q9 (by decide)
        · obtain ⟨hf, hs⟩ := hP.2.1 hE.1 hE.2
          have e0 : sc1 0 = nI 2 := by rw [hs]; rfl
          rw [hf] at hm
          obtain ⟨q1, q3⟩ := wr_b (i := i) ho hm.2.2 hm.2.1 (show T ≤ 200 * (i + 1) by omega) hCL hPU (by rw [hs]; exact hMS)
          exact ⟨e0.trans hr.symm, g0, q1, fun z => absurd (hr.symm.trans z) (by decide), q3⟩
  obtain ⟨hth, gv, hgo, hgv, hR5⟩ := hag
  rw [hth] at ht
  refine lv_iload hx hb dL_law_189 (lv_at hl 1 rfl) ?_
  refine lv_icmp_eq (tgt := 196) hx hb dL_law_191 (by decide) (fun cx => ?_) (fun cx => absurd cx (fun h => h ht))
  refine lv_iload hx hb dL_law_196 (lv_at hl 1 rfl) ?_
  refine lv_if_ne (tgt := 213) hx hb dL_law_198 (by decide) (fun d9 => ?_) (fun d9 => ?_)
  · refine lv_goto (tgt := 1334) hx hb dL_law_213 (by decide) ?_
    exact K _ _ _ _ hw hR5 (lv_sub hl [2, 3, 4, 5, 6] rfl)
  · have d9 : r = 0 := d9
    have hgv := hgv d9
    refine lv_aload_n hx hb dL_law_201 rfl (lv_at hl 6 rfl) ?_
    refine lv_iconst (v := (nI 0)) hx hb dL_law_202 (by decide) ?_
    refine fw_lald hx hb hz hw hgo (vp_in_nI (show 0 < 1 by decide) (by decide)) dL_law_203 ?_
    rw [show (nI 0).toNatClampNeg = 0 from nI_clamp (by decide), hgv]
    refine lv_iload hx hb dL_law_204 (lv_at hl 0 rfl) ?_
    refine lv_i2l (v := b9.toInt64) hx hb dL_law_206 rfl ?_
    refine W.lcmp hx hb dL_law_207 ?_
    rw [lg_cmp_self]
    refine lv_if_eq (tgt := 213) hx hb dL_law_208 (by decide) (fun cx => ?_) (fun cx => absurd cx (fun h => h rfl))
    refine lv_goto (tgt := 1334) hx hb dL_law_213 (by decide) ?_
    exact K _ _ _ _ hw hR5 (lv_sub hl [2, 3, 4, 5, 6] rfl)
set_option maxHeartbeats 4000000 in
set_option maxRecDepth 100000 in
theorem law_cutterFor {p : Program} {l : Launch} {e : Env} {s : State} {m : MethodId} {below : List Frame} {meth : Method} {c : Code} {b L : Nat} {xs : Nat → Int32} {G : fw_G} (E0 : lw_E p l s m meth c b L xs G) {F : fw_F} {x y o i : Nat} {H : Heap} {locs : List Loc} {ls : Array Slot} {c1 n1 : Nat} {Q : State → Prop} (hi4 : 4 * i + 3 < L) (hc1 : c1 + 40 ≤ 875399) (hn1 : n1 + 4000 ≤ 6469906) (hR : lw_R G F x y o i) (hw : fw_S G (fun q : Nat => s.heap.size ≤ q) s F H locs) (hl : lv_has ls 7 [(4, .int (nI (4 * i))), (0, .ref b), (1, .ref x), (2, .ref y), (3, .ref o)])
    (K : ∀ (F : fw_F) (H : Heap) (locs : List Loc) (ls : Array Slot), fw_S G (fun q : Nat => s.heap.size ≤ q) s F H locs → lw_R G F x y o (i + 1) → lv_has ls 7 [(4, .int (nI (4 * i))), (0, .ref b), (1, .ref x), (2, .ref y), (3, .ref o)] → W p l e room_1 s m #[Value.ref b] below meth c H locs (c1 + 40) (n1 + 4000) Q (F0 m 1334 ls [])) : W p l e room_1 s m #[Value.ref b] below meth c H locs (c1) (n1) Q (F0 m 216 ls []) := by
  obtain ⟨hx, hb, hml, hown, hT9, hz, hcx, hnc, hl9, hXs, hbl, hL⟩ := E0
  have hT := hT9
  have C : CallFix p m c code 7 s #[Value.ref b] fw_tb RL := ⟨hx, hb, hml, hown, hT⟩
  have hbA : ¬ (fun q : Nat => s.heap.size ≤ q) b := Nat.not_le.mpr hbl
  obtain ⟨ad, sc, f, g0, nC, nT, nO, nJ, nD, T, hmW, ho, hT200, hCL, hPU, hMS⟩ := hR
  have hCL9 := hCL
  obtain ⟨lc, lt, lo, lm, lw, dr, ds, dfr, ca, ta, sl, fr, oa, tr, ml, ma, ja, da, wj, sa, ms, nW, hX, hC, hT1, hTr, hO1, hK, hI, hZ, hD, htr⟩ := hCL9
  have hC9 := hC
  obtain ⟨hc10, ⟨arc, hLc⟩, hcs⟩ := hC9
  have hT9 := hT1
  obtain ⟨ht8, at9, hLt⟩ := hT9
  have hO9 := hO1
  obtain ⟨ho12, ao9, hLo⟩ := hO9
  have hK9 := hK
  obtain ⟨-, ⟨hnW, ⟨aw9, hLw⟩, -⟩, -, -⟩ := hK9
  have hD9 := hD
  obtain ⟨hd4, hD1, ⟨ad9, hD2⟩, hD3, hD4⟩ := hD9
  have hd2 := rf_dp_ok hPU.2.2.2.2.2.2.2.2 (w := 2) (Or.inr rfl) nD (Nat.le_refl _)
  have hd1 := rf_dp_ok hPU.2.2.2.2.2.2.2.2 (w := 1) (Or.inl rfl) nD (Nat.le_refl _)
  have h60 : 60 ^ nD ≤ 60 ^ 4 := Nat.pow_le_pow_right (by decide) hd4
  have hdg : 0 < cr_dg f nD := Nat.gcd_pos_of_pos_left _ hd2.1
  have hdu : rf_dp f 2 nD / cr_dg f nD ≤ 12960000 := Nat.le_trans (Nat.div_le_self _ _) (by omega)
  have hdv : rf_dp f 1 nD / cr_dg f nD ≤ 12960000 := Nat.le_trans (Nat.div_le_self _ _) (by omega)
  have hdv0 : 0 < rf_dp f 1 nD / cr_dg f nD := Nat.div_pos (Nat.le_of_dvd hd1.1 (Nat.gcd_dvd_right _ _)) hdg
  have hnW8 : nW ≤ 8 * nO := Nat.le_trans hI.row.nW hPU.2.2.2.2.2.2.2.1
  refine lv_aload_n hx hb dL_law_216 rfl (lv_at hl 2 rfl) ?_
  refine lv_aload_n hx hb dL_law_217 rfl (lv_at hl 1 rfl) ?_
  refine lv_iload hx hb dL_law_218 (lv_at hl 0 rfl) ?_
  refine lv_iconst (v := (nI 1)) hx hb dL_law_220 (by decide) ?_
  refine lv_iadd hx hb dL_law_221 ?_
  refine fw_top (nI_add _ _) ?_
  refine va_sld hx hb hXs hbl hbA hw.2.1 (vp_in_nI (show (4 * i) + 1 < L by omega) (by omega)) dL_law_222 ?_
  rw [nI_clamp (show (4 * i) + 1 < 2 ^ 31 by omega)]
  refine lv_aload_n hx hb dL_law_223 rfl (lv_at hl 1 rfl) ?_
  refine lv_iload hx hb dL_law_224 (lv_at hl 0 rfl) ?_
  refine lv_iconst (v := (nI 2)) hx hb dL_law_226 (by decide) ?_
  refine lv_iadd hx hb dL_law_227 ?_
  refine fw_top (nI_add _ _) ?_
  refine va_sld hx hb hXs hbl hbA hw.2.1 (vp_in_nI (show (4 * i) + 2 < L by omega) (by omega)) dL_law_228 ?_
  rw [nI_clamp (show (4 * i) + 2 < 2 ^ 31 by omega)]
  refine lv_aload_n hx hb dL_law_229 rfl (lv_at hl 4 rfl) ?_
  refine fw_calli (fw_runSW (As := [.ref x, .int (xs ((4 * i) + 1)), .int (xs ((4 * i) + 2)), .ref o]) (rest := []) C hz hcx hnc hw (c_L_cutterFor l G _ _ x o _ _ g0 (xs ((4 * i) + 1)) (xs ((4 * i) + 2)) _ _ hX ho (fun z => c_X8_cutterFor l G F z x lc lt lo lm lw dr (nI T) ca f nC (xs ((4 * i) + 1)) (xs ((4 * i) + 2)) hl9 hX hC) (fun E h => h.1) (fun v F2 h => (show fw_kp F F2 (fun t => t.1 < 60) from wr_si h.1) _ _ _ ho (by decide))) (fw_cwSW (n := 4) hT wd_334 wd_335 wd_0 wd_336 (by decide +kernel) rfl rfl ⟨Nat.le_of_ble_eq_true rfl, Nat.le_of_ble_eq_true rfl⟩) rfl hl.1 rfl (Nat.le_of_ble_eq_true rfl) dL_law_230 ⟨by show c1 + 1 ≤ 875399; omega, by show n1 + 6 ≤ 6469906; omega⟩) hw (fun r F1 H locs hw hp => ?_)
  refine W.widen (k := c1 + 40) (n := n1 + 4000) (by omega) (by omega) ?_
  have hkF : fw_kp F F1 (fun t => t.1 ≤ 60) := by
    rcases hp with ⟨-, v, F2, h, hF1⟩ | ⟨hF1, -⟩
    · rw [hF1]
      have h60 : fw_kp F F2 (fun t => t.1 < 60) := wr_si h.1
      exact wr_k1 h60 (h60 _ _ _ ho (by decide))
    · rw [hF1]; exact fw_kp.rf
  have hm1 : mm_W G F1 y ad sc f := hmW.kp hkF (fun t h z => by omega)
  have hm : mm_M G (fun q : Nat => s.heap.size ≤ q) s F1 y ad sc f F1 H locs := ⟨hw, hm1, mm_keep.rf⟩
  refine lv_istore (lv' := [(5, .int r), (4, .int (nI (4 * i))), (0, .ref b), (1, .ref x), (2, .ref y), (3, .ref o)]) hx hb dL_law_233 hl (by decide) rfl (fun ls hl => ?_)
  refine lv_aload_n hx hb dL_law_235 rfl (lv_at hl 4 rfl) ?_
  refine lv_aload_n hx hb dL_law_236 rfl (lv_at hl 2 rfl) ?_
  refine lv_iload hx hb dL_law_237 (lv_at hl 1 rfl) ?_
  refine lv_iconst (v := (nI 1)) hx hb dL_law_239 (by decide) ?_
  refine lv_iadd hx hb dL_law_240 ?_
  refine fw_top (nI_add _ _) ?_
  refine va_sld hx hb hXs hbl hbA hw.2.1 (vp_in_nI (show (4 * i) + 1 < L by omega) (by omega)) dL_law_241 ?_
  rw [nI_clamp (show (4 * i) + 1 < 2 ^ 31 by omega)]
  refine lv_aload_n hx hb dL_law_242 rfl (lv_at hl 2 rfl) ?_
  refine lv_iload hx hb dL_law_243 (lv_at hl 1 rfl) ?_
  refine lv_iconst (v := (nI 2)) hx hb dL_law_245 (by decide) ?_
  refine lv_iadd hx hb dL_law_246 ?_
  refine fw_top (nI_add _ _) ?_
  refine va_sld hx hb hXs hbl hbA hw.2.1 (vp_in_nI (show (4 * i) + 2 < L by omega) (by omega)) dL_law_247 ?_
  rw [nI_clamp (show (4 * i) + 2 < 2 ^ 31 by omega)]
  refine mm_calli (As := [.int (xs ((4 * i) + 1)), .int (xs ((4 * i) + 2))]) (rest := []) C hz hm (c_X9_cutterFor l G _ _ y ad _ _ nC (xs ((4 * i) + 1)) (xs ((4 * i) + 2)) hm1 hMS.1 hc10) wd_824 yVX9_cutterFor ⟨Nat.le_of_ble_eq_true rfl, Nat.le_of_ble_eq_true rfl⟩ rfl hl.1 rfl (Nat.le_of_ble_eq_true rfl) dL_law_248 ⟨by show c1 + 40 + 0 ≤ 875399; omega, by show n1 + 4000 + 0 ≤ 6469906; omega⟩ (fun b9 sc1 f1 F4 H locs hm hP => ?_)
  refine W.widen (k := c1 + 40) (n := n1 + 4000) (Nat.le_refl _) (Nat.le_refl _) ?_
  refine lv_istore (lv' := [(6, .int b9), (5, .int r), (4, .int (nI (4 * i))), (0, .ref b), (1, .ref x), (2, .ref y), (3, .ref o)]) hx hb dL_law_251 hl (by decide) rfl (fun ls hl => ?_)
  refine lv_aload_n hx hb dL_law_253 rfl (lv_at hl 5 rfl) ?_
  refine mm_calli (As := []) (rest := []) C hz hm (c_X9_thrown l G _ _ y ad _ _ hm.2.1) wd_813 yVX9_thrown ⟨Nat.le_of_ble_eq_true rfl, Nat.le_of_ble_eq_true rfl⟩ rfl hl.1 rfl (Nat.le_of_ble_eq_true rfl) dL_law_254 ⟨by show c1 + 40 + 0 ≤ 875399; omega, by show n1 + 4000 + 0 ≤ 6469906; omega⟩ (fun t9 sc2 f2 F5 H locs hm ht => ?_)
  refine W.widen (k := c1 + 40) (n := n1 + 4000) (Nat.le_refl _) (Nat.le_refl _) ?_
  obtain ⟨hsc, hff, ht⟩ := ht
  rw [hsc, hff] at hm
  have hw := hm.1
  have hag : sc1 0 = r ∧ ∃ gv, F5 o = some ((60, 0, 0), fw_la (fw_cJ G) 1 gv) ∧ (r = nI 0 → gv 0 = b9.toInt64) ∧ lw_R G F5 x y o (i + 1) := by
    rcases hp with ⟨hr, v, F2, h, hF1⟩ | ⟨hF1, hp⟩
    · have h60 : fw_kp F F2 (fun t => t.1 < 60) := wr_si h.1
      have hoF2 := h60 _ _ _ ho (by decide)
      obtain ⟨hok, hv0⟩ := h.2
      have hf := hP.1
      obtain ⟨hs, hv1⟩ := hP.2.2 hok
      have hv : v = b9 := hv0.trans hv1.symm
      have e0 : sc1 0 = nI 0 := by rw [hs]; rfl
      rw [hf] at hm
      obtain ⟨gv, q1, q2, q3⟩ := wr_a (w := b9.toInt64) hoF2 hF1 hm.2.2 hm.2.1 (congrArg Int32.toInt64 hv) (show T ≤ 200 * (i + 1) by omega) (by rw [h.1]; exact hCL) hPU (by rw [hs]; exact hMS)
      exact ⟨e0.trans hr.symm, gv, q1, fun _ => q2, q3⟩
    · rw [hF1] at hm
      obtain ⟨hE, hr⟩ := hp
      obtain ⟨-, hE⟩ := hE
      have hf := hP.1
      have hs := hP.2.1 hE
      have e0 : sc1 0 = nI 1 := by rw [hs]; rfl
      rw [hf] at hm
      obtain ⟨q1, q3⟩ := wr_b (i := i) ho hm.2.2 hm.2.1 (show T ≤ 200 * (i + 1) by omega) hCL hPU (by rw [hs]; exact hMS)
      exact ⟨e0.trans hr.symm, g0, q1, fun z => absurd (hr.symm.trans z) (by decide), q3⟩
  obtain ⟨hth, gv, hgo, hgv, hR5⟩ := hag
  rw [hth] at ht
  refine lv_iload hx hb dL_law_257 (lv_at hl 1 rfl) ?_
  refine lv_icmp_eq (tgt := 264) hx hb dL_law_259 (by decide) (fun cx => ?_) (fun cx => absurd cx (fun h => h ht))
  refine lv_iload hx hb dL_law_264 (lv_at hl 1 rfl) ?_
  refine lv_if_ne (tgt := 281) hx hb dL_law_266 (by decide) (fun d9 => ?_) (fun d9 => ?_)
  · refine lv_goto (tgt := 1334) hx hb dL_law_281 (by decide) ?_
    exact K _ _ _ _ hw hR5 (lv_sub hl [2, 3, 4, 5, 6] rfl)
  · have d9 : r = 0 := d9
    have hgv := hgv d9
    refine lv_aload_n hx hb dL_law_269 rfl (lv_at hl 6 rfl) ?_
    refine lv_iconst (v := (nI 0)) hx hb dL_law_270 (by decide) ?_
    refine fw_lald hx hb hz hw hgo (vp_in_nI (show 0 < 1 by decide) (by decide)) dL_law_271 ?_
    rw [show (nI 0).toNatClampNeg = 0 from nI_clamp (by decide), hgv]
    refine lv_iload hx hb dL_law_272 (lv_at hl 0 rfl) ?_
    refine lv_i2l (v := b9.toInt64) hx hb dL_law_274 rfl ?_
    refine W.lcmp hx hb dL_law_275 ?_
    rw [lg_cmp_self]
    refine lv_if_eq (tgt := 281) hx hb dL_law_276 (by decide) (fun cx => ?_) (fun cx => absurd cx (fun h => h rfl))
    refine lv_goto (tgt := 1334) hx hb dL_law_281 (by decide) ?_
    exact K _ _ _ _ hw hR5 (lv_sub hl [2, 3, 4, 5, 6] rfl)
set_option maxHeartbeats 4000000 in
set_option maxRecDepth 100000 in
theorem law_stage {p : Program} {l : Launch} {e : Env} {s : State} {m : MethodId} {below : List Frame} {meth : Method} {c : Code} {b L : Nat} {xs : Nat → Int32} {G : fw_G} (E0 : lw_E p l s m meth c b L xs G) {F : fw_F} {x y o i : Nat} {H : Heap} {locs : List Loc} {ls : Array Slot} {c1 n1 : Nat} {Q : State → Prop} (hi4 : 4 * i + 3 < L) (hc1 : c1 + 40 ≤ 875399) (hn1 : n1 + 4000 ≤ 6469906) (hR : lw_R G F x y o i) (hw : fw_S G (fun q : Nat => s.heap.size ≤ q) s F H locs) (hl : lv_has ls 7 [(4, .int (nI (4 * i))), (0, .ref b), (1, .ref x), (2, .ref y), (3, .ref o)])
    (K : ∀ (F : fw_F) (H : Heap) (locs : List Loc) (ls : Array Slot), fw_S G (fun q : Nat => s.heap.size ≤ q) s F H locs → lw_R G F x y o (i + 1) → lv_has ls 7 [(4, .int (nI (4 * i))), (0, .ref b), (1, .ref x), (2, .ref y), (3, .ref o)] → W p l e room_1 s m #[Value.ref b] below meth c H locs (c1 + 40) (n1 + 4000) Q (F0 m 1334 ls [])) : W p l e room_1 s m #[Value.ref b] below meth c H locs (c1) (n1) Q (F0 m 284 ls []) := by
  obtain ⟨hx, hb, hml, hown, hT9, hz, hcx, hnc, hl9, hXs, hbl, hL⟩ := E0
  have hT := hT9
  have C : CallFix p m c code 7 s #[Value.ref b] fw_tb RL := ⟨hx, hb, hml, hown, hT⟩
  have hbA : ¬ (fun q : Nat => s.heap.size ≤ q) b := Nat.not_le.mpr hbl
  obtain ⟨ad, sc, f, g0, nC, nT, nO, nJ, nD, T, hmW, ho, hT200, hCL, hPU, hMS⟩ := hR
  have hCL9 := hCL
  obtain ⟨lc, lt, lo, lm, lw, dr, ds, dfr, ca, ta, sl, fr, oa, tr, ml, ma, ja, da, wj, sa, ms, nW, hX, hC, hT1, hTr, hO1, hK, hI, hZ, hD, htr⟩ := hCL9
  have hC9 := hC
  obtain ⟨hc10, ⟨arc, hLc⟩, hcs⟩ := hC9
  have hT9 := hT1
  obtain ⟨ht8, at9, hLt⟩ := hT9
  have hO9 := hO1
  obtain ⟨ho12, ao9, hLo⟩ := hO9
  have hK9 := hK
  obtain ⟨-, ⟨hnW, ⟨aw9, hLw⟩, -⟩, -, -⟩ := hK9
  have hD9 := hD
  obtain ⟨hd4, hD1, ⟨ad9, hD2⟩, hD3, hD4⟩ := hD9
  have hd2 := rf_dp_ok hPU.2.2.2.2.2.2.2.2 (w := 2) (Or.inr rfl) nD (Nat.le_refl _)
  have hd1 := rf_dp_ok hPU.2.2.2.2.2.2.2.2 (w := 1) (Or.inl rfl) nD (Nat.le_refl _)
  have h60 : 60 ^ nD ≤ 60 ^ 4 := Nat.pow_le_pow_right (by decide) hd4
  have hdg : 0 < cr_dg f nD := Nat.gcd_pos_of_pos_left _ hd2.1
  have hdu : rf_dp f 2 nD / cr_dg f nD ≤ 12960000 := Nat.le_trans (Nat.div_le_self _ _) (by omega)
  have hdv : rf_dp f 1 nD / cr_dg f nD ≤ 12960000 := Nat.le_trans (Nat.div_le_self _ _) (by omega)
  have hdv0 : 0 < rf_dp f 1 nD / cr_dg f nD := Nat.div_pos (Nat.le_of_dvd hd1.1 (Nat.gcd_dvd_right _ _)) hdg
  have hnW8 : nW ≤ 8 * nO := Nat.le_trans hI.row.nW hPU.2.2.2.2.2.2.2.1
  refine lv_aload_n hx hb dL_law_284 rfl (lv_at hl 2 rfl) ?_
  refine lv_aload_n hx hb dL_law_285 rfl (lv_at hl 1 rfl) ?_
  refine lv_iload hx hb dL_law_286 (lv_at hl 0 rfl) ?_
  refine lv_iconst (v := (nI 1)) hx hb dL_law_288 (by decide) ?_
  refine lv_iadd hx hb dL_law_289 ?_
  refine fw_top (nI_add _ _) ?_
  refine va_sld hx hb hXs hbl hbA hw.2.1 (vp_in_nI (show (4 * i) + 1 < L by omega) (by omega)) dL_law_290 ?_
  rw [nI_clamp (show (4 * i) + 1 < 2 ^ 31 by omega)]
  refine lv_aload_n hx hb dL_law_291 rfl (lv_at hl 1 rfl) ?_
  refine lv_iload hx hb dL_law_292 (lv_at hl 0 rfl) ?_
  refine lv_iconst (v := (nI 2)) hx hb dL_law_294 (by decide) ?_
  refine lv_iadd hx hb dL_law_295 ?_
  refine fw_top (nI_add _ _) ?_
  refine va_sld hx hb hXs hbl hbA hw.2.1 (vp_in_nI (show (4 * i) + 2 < L by omega) (by omega)) dL_law_296 ?_
  rw [nI_clamp (show (4 * i) + 2 < 2 ^ 31 by omega)]
  refine lv_aload_n hx hb dL_law_297 rfl (lv_at hl 1 rfl) ?_
  refine lv_iload hx hb dL_law_298 (lv_at hl 0 rfl) ?_
  refine lv_iconst (v := (nI 3)) hx hb dL_law_300 (by decide) ?_
  refine lv_iadd hx hb dL_law_301 ?_
  refine fw_top (nI_add _ _) ?_
  refine va_sld hx hb hXs hbl hbA hw.2.1 (vp_in_nI (show (4 * i) + 3 < L by omega) (by omega)) dL_law_302 ?_
  rw [nI_clamp (show (4 * i) + 3 < 2 ^ 31 by omega)]
  refine lv_aload_n hx hb dL_law_303 rfl (lv_at hl 4 rfl) ?_
  refine fw_calli (fw_runSW (As := [.ref x, .int (xs ((4 * i) + 1)), .int (xs ((4 * i) + 2)), .int (xs ((4 * i) + 3)), .ref o]) (rest := []) C hz hcx hnc hw (c_L_stage l G _ _ x o _ _ g0 (xs ((4 * i) + 1)) (xs ((4 * i) + 2)) (xs ((4 * i) + 3)) _ _ hX ho (fun z => c_X8_stage l G F z x lc lt lo lm lw dr (nI T) ds dfr ad9 nD nT da f (rf_dp f 2 nD / cr_dg f nD) (rf_dp f 1 nD / cr_dg f nD) (xs ((4 * i) + 1)) (xs ((4 * i) + 2)) (xs ((4 * i) + 3)) hl9 hX hD1 hD2 hd4 hD4 hD3 hdu hdv hdv0) (fun E h => h.elim (fun h => Or.inl h.1) (fun h => Or.inr h.1)) (fun v F2 h => (show fw_kp F F2 (fun t => t.1 < 60) from (by
    obtain ⟨-, -, -, -, -, -, -, -, -, -, -, -, -, -, -, -, -, -, -, -, hk⟩ := h
    exact hk.wk (fun t z => by rcases z with rfl | rfl <;> simp))) _ _ _ ho (by decide))) (fw_cwSW (n := 5) hT wd_364 wd_365 wd_0 wd_366 (by decide +kernel) rfl rfl ⟨Nat.le_of_ble_eq_true rfl, Nat.le_of_ble_eq_true rfl⟩) rfl hl.1 rfl (Nat.le_of_ble_eq_true rfl) dL_law_304 ⟨by show c1 + 3 ≤ 875399; omega, by show n1 + 250 ≤ 6469906; omega⟩) hw (fun r F1 H locs hw hp => ?_)
  refine W.widen (k := c1 + 40) (n := n1 + 4000) (by omega) (by omega) ?_
  have hkF : fw_kp F F1 (fun t => t.1 ≤ 60) := by
    rcases hp with ⟨-, v, F2, h, hF1⟩ | ⟨hF1, -⟩
    · rw [hF1]
      have h60 : fw_kp F F2 (fun t => t.1 < 60) := (by
        obtain ⟨-, -, -, -, -, -, -, -, -, -, -, -, -, -, -, -, -, -, -, -, hk⟩ := h
        exact hk.wk (fun t z => by rcases z with rfl | rfl <;> simp))
      exact wr_k1 h60 (h60 _ _ _ ho (by decide))
    · rw [hF1]; exact fw_kp.rf
  have hm1 : mm_W G F1 y ad sc f := hmW.kp hkF (fun t h z => by omega)
  have hm : mm_M G (fun q : Nat => s.heap.size ≤ q) s F1 y ad sc f F1 H locs := ⟨hw, hm1, mm_keep.rf⟩
  refine lv_istore (lv' := [(5, .int r), (4, .int (nI (4 * i))), (0, .ref b), (1, .ref x), (2, .ref y), (3, .ref o)]) hx hb dL_law_307 hl (by decide) rfl (fun ls hl => ?_)
  refine lv_aload_n hx hb dL_law_309 rfl (lv_at hl 4 rfl) ?_
  refine lv_aload_n hx hb dL_law_310 rfl (lv_at hl 2 rfl) ?_
  refine lv_iload hx hb dL_law_311 (lv_at hl 1 rfl) ?_
  refine lv_iconst (v := (nI 1)) hx hb dL_law_313 (by decide) ?_
  refine lv_iadd hx hb dL_law_314 ?_
  refine fw_top (nI_add _ _) ?_
  refine va_sld hx hb hXs hbl hbA hw.2.1 (vp_in_nI (show (4 * i) + 1 < L by omega) (by omega)) dL_law_315 ?_
  rw [nI_clamp (show (4 * i) + 1 < 2 ^ 31 by omega)]
  refine lv_aload_n hx hb dL_law_316 rfl (lv_at hl 2 rfl) ?_
  refine lv_iload hx hb dL_law_317 (lv_at hl 1 rfl) ?_
  refine lv_iconst (v := (nI 2)) hx hb dL_law_319 (by decide) ?_
  refine lv_iadd hx hb dL_law_320 ?_
  refine fw_top (nI_add _ _) ?_
  refine va_sld hx hb hXs hbl hbA hw.2.1 (vp_in_nI (show (4 * i) + 2 < L by omega) (by omega)) dL_law_321 ?_
  rw [nI_clamp (show (4 * i) + 2 < 2 ^ 31 by omega)]
  refine lv_aload_n hx hb dL_law_322 rfl (lv_at hl 2 rfl) ?_
  refine lv_iload hx hb dL_law_323 (lv_at hl 1 rfl) ?_
  refine lv_iconst (v := (nI 3)) hx hb dL_law_325 (by decide) ?_
  refine lv_iadd hx hb dL_law_326 ?_
  refine fw_top (nI_add _ _) ?_
  refine va_sld hx hb hXs hbl hbA hw.2.1 (vp_in_nI (show (4 * i) + 3 < L by omega) (by omega)) dL_law_327 ?_
  rw [nI_clamp (show (4 * i) + 3 < 2 ^ 31 by omega)]
  refine mm_calli (As := [.int (xs ((4 * i) + 1)), .int (xs ((4 * i) + 2)), .int (xs ((4 * i) + 3))]) (rest := []) C hz hm (c_X9_stage l G _ _ y ad _ _ nD (xs ((4 * i) + 1)) (xs ((4 * i) + 2)) (xs ((4 * i) + 3)) hm1 hMS.2.1 hd4) wd_832 yVX9_stage ⟨Nat.le_of_ble_eq_true rfl, Nat.le_of_ble_eq_true rfl⟩ rfl hl.1 rfl (Nat.le_of_ble_eq_true rfl) dL_law_328 ⟨by show c1 + 40 + 0 ≤ 875399; omega, by show n1 + 4000 + 0 ≤ 6469906; omega⟩ (fun b9 sc1 f1 F4 H locs hm hP => ?_)
  refine W.widen (k := c1 + 40) (n := n1 + 4000) (Nat.le_refl _) (Nat.le_refl _) ?_
  refine lv_istore (lv' := [(6, .int b9), (5, .int r), (4, .int (nI (4 * i))), (0, .ref b), (1, .ref x), (2, .ref y), (3, .ref o)]) hx hb dL_law_331 hl (by decide) rfl (fun ls hl => ?_)
  refine lv_aload_n hx hb dL_law_333 rfl (lv_at hl 5 rfl) ?_
  refine mm_calli (As := []) (rest := []) C hz hm (c_X9_thrown l G _ _ y ad _ _ hm.2.1) wd_813 yVX9_thrown ⟨Nat.le_of_ble_eq_true rfl, Nat.le_of_ble_eq_true rfl⟩ rfl hl.1 rfl (Nat.le_of_ble_eq_true rfl) dL_law_334 ⟨by show c1 + 40 + 0 ≤ 875399; omega, by show n1 + 4000 + 0 ≤ 6469906; omega⟩ (fun t9 sc2 f2 F5 H locs hm ht => ?_)
  refine W.widen (k := c1 + 40) (n := n1 + 4000) (Nat.le_refl _) (Nat.le_refl _) ?_
  obtain ⟨hsc, hff, ht⟩ := ht
  rw [hsc, hff] at hm
  have hw := hm.1
  have hag : sc1 0 = r ∧ ∃ gv, F5 o = some ((60, 0, 0), fw_la (fw_cJ G) 1 gv) ∧ (r = nI 0 → gv 0 = b9.toInt64) ∧ lw_R G F5 x y o (i + 1) := by
    rcases hp with ⟨hr, v, F2, h, hF1⟩ | ⟨hF1, hp⟩
    · have h60 : fw_kp F F2 (fun t => t.1 < 60) := (by
        obtain ⟨-, -, -, -, -, -, -, -, -, -, -, -, -, -, -, -, -, -, -, -, hk⟩ := h
        exact hk.wk (fun t z => by rcases z with rfl | rfl <;> simp))
      have hoF2 := h60 _ _ _ ho (by decide)
      obtain ⟨m9, q9, p9, st, q, hok, hn, em, eq, ep, a1, a2, a3, a4, a5, a6, hv, z1, z2, z3, hk⟩ := h
      obtain ⟨hf, hs, hb9⟩ := hP.2.2 hok hn
      obtain ⟨c1, c2, -⟩ := st_stage hX hC hT1 hTr hO1 hK hI hZ hD htr hPU hn em eq ep a1 a2 a3 a4 a5 a6 z1 z2 z3 hk hf
      have e0 : sc1 0 = nI 0 := by rw [hs]; rfl
      obtain ⟨gv, q1, q2, q3⟩ := wr_a (w := b9.toInt64) hoF2 hF1 hm.2.2 hm.2.1 (by rw [hv, hb9, hf, ← rf_ds_dist]; rfl) (show T ≤ 200 * (i + 1) by omega) c1 c2 (by rw [hs]; exact ⟨hMS.1, rfl, hMS.2.2⟩)
      exact ⟨e0.trans hr.symm, gv, q1, fun _ => q2, q3⟩
    · rw [hF1] at hm
      rcases hp with ⟨hE, hr⟩ | ⟨hE, hr⟩
      · rcases hE with ⟨q9, hE⟩ | ⟨q9, hE⟩
        · obtain ⟨hf, hs⟩ := hP.1 hE
          have e0 : sc1 0 = nI 1 := by rw [hs]; rfl
          rw [hf] at hm
          obtain ⟨q1, q3⟩ := wr_b (i := i) ho hm.2.2 hm.2.1 (show T ≤ 200 * (i + 1) by omega) hCL hPU (by rw [hs]; exact hMS)
          exact ⟨e0.trans hr.symm, g0, q1, fun z => absurd (hr.symm.trans z) (by decide), q3⟩
        · exact absurd q9 (by decide)
      · rcases hE with ⟨q9, hE⟩ | ⟨q9, hE⟩
        · exact absurd q9 (by decide)
        · obtain ⟨hf, hs⟩ := hP.2.1 hE.1 hE.2
          have e0 : sc1 0 = nI 2 := by rw [hs]; rfl
          rw [hf] at hm
          obtain ⟨q1, q3⟩ := wr_b (i := i) ho hm.2.2 hm.2.1 (show T ≤ 200 * (i + 1) by omega) hCL hPU (by rw [hs]; exact hMS)
          exact ⟨e0.trans hr.symm, g0, q1, fun z => absurd (hr.symm.trans z) (by decide), q3⟩
  obtain ⟨hth, gv, hgo, hgv, hR5⟩ := hag
  rw [hth] at ht
  refine lv_iload hx hb dL_law_337 (lv_at hl 1 rfl) ?_
  refine lv_icmp_eq (tgt := 344) hx hb dL_law_339 (by decide) (fun cx => ?_) (fun cx => absurd cx (fun h => h ht))
  refine lv_iload hx hb dL_law_344 (lv_at hl 1 rfl) ?_
  refine lv_if_ne (tgt := 361) hx hb dL_law_346 (by decide) (fun d9 => ?_) (fun d9 => ?_)
  · refine lv_goto (tgt := 1334) hx hb dL_law_361 (by decide) ?_
    exact K _ _ _ _ hw hR5 (lv_sub hl [2, 3, 4, 5, 6] rfl)
  · have d9 : r = 0 := d9
    have hgv := hgv d9
    refine lv_aload_n hx hb dL_law_349 rfl (lv_at hl 6 rfl) ?_
    refine lv_iconst (v := (nI 0)) hx hb dL_law_350 (by decide) ?_
    refine fw_lald hx hb hz hw hgo (vp_in_nI (show 0 < 1 by decide) (by decide)) dL_law_351 ?_
    rw [show (nI 0).toNatClampNeg = 0 from nI_clamp (by decide), hgv]
    refine lv_iload hx hb dL_law_352 (lv_at hl 0 rfl) ?_
    refine lv_i2l (v := b9.toInt64) hx hb dL_law_354 rfl ?_
    refine W.lcmp hx hb dL_law_355 ?_
    rw [lg_cmp_self]
    refine lv_if_eq (tgt := 361) hx hb dL_law_356 (by decide) (fun cx => ?_) (fun cx => absurd cx (fun h => h rfl))
    refine lv_goto (tgt := 1334) hx hb dL_law_361 (by decide) ?_
    exact K _ _ _ _ hw hR5 (lv_sub hl [2, 3, 4, 5, 6] rfl)
set_option maxHeartbeats 4000000 in
set_option maxRecDepth 100000 in
theorem law_make {p : Program} {l : Launch} {e : Env} {s : State} {m : MethodId} {below : List Frame} {meth : Method} {c : Code} {b L : Nat} {xs : Nat → Int32} {G : fw_G} (E0 : lw_E p l s m meth c b L xs G) {F : fw_F} {x y o i : Nat} {H : Heap} {locs : List Loc} {ls : Array Slot} {c1 n1 : Nat} {Q : State → Prop} (hi4 : 4 * i + 3 < L) (hc1 : c1 + 40 ≤ 875399) (hn1 : n1 + 4000 ≤ 6469906) (hR : lw_R G F x y o i) (hw : fw_S G (fun q : Nat => s.heap.size ≤ q) s F H locs) (hl : lv_has ls 7 [(4, .int (nI (4 * i))), (0, .ref b), (1, .ref x), (2, .ref y), (3, .ref o)])
    (K : ∀ (F : fw_F) (H : Heap) (locs : List Loc) (ls : Array Slot), fw_S G (fun q : Nat => s.heap.size ≤ q) s F H locs → lw_R G F x y o (i + 1) → lv_has ls 7 [(4, .int (nI (4 * i))), (0, .ref b), (1, .ref x), (2, .ref y), (3, .ref o)] → W p l e room_1 s m #[Value.ref b] below meth c H locs (c1 + 40) (n1 + 4000) Q (F0 m 1334 ls [])) : W p l e room_1 s m #[Value.ref b] below meth c H locs (c1) (n1) Q (F0 m 377 ls []) := by
  obtain ⟨hx, hb, hml, hown, hT9, hz, hcx, hnc, hl9, hXs, hbl, hL⟩ := E0
  have hT := hT9
  have C : CallFix p m c code 7 s #[Value.ref b] fw_tb RL := ⟨hx, hb, hml, hown, hT⟩
  have hbA : ¬ (fun q : Nat => s.heap.size ≤ q) b := Nat.not_le.mpr hbl
  obtain ⟨ad, sc, f, g0, nC, nT, nO, nJ, nD, T, hmW, ho, hT200, hCL, hPU, hMS⟩ := hR
  have hCL9 := hCL
  obtain ⟨lc, lt, lo, lm, lw, dr, ds, dfr, ca, ta, sl, fr, oa, tr, ml, ma, ja, da, wj, sa, ms, nW, hX, hC, hT1, hTr, hO1, hK, hI, hZ, hD, htr⟩ := hCL9
  have hC9 := hC
  obtain ⟨hc10, ⟨arc, hLc⟩, hcs⟩ := hC9
  have hT9 := hT1
  obtain ⟨ht8, at9, hLt⟩ := hT9
  have hO9 := hO1
  obtain ⟨ho12, ao9, hLo⟩ := hO9
  have hK9 := hK
  obtain ⟨-, ⟨hnW, ⟨aw9, hLw⟩, -⟩, -, -⟩ := hK9
  have hD9 := hD
  obtain ⟨hd4, hD1, ⟨ad9, hD2⟩, hD3, hD4⟩ := hD9
  have hd2 := rf_dp_ok hPU.2.2.2.2.2.2.2.2 (w := 2) (Or.inr rfl) nD (Nat.le_refl _)
  have hd1 := rf_dp_ok hPU.2.2.2.2.2.2.2.2 (w := 1) (Or.inl rfl) nD (Nat.le_refl _)
  have h60 : 60 ^ nD ≤ 60 ^ 4 := Nat.pow_le_pow_right (by decide) hd4
  have hdg : 0 < cr_dg f nD := Nat.gcd_pos_of_pos_left _ hd2.1
  have hdu : rf_dp f 2 nD / cr_dg f nD ≤ 12960000 := Nat.le_trans (Nat.div_le_self _ _) (by omega)
  have hdv : rf_dp f 1 nD / cr_dg f nD ≤ 12960000 := Nat.le_trans (Nat.div_le_self _ _) (by omega)
  have hdv0 : 0 < rf_dp f 1 nD / cr_dg f nD := Nat.div_pos (Nat.le_of_dvd hd1.1 (Nat.gcd_dvd_right _ _)) hdg
  have hnW8 : nW ≤ 8 * nO := Nat.le_trans hI.row.nW hPU.2.2.2.2.2.2.2.1
  refine lv_aload_n hx hb dL_law_377 rfl (lv_at hl 2 rfl) ?_
  refine lv_aload_n hx hb dL_law_378 rfl (lv_at hl 1 rfl) ?_
  refine lv_iload hx hb dL_law_379 (lv_at hl 0 rfl) ?_
  refine lv_iconst (v := (nI 1)) hx hb dL_law_381 (by decide) ?_
  refine lv_iadd hx hb dL_law_382 ?_
  refine fw_top (nI_add _ _) ?_
  refine va_sld hx hb hXs hbl hbA hw.2.1 (vp_in_nI (show (4 * i) + 1 < L by omega) (by omega)) dL_law_383 ?_
  rw [nI_clamp (show (4 * i) + 1 < 2 ^ 31 by omega)]
  refine lv_aload_n hx hb dL_law_384 rfl (lv_at hl 4 rfl) ?_
  refine fw_calli (fw_runSW (As := [.ref x, .int (xs ((4 * i) + 1)), .ref o]) (rest := []) C hz hcx hnc hw (c_L_make l G _ _ x o _ _ g0 (xs ((4 * i) + 1)) _ _ hX ho (fun z => c_X8_make l G F z x lc lt lo lm lw dr (nI T) ds dfr ad9 nD nT da f ca nC at9 ta (xs ((4 * i) + 1)) hl9 hX hD1 hD2 hd4 hD4 hC hLt ht8) (fun E h => h.1) (fun v F2 h => (show fw_kp F F2 (fun t => t.1 < 60) from (by
    obtain ⟨-, -, -, -, -, -, -, -, -, -, -, -, -, -, hk⟩ := h
    exact hk.wk (fun t z => by rcases z with rfl | rfl | rfl <;> simp))) _ _ _ ho (by decide))) (fw_cwSW (n := 3) hT wd_414 wd_415 wd_0 wd_416 (by decide +kernel) rfl rfl ⟨Nat.le_of_ble_eq_true rfl, Nat.le_of_ble_eq_true rfl⟩) rfl hl.1 rfl (Nat.le_of_ble_eq_true rfl) dL_law_385 ⟨by show c1 + 5 ≤ 875399; omega, by show n1 + 260 ≤ 6469906; omega⟩) hw (fun r F1 H locs hw hp => ?_)
  refine W.widen (k := c1 + 40) (n := n1 + 4000) (by omega) (by omega) ?_
  have hkF : fw_kp F F1 (fun t => t.1 ≤ 60) := by
    rcases hp with ⟨-, v, F2, h, hF1⟩ | ⟨hF1, -⟩
    · rw [hF1]
      have h60 : fw_kp F F2 (fun t => t.1 < 60) := (by
        obtain ⟨-, -, -, -, -, -, -, -, -, -, -, -, -, -, hk⟩ := h
        exact hk.wk (fun t z => by rcases z with rfl | rfl | rfl <;> simp))
      exact wr_k1 h60 (h60 _ _ _ ho (by decide))
    · rw [hF1]; exact fw_kp.rf
  have hm1 : mm_W G F1 y ad sc f := hmW.kp hkF (fun t h z => by omega)
  have hm : mm_M G (fun q : Nat => s.heap.size ≤ q) s F1 y ad sc f F1 H locs := ⟨hw, hm1, mm_keep.rf⟩
  refine lv_istore (lv' := [(5, .int r), (4, .int (nI (4 * i))), (0, .ref b), (1, .ref x), (2, .ref y), (3, .ref o)]) hx hb dL_law_388 hl (by decide) rfl (fun ls hl => ?_)
  refine lv_aload_n hx hb dL_law_390 rfl (lv_at hl 4 rfl) ?_
  refine lv_aload_n hx hb dL_law_391 rfl (lv_at hl 2 rfl) ?_
  refine lv_iload hx hb dL_law_392 (lv_at hl 1 rfl) ?_
  refine lv_iconst (v := (nI 1)) hx hb dL_law_394 (by decide) ?_
  refine lv_iadd hx hb dL_law_395 ?_
  refine fw_top (nI_add _ _) ?_
  refine va_sld hx hb hXs hbl hbA hw.2.1 (vp_in_nI (show (4 * i) + 1 < L by omega) (by omega)) dL_law_396 ?_
  rw [nI_clamp (show (4 * i) + 1 < 2 ^ 31 by omega)]
  refine mm_calli (As := [.int (xs ((4 * i) + 1))]) (rest := []) C hz hm (c_X9_make l G _ _ y ad _ _ nC nD nT (xs ((4 * i) + 1)) hm1 hMS.2.2.1 ht8 hMS.2.1 hd4 hMS.1 hc10) wd_844 yVX9_make ⟨Nat.le_of_ble_eq_true rfl, Nat.le_of_ble_eq_true rfl⟩ rfl hl.1 rfl (Nat.le_of_ble_eq_true rfl) dL_law_397 ⟨by show c1 + 40 + 0 ≤ 875399; omega, by show n1 + 4000 + 0 ≤ 6469906; omega⟩ (fun b9 sc1 f1 F4 H locs hm hP => ?_)
  refine W.widen (k := c1 + 40) (n := n1 + 4000) (Nat.le_refl _) (Nat.le_refl _) ?_
  refine lv_istore (lv' := [(6, .int b9), (5, .int r), (4, .int (nI (4 * i))), (0, .ref b), (1, .ref x), (2, .ref y), (3, .ref o)]) hx hb dL_law_400 hl (by decide) rfl (fun ls hl => ?_)
  refine lv_aload_n hx hb dL_law_402 rfl (lv_at hl 5 rfl) ?_
  refine mm_calli (As := []) (rest := []) C hz hm (c_X9_thrown l G _ _ y ad _ _ hm.2.1) wd_813 yVX9_thrown ⟨Nat.le_of_ble_eq_true rfl, Nat.le_of_ble_eq_true rfl⟩ rfl hl.1 rfl (Nat.le_of_ble_eq_true rfl) dL_law_403 ⟨by show c1 + 40 + 0 ≤ 875399; omega, by show n1 + 4000 + 0 ≤ 6469906; omega⟩ (fun t9 sc2 f2 F5 H locs hm ht => ?_)
  refine W.widen (k := c1 + 40) (n := n1 + 4000) (Nat.le_refl _) (Nat.le_refl _) ?_
  obtain ⟨hsc, hff, ht⟩ := ht
  rw [hsc, hff] at hm
  have hw := hm.1
  have hag : sc1 0 = r ∧ ∃ gv, F5 o = some ((60, 0, 0), fw_la (fw_cJ G) 1 gv) ∧ (r = nI 0 → gv 0 = b9.toInt64) ∧ lw_R G F5 x y o (i + 1) := by
    rcases hp with ⟨hr, v, F2, h, hF1⟩ | ⟨hF1, hp⟩
    · have h60 : fw_kp F F2 (fun t => t.1 < 60) := (by
        obtain ⟨-, -, -, -, -, -, -, -, -, -, -, -, -, -, hk⟩ := h
        exact hk.wk (fun t z => by rcases z with rfl | rfl | rfl <;> simp))
      have hoF2 := h60 _ _ _ ho (by decide)
      obtain ⟨al, b, q1, q2, hn, hdi, hall, h8, hv, z0, z1, z2, z3, z4, hk⟩ := h
      have hcan : rf_cans f nC (rf_can0 f nD nT (xs ((4 * i) + 1))) nD = true := by rw [cl_cans, hall, rf_can0, decide_eq_true hn, decide_eq_true (hdi.trans (rf_ds_dist f nD)), decide_eq_true h8]; rfl
      obtain ⟨hs, hf, hb9⟩ := hP.2 hcan
      obtain ⟨c1, c2, -⟩ := st_make (G := G) hX hC hT1 hTr hO1 hK hI hZ hD htr hPU hn h8 z0 z1 z2 z3 z4 hk hf
      have e0 : sc1 0 = nI 0 := by rw [hs]; rfl
      obtain ⟨gv, q1, q2, q3⟩ := wr_a (w := b9.toInt64) hoF2 hF1 hm.2.2 hm.2.1 (by rw [hv, hb9]) (show T ≤ 200 * (i + 1) by omega) c1 c2 (by rw [hs]; exact ⟨hMS.1, rfl, rfl, hMS.2.2.2⟩)
      exact ⟨e0.trans hr.symm, gv, q1, fun _ => q2, q3⟩
    · rw [hF1] at hm
      obtain ⟨hE, hr⟩ := hp
      obtain ⟨-, hE⟩ := hE
      have hcan : rf_cans f nC (rf_can0 f nD nT (xs ((4 * i) + 1))) nD = false := by
        rw [cl_cans, rf_can0]
        rcases hE with z | z | z | z
        · rw [decide_eq_false (show ¬ 0 < nD by omega)]; rfl
        · rw [decide_eq_false (show ¬ (xs ((4 * i) + 1)) = rf_dist f nD from fun q => z (q.trans (rf_ds_dist f nD).symm)), Bool.and_false]; rfl
        · rw [z, Bool.and_false]
        · rw [decide_eq_false (show ¬ nT < 8 by omega), Bool.and_false]; rfl
      obtain ⟨hf, hs⟩ := hP.1 hcan
      have e0 : sc1 0 = nI 1 := by rw [hs]; rfl
      rw [hf] at hm
      obtain ⟨q1, q3⟩ := wr_b (i := i) ho hm.2.2 hm.2.1 (show T ≤ 200 * (i + 1) by omega) hCL hPU (by rw [hs]; exact hMS)
      exact ⟨e0.trans hr.symm, g0, q1, fun z => absurd (hr.symm.trans z) (by decide), q3⟩
  obtain ⟨hth, gv, hgo, hgv, hR5⟩ := hag
  rw [hth] at ht
  refine lv_iload hx hb dL_law_406 (lv_at hl 1 rfl) ?_
  refine lv_icmp_eq (tgt := 413) hx hb dL_law_408 (by decide) (fun cx => ?_) (fun cx => absurd cx (fun h => h ht))
  refine lv_iload hx hb dL_law_413 (lv_at hl 1 rfl) ?_
  refine lv_if_ne (tgt := 430) hx hb dL_law_415 (by decide) (fun d9 => ?_) (fun d9 => ?_)
  · refine lv_goto (tgt := 1334) hx hb dL_law_430 (by decide) ?_
    exact K _ _ _ _ hw hR5 (lv_sub hl [2, 3, 4, 5, 6] rfl)
  · have d9 : r = 0 := d9
    have hgv := hgv d9
    refine lv_aload_n hx hb dL_law_418 rfl (lv_at hl 6 rfl) ?_
    refine lv_iconst (v := (nI 0)) hx hb dL_law_419 (by decide) ?_
    refine fw_lald hx hb hz hw hgo (vp_in_nI (show 0 < 1 by decide) (by decide)) dL_law_420 ?_
    rw [show (nI 0).toNatClampNeg = 0 from nI_clamp (by decide), hgv]
    refine lv_iload hx hb dL_law_421 (lv_at hl 0 rfl) ?_
    refine lv_i2l (v := b9.toInt64) hx hb dL_law_423 rfl ?_
    refine W.lcmp hx hb dL_law_424 ?_
    rw [lg_cmp_self]
    refine lv_if_eq (tgt := 430) hx hb dL_law_425 (by decide) (fun cx => ?_) (fun cx => absurd cx (fun h => h rfl))
    refine lv_goto (tgt := 1334) hx hb dL_law_430 (by decide) ?_
    exact K _ _ _ _ hw hR5 (lv_sub hl [2, 3, 4, 5, 6] rfl)
set_option maxHeartbeats 4000000 in
set_option maxRecDepth 100000 in
theorem law_numerator {p : Program} {l : Launch} {e : Env} {s : State} {m : MethodId} {below : List Frame} {meth : Method} {c : Code} {b L : Nat} {xs : Nat → Int32} {G : fw_G} (E0 : lw_E p l s m meth c b L xs G) {F : fw_F} {x y o i : Nat} {H : Heap} {locs : List Loc} {ls : Array Slot} {c1 n1 : Nat} {Q : State → Prop} (hi4 : 4 * i + 3 < L) (hc1 : c1 + 40 ≤ 875399) (hn1 : n1 + 4000 ≤ 6469906) (hR : lw_R G F x y o i) (hw : fw_S G (fun q : Nat => s.heap.size ≤ q) s F H locs) (hl : lv_has ls 7 [(4, .int (nI (4 * i))), (0, .ref b), (1, .ref x), (2, .ref y), (3, .ref o)])
    (K : ∀ (F : fw_F) (H : Heap) (locs : List Loc) (ls : Array Slot), fw_S G (fun q : Nat => s.heap.size ≤ q) s F H locs → lw_R G F x y o (i + 1) → lv_has ls 7 [(4, .int (nI (4 * i))), (0, .ref b), (1, .ref x), (2, .ref y), (3, .ref o)] → W p l e room_1 s m #[Value.ref b] below meth c H locs (c1 + 40) (n1 + 4000) Q (F0 m 1334 ls [])) : W p l e room_1 s m #[Value.ref b] below meth c H locs (c1) (n1) Q (F0 m 433 ls []) := by
  obtain ⟨hx, hb, hml, hown, hT9, hz, hcx, hnc, hl9, hXs, hbl, hL⟩ := E0
  have hT := hT9
  have C : CallFix p m c code 7 s #[Value.ref b] fw_tb RL := ⟨hx, hb, hml, hown, hT⟩
  have hbA : ¬ (fun q : Nat => s.heap.size ≤ q) b := Nat.not_le.mpr hbl
  obtain ⟨ad, sc, f, g0, nC, nT, nO, nJ, nD, T, hmW, ho, hT200, hCL, hPU, hMS⟩ := hR
  have hCL9 := hCL
  obtain ⟨lc, lt, lo, lm, lw, dr, ds, dfr, ca, ta, sl, fr, oa, tr, ml, ma, ja, da, wj, sa, ms, nW, hX, hC, hT1, hTr, hO1, hK, hI, hZ, hD, htr⟩ := hCL9
  have hC9 := hC
  obtain ⟨hc10, ⟨arc, hLc⟩, hcs⟩ := hC9
  have hT9 := hT1
  obtain ⟨ht8, at9, hLt⟩ := hT9
  have hO9 := hO1
  obtain ⟨ho12, ao9, hLo⟩ := hO9
  have hK9 := hK
  obtain ⟨-, ⟨hnW, ⟨aw9, hLw⟩, -⟩, -, -⟩ := hK9
  have hD9 := hD
  obtain ⟨hd4, hD1, ⟨ad9, hD2⟩, hD3, hD4⟩ := hD9
  have hd2 := rf_dp_ok hPU.2.2.2.2.2.2.2.2 (w := 2) (Or.inr rfl) nD (Nat.le_refl _)
  have hd1 := rf_dp_ok hPU.2.2.2.2.2.2.2.2 (w := 1) (Or.inl rfl) nD (Nat.le_refl _)
  have h60 : 60 ^ nD ≤ 60 ^ 4 := Nat.pow_le_pow_right (by decide) hd4
  have hdg : 0 < cr_dg f nD := Nat.gcd_pos_of_pos_left _ hd2.1
  have hdu : rf_dp f 2 nD / cr_dg f nD ≤ 12960000 := Nat.le_trans (Nat.div_le_self _ _) (by omega)
  have hdv : rf_dp f 1 nD / cr_dg f nD ≤ 12960000 := Nat.le_trans (Nat.div_le_self _ _) (by omega)
  have hdv0 : 0 < rf_dp f 1 nD / cr_dg f nD := Nat.div_pos (Nat.le_of_dvd hd1.1 (Nat.gcd_dvd_right _ _)) hdg
  have hnW8 : nW ≤ 8 * nO := Nat.le_trans hI.row.nW hPU.2.2.2.2.2.2.2.1
  refine lv_aload_n hx hb dL_law_433 rfl (lv_at hl 2 rfl) ?_
  refine lv_aload_n hx hb dL_law_434 rfl (lv_at hl 1 rfl) ?_
  refine lv_iload hx hb dL_law_435 (lv_at hl 0 rfl) ?_
  refine lv_iconst (v := (nI 1)) hx hb dL_law_437 (by decide) ?_
  refine lv_iadd hx hb dL_law_438 ?_
  refine fw_top (nI_add _ _) ?_
  refine va_sld hx hb hXs hbl hbA hw.2.1 (vp_in_nI (show (4 * i) + 1 < L by omega) (by omega)) dL_law_439 ?_
  rw [nI_clamp (show (4 * i) + 1 < 2 ^ 31 by omega)]
  refine lv_aload_n hx hb dL_law_440 rfl (lv_at hl 4 rfl) ?_
  refine fw_calli (fw_runSW (As := [.ref x, .int (xs ((4 * i) + 1)), .ref o]) (rest := []) C hz hcx hnc hw (c_L_numerator l G _ _ x o _ _ g0 (xs ((4 * i) + 1)) _ _ hX ho (fun z => c_X8_numerator l G F z x lc lt lo lm lw dr (nI T) ta sl fr sa f nT (xs ((4 * i) + 1)) hl9 hX hT1 hTr) (fun E h => h.1) (fun v F2 h => (show fw_kp F F2 (fun t => t.1 < 60) from wr_si h.1) _ _ _ ho (by decide))) (fw_cwSW (n := 3) hT wd_433 wd_434 wd_0 wd_435 (by decide +kernel) rfl rfl ⟨Nat.le_of_ble_eq_true rfl, Nat.le_of_ble_eq_true rfl⟩) rfl hl.1 rfl (Nat.le_of_ble_eq_true rfl) dL_law_441 ⟨by show c1 + 1 ≤ 875399; omega, by show n1 + 6 ≤ 6469906; omega⟩) hw (fun r F1 H locs hw hp => ?_)
  refine W.widen (k := c1 + 40) (n := n1 + 4000) (by omega) (by omega) ?_
  have hkF : fw_kp F F1 (fun t => t.1 ≤ 60) := by
    rcases hp with ⟨-, v, F2, h, hF1⟩ | ⟨hF1, -⟩
    · rw [hF1]
      have h60 : fw_kp F F2 (fun t => t.1 < 60) := wr_si h.1
      exact wr_k1 h60 (h60 _ _ _ ho (by decide))
    · rw [hF1]; exact fw_kp.rf
  have hm1 : mm_W G F1 y ad sc f := hmW.kp hkF (fun t h z => by omega)
  have hm : mm_M G (fun q : Nat => s.heap.size ≤ q) s F1 y ad sc f F1 H locs := ⟨hw, hm1, mm_keep.rf⟩
  refine lv_istore (lv' := [(5, .int r), (4, .int (nI (4 * i))), (0, .ref b), (1, .ref x), (2, .ref y), (3, .ref o)]) hx hb dL_law_444 hl (by decide) rfl (fun ls hl => ?_)
  refine lv_aload_n hx hb dL_law_446 rfl (lv_at hl 4 rfl) ?_
  refine lv_aload_n hx hb dL_law_447 rfl (lv_at hl 2 rfl) ?_
  refine lv_iload hx hb dL_law_448 (lv_at hl 1 rfl) ?_
  refine lv_iconst (v := (nI 1)) hx hb dL_law_450 (by decide) ?_
  refine lv_iadd hx hb dL_law_451 ?_
  refine fw_top (nI_add _ _) ?_
  refine va_sld hx hb hXs hbl hbA hw.2.1 (vp_in_nI (show (4 * i) + 1 < L by omega) (by omega)) dL_law_452 ?_
  rw [nI_clamp (show (4 * i) + 1 < 2 ^ 31 by omega)]
  refine mm_calli (As := [.int (xs ((4 * i) + 1))]) (rest := []) C hz hm (c_X9_numerator l G _ _ y ad _ _ nT (xs ((4 * i) + 1)) hm1 hMS.2.2.1 ht8 hPU.1) wd_848 yVX9_numerator ⟨Nat.le_of_ble_eq_true rfl, Nat.le_of_ble_eq_true rfl⟩ rfl hl.1 rfl (Nat.le_of_ble_eq_true rfl) dL_law_453 ⟨by show c1 + 40 + 0 ≤ 875399; omega, by show n1 + 4000 + 0 ≤ 6469906; omega⟩ (fun b9 sc1 f1 F4 H locs hm hP => ?_)
  refine W.widen (k := c1 + 40) (n := n1 + 4000) (Nat.le_refl _) (Nat.le_refl _) ?_
  refine lv_istore (lv' := [(6, .int b9), (5, .int r), (4, .int (nI (4 * i))), (0, .ref b), (1, .ref x), (2, .ref y), (3, .ref o)]) hx hb dL_law_456 hl (by decide) rfl (fun ls hl => ?_)
  refine lv_aload_n hx hb dL_law_458 rfl (lv_at hl 5 rfl) ?_
  refine mm_calli (As := []) (rest := []) C hz hm (c_X9_thrown l G _ _ y ad _ _ hm.2.1) wd_813 yVX9_thrown ⟨Nat.le_of_ble_eq_true rfl, Nat.le_of_ble_eq_true rfl⟩ rfl hl.1 rfl (Nat.le_of_ble_eq_true rfl) dL_law_459 ⟨by show c1 + 40 + 0 ≤ 875399; omega, by show n1 + 4000 + 0 ≤ 6469906; omega⟩ (fun t9 sc2 f2 F5 H locs hm ht => ?_)
  refine W.widen (k := c1 + 40) (n := n1 + 4000) (Nat.le_refl _) (Nat.le_refl _) ?_
  obtain ⟨hsc, hff, ht⟩ := ht
  rw [hsc, hff] at hm
  have hw := hm.1
  have hag : sc1 0 = r ∧ ∃ gv, F5 o = some ((60, 0, 0), fw_la (fw_cJ G) 1 gv) ∧ (r = nI 0 → gv 0 = b9.toInt64) ∧ lw_R G F5 x y o (i + 1) := by
    rcases hp with ⟨hr, v, F2, h, hF1⟩ | ⟨hF1, hp⟩
    · have h60 : fw_kp F F2 (fun t => t.1 < 60) := wr_si h.1
      have hoF2 := h60 _ _ _ ho (by decide)
      obtain ⟨j, hj, ej, hv0⟩ := h.2
      obtain ⟨hf, hs, hb⟩ := hP
      rw [ej, rf_ix_of (show nT ≤ 100 by omega) hj] at hs
      have hv : v = b9 := hv0.trans (hb j hj ej).symm
      have e0 : sc1 0 = nI 0 := by rw [hs]; rfl
      rw [hf] at hm
      obtain ⟨gv, q1, q2, q3⟩ := wr_a (w := b9.toInt64) hoF2 hF1 hm.2.2 hm.2.1 (congrArg Int32.toInt64 hv) (show T ≤ 200 * (i + 1) by omega) (by rw [h.1]; exact hCL) hPU (by rw [hs]; exact hMS)
      exact ⟨e0.trans hr.symm, gv, q1, fun _ => q2, q3⟩
    · rw [hF1] at hm
      obtain ⟨hE, hr⟩ := hp
      obtain ⟨-, hE⟩ := hE
      obtain ⟨hf, hs, hb⟩ := hP
      rw [hE] at hs
      have e0 : sc1 0 = nI 1 := by rw [hs]; rfl
      rw [hf] at hm
      obtain ⟨q1, q3⟩ := wr_b (i := i) ho hm.2.2 hm.2.1 (show T ≤ 200 * (i + 1) by omega) hCL hPU (by rw [hs]; exact hMS)
      exact ⟨e0.trans hr.symm, g0, q1, fun z => absurd (hr.symm.trans z) (by decide), q3⟩
  obtain ⟨hth, gv, hgo, hgv, hR5⟩ := hag
  rw [hth] at ht
  refine lv_iload hx hb dL_law_462 (lv_at hl 1 rfl) ?_
  refine lv_icmp_eq (tgt := 469) hx hb dL_law_464 (by decide) (fun cx => ?_) (fun cx => absurd cx (fun h => h ht))
  refine lv_iload hx hb dL_law_469 (lv_at hl 1 rfl) ?_
  refine lv_if_ne (tgt := 486) hx hb dL_law_471 (by decide) (fun d9 => ?_) (fun d9 => ?_)
  · refine lv_goto (tgt := 1334) hx hb dL_law_486 (by decide) ?_
    exact K _ _ _ _ hw hR5 (lv_sub hl [2, 3, 4, 5, 6] rfl)
  · have d9 : r = 0 := d9
    have hgv := hgv d9
    refine lv_aload_n hx hb dL_law_474 rfl (lv_at hl 6 rfl) ?_
    refine lv_iconst (v := (nI 0)) hx hb dL_law_475 (by decide) ?_
    refine fw_lald hx hb hz hw hgo (vp_in_nI (show 0 < 1 by decide) (by decide)) dL_law_476 ?_
    rw [show (nI 0).toNatClampNeg = 0 from nI_clamp (by decide), hgv]
    refine lv_iload hx hb dL_law_477 (lv_at hl 0 rfl) ?_
    refine lv_i2l (v := b9.toInt64) hx hb dL_law_479 rfl ?_
    refine W.lcmp hx hb dL_law_480 ?_
    rw [lg_cmp_self]
    refine lv_if_eq (tgt := 486) hx hb dL_law_481 (by decide) (fun cx => ?_) (fun cx => absurd cx (fun h => h rfl))
    refine lv_goto (tgt := 1334) hx hb dL_law_486 (by decide) ?_
    exact K _ _ _ _ hw hR5 (lv_sub hl [2, 3, 4, 5, 6] rfl)
set_option maxHeartbeats 4000000 in
set_option maxRecDepth 100000 in
theorem law_denominator {p : Program} {l : Launch} {e : Env} {s : State} {m : MethodId} {below : List Frame} {meth : Method} {c : Code} {b L : Nat} {xs : Nat → Int32} {G : fw_G} (E0 : lw_E p l s m meth c b L xs G) {F : fw_F} {x y o i : Nat} {H : Heap} {locs : List Loc} {ls : Array Slot} {c1 n1 : Nat} {Q : State → Prop} (hi4 : 4 * i + 3 < L) (hc1 : c1 + 40 ≤ 875399) (hn1 : n1 + 4000 ≤ 6469906) (hR : lw_R G F x y o i) (hw : fw_S G (fun q : Nat => s.heap.size ≤ q) s F H locs) (hl : lv_has ls 7 [(4, .int (nI (4 * i))), (0, .ref b), (1, .ref x), (2, .ref y), (3, .ref o)])
    (K : ∀ (F : fw_F) (H : Heap) (locs : List Loc) (ls : Array Slot), fw_S G (fun q : Nat => s.heap.size ≤ q) s F H locs → lw_R G F x y o (i + 1) → lv_has ls 7 [(4, .int (nI (4 * i))), (0, .ref b), (1, .ref x), (2, .ref y), (3, .ref o)] → W p l e room_1 s m #[Value.ref b] below meth c H locs (c1 + 40) (n1 + 4000) Q (F0 m 1334 ls [])) : W p l e room_1 s m #[Value.ref b] below meth c H locs (c1) (n1) Q (F0 m 489 ls []) := by
  obtain ⟨hx, hb, hml, hown, hT9, hz, hcx, hnc, hl9, hXs, hbl, hL⟩ := E0
  have hT := hT9
  have C : CallFix p m c code 7 s #[Value.ref b] fw_tb RL := ⟨hx, hb, hml, hown, hT⟩
  have hbA : ¬ (fun q : Nat => s.heap.size ≤ q) b := Nat.not_le.mpr hbl
  obtain ⟨ad, sc, f, g0, nC, nT, nO, nJ, nD, T, hmW, ho, hT200, hCL, hPU, hMS⟩ := hR
  have hCL9 := hCL
  obtain ⟨lc, lt, lo, lm, lw, dr, ds, dfr, ca, ta, sl, fr, oa, tr, ml, ma, ja, da, wj, sa, ms, nW, hX, hC, hT1, hTr, hO1, hK, hI, hZ, hD, htr⟩ := hCL9
  have hC9 := hC
  obtain ⟨hc10, ⟨arc, hLc⟩, hcs⟩ := hC9
  have hT9 := hT1
  obtain ⟨ht8, at9, hLt⟩ := hT9
  have hO9 := hO1
  obtain ⟨ho12, ao9, hLo⟩ := hO9
  have hK9 := hK
  obtain ⟨-, ⟨hnW, ⟨aw9, hLw⟩, -⟩, -, -⟩ := hK9
  have hD9 := hD
  obtain ⟨hd4, hD1, ⟨ad9, hD2⟩, hD3, hD4⟩ := hD9
  have hd2 := rf_dp_ok hPU.2.2.2.2.2.2.2.2 (w := 2) (Or.inr rfl) nD (Nat.le_refl _)
  have hd1 := rf_dp_ok hPU.2.2.2.2.2.2.2.2 (w := 1) (Or.inl rfl) nD (Nat.le_refl _)
  have h60 : 60 ^ nD ≤ 60 ^ 4 := Nat.pow_le_pow_right (by decide) hd4
  have hdg : 0 < cr_dg f nD := Nat.gcd_pos_of_pos_left _ hd2.1
  have hdu : rf_dp f 2 nD / cr_dg f nD ≤ 12960000 := Nat.le_trans (Nat.div_le_self _ _) (by omega)
  have hdv : rf_dp f 1 nD / cr_dg f nD ≤ 12960000 := Nat.le_trans (Nat.div_le_self _ _) (by omega)
  have hdv0 : 0 < rf_dp f 1 nD / cr_dg f nD := Nat.div_pos (Nat.le_of_dvd hd1.1 (Nat.gcd_dvd_right _ _)) hdg
  have hnW8 : nW ≤ 8 * nO := Nat.le_trans hI.row.nW hPU.2.2.2.2.2.2.2.1
  refine lv_aload_n hx hb dL_law_489 rfl (lv_at hl 2 rfl) ?_
  refine lv_aload_n hx hb dL_law_490 rfl (lv_at hl 1 rfl) ?_
  refine lv_iload hx hb dL_law_491 (lv_at hl 0 rfl) ?_
  refine lv_iconst (v := (nI 1)) hx hb dL_law_493 (by decide) ?_
  refine lv_iadd hx hb dL_law_494 ?_
  refine fw_top (nI_add _ _) ?_
  refine va_sld hx hb hXs hbl hbA hw.2.1 (vp_in_nI (show (4 * i) + 1 < L by omega) (by omega)) dL_law_495 ?_
  rw [nI_clamp (show (4 * i) + 1 < 2 ^ 31 by omega)]
  refine lv_aload_n hx hb dL_law_496 rfl (lv_at hl 4 rfl) ?_
  refine fw_calli (fw_runSW (As := [.ref x, .int (xs ((4 * i) + 1)), .ref o]) (rest := []) C hz hcx hnc hw (c_L_denominator l G _ _ x o _ _ g0 (xs ((4 * i) + 1)) _ _ hX ho (fun z => c_X8_denominator l G F z x lc lt lo lm lw dr (nI T) ta sl fr sa f nT (xs ((4 * i) + 1)) hl9 hX hT1 hTr) (fun E h => h.1) (fun v F2 h => (show fw_kp F F2 (fun t => t.1 < 60) from wr_si h.1) _ _ _ ho (by decide))) (fw_cwSW (n := 3) hT wd_461 wd_462 wd_0 wd_463 (by decide +kernel) rfl rfl ⟨Nat.le_of_ble_eq_true rfl, Nat.le_of_ble_eq_true rfl⟩) rfl hl.1 rfl (Nat.le_of_ble_eq_true rfl) dL_law_497 ⟨by show c1 + 1 ≤ 875399; omega, by show n1 + 6 ≤ 6469906; omega⟩) hw (fun r F1 H locs hw hp => ?_)
  refine W.widen (k := c1 + 40) (n := n1 + 4000) (by omega) (by omega) ?_
  have hkF : fw_kp F F1 (fun t => t.1 ≤ 60) := by
    rcases hp with ⟨-, v, F2, h, hF1⟩ | ⟨hF1, -⟩
    · rw [hF1]
      have h60 : fw_kp F F2 (fun t => t.1 < 60) := wr_si h.1
      exact wr_k1 h60 (h60 _ _ _ ho (by decide))
    · rw [hF1]; exact fw_kp.rf
  have hm1 : mm_W G F1 y ad sc f := hmW.kp hkF (fun t h z => by omega)
  have hm : mm_M G (fun q : Nat => s.heap.size ≤ q) s F1 y ad sc f F1 H locs := ⟨hw, hm1, mm_keep.rf⟩
  refine lv_istore (lv' := [(5, .int r), (4, .int (nI (4 * i))), (0, .ref b), (1, .ref x), (2, .ref y), (3, .ref o)]) hx hb dL_law_500 hl (by decide) rfl (fun ls hl => ?_)
  refine lv_aload_n hx hb dL_law_502 rfl (lv_at hl 4 rfl) ?_
  refine lv_aload_n hx hb dL_law_503 rfl (lv_at hl 2 rfl) ?_
  refine lv_iload hx hb dL_law_504 (lv_at hl 1 rfl) ?_
  refine lv_iconst (v := (nI 1)) hx hb dL_law_506 (by decide) ?_
  refine lv_iadd hx hb dL_law_507 ?_
  refine fw_top (nI_add _ _) ?_
  refine va_sld hx hb hXs hbl hbA hw.2.1 (vp_in_nI (show (4 * i) + 1 < L by omega) (by omega)) dL_law_508 ?_
  rw [nI_clamp (show (4 * i) + 1 < 2 ^ 31 by omega)]
  refine mm_calli (As := [.int (xs ((4 * i) + 1))]) (rest := []) C hz hm (c_X9_denominator l G _ _ y ad _ _ nT (xs ((4 * i) + 1)) hm1 hMS.2.2.1 ht8 hPU.1) wd_863 yVX9_denominator ⟨Nat.le_of_ble_eq_true rfl, Nat.le_of_ble_eq_true rfl⟩ rfl hl.1 rfl (Nat.le_of_ble_eq_true rfl) dL_law_509 ⟨by show c1 + 40 + 0 ≤ 875399; omega, by show n1 + 4000 + 0 ≤ 6469906; omega⟩ (fun b9 sc1 f1 F4 H locs hm hP => ?_)
  refine W.widen (k := c1 + 40) (n := n1 + 4000) (Nat.le_refl _) (Nat.le_refl _) ?_
  refine lv_istore (lv' := [(6, .int b9), (5, .int r), (4, .int (nI (4 * i))), (0, .ref b), (1, .ref x), (2, .ref y), (3, .ref o)]) hx hb dL_law_512 hl (by decide) rfl (fun ls hl => ?_)
  refine lv_aload_n hx hb dL_law_514 rfl (lv_at hl 5 rfl) ?_
  refine mm_calli (As := []) (rest := []) C hz hm (c_X9_thrown l G _ _ y ad _ _ hm.2.1) wd_813 yVX9_thrown ⟨Nat.le_of_ble_eq_true rfl, Nat.le_of_ble_eq_true rfl⟩ rfl hl.1 rfl (Nat.le_of_ble_eq_true rfl) dL_law_515 ⟨by show c1 + 40 + 0 ≤ 875399; omega, by show n1 + 4000 + 0 ≤ 6469906; omega⟩ (fun t9 sc2 f2 F5 H locs hm ht => ?_)
  refine W.widen (k := c1 + 40) (n := n1 + 4000) (Nat.le_refl _) (Nat.le_refl _) ?_
  obtain ⟨hsc, hff, ht⟩ := ht
  rw [hsc, hff] at hm
  have hw := hm.1
  have hag : sc1 0 = r ∧ ∃ gv, F5 o = some ((60, 0, 0), fw_la (fw_cJ G) 1 gv) ∧ (r = nI 0 → gv 0 = b9.toInt64) ∧ lw_R G F5 x y o (i + 1) := by
    rcases hp with ⟨hr, v, F2, h, hF1⟩ | ⟨hF1, hp⟩
    · have h60 : fw_kp F F2 (fun t => t.1 < 60) := wr_si h.1
      have hoF2 := h60 _ _ _ ho (by decide)
      obtain ⟨j, hj, ej, hv0⟩ := h.2
      obtain ⟨hf, hs, hb⟩ := hP
      rw [ej, rf_ix_of (show nT ≤ 100 by omega) hj] at hs
      have hv : v = b9 := hv0.trans (hb j hj ej).symm
      have e0 : sc1 0 = nI 0 := by rw [hs]; rfl
      rw [hf] at hm
      obtain ⟨gv, q1, q2, q3⟩ := wr_a (w := b9.toInt64) hoF2 hF1 hm.2.2 hm.2.1 (congrArg Int32.toInt64 hv) (show T ≤ 200 * (i + 1) by omega) (by rw [h.1]; exact hCL) hPU (by rw [hs]; exact hMS)
      exact ⟨e0.trans hr.symm, gv, q1, fun _ => q2, q3⟩
    · rw [hF1] at hm
      obtain ⟨hE, hr⟩ := hp
      obtain ⟨-, hE⟩ := hE
      obtain ⟨hf, hs, hb⟩ := hP
      rw [hE] at hs
      have e0 : sc1 0 = nI 1 := by rw [hs]; rfl
      rw [hf] at hm
      obtain ⟨q1, q3⟩ := wr_b (i := i) ho hm.2.2 hm.2.1 (show T ≤ 200 * (i + 1) by omega) hCL hPU (by rw [hs]; exact hMS)
      exact ⟨e0.trans hr.symm, g0, q1, fun z => absurd (hr.symm.trans z) (by decide), q3⟩
  obtain ⟨hth, gv, hgo, hgv, hR5⟩ := hag
  rw [hth] at ht
  refine lv_iload hx hb dL_law_518 (lv_at hl 1 rfl) ?_
  refine lv_icmp_eq (tgt := 525) hx hb dL_law_520 (by decide) (fun cx => ?_) (fun cx => absurd cx (fun h => h ht))
  refine lv_iload hx hb dL_law_525 (lv_at hl 1 rfl) ?_
  refine lv_if_ne (tgt := 542) hx hb dL_law_527 (by decide) (fun d9 => ?_) (fun d9 => ?_)
  · refine lv_goto (tgt := 1334) hx hb dL_law_542 (by decide) ?_
    exact K _ _ _ _ hw hR5 (lv_sub hl [2, 3, 4, 5, 6] rfl)
  · have d9 : r = 0 := d9
    have hgv := hgv d9
    refine lv_aload_n hx hb dL_law_530 rfl (lv_at hl 6 rfl) ?_
    refine lv_iconst (v := (nI 0)) hx hb dL_law_531 (by decide) ?_
    refine fw_lald hx hb hz hw hgo (vp_in_nI (show 0 < 1 by decide) (by decide)) dL_law_532 ?_
    rw [show (nI 0).toNatClampNeg = 0 from nI_clamp (by decide), hgv]
    refine lv_iload hx hb dL_law_533 (lv_at hl 0 rfl) ?_
    refine lv_i2l (v := b9.toInt64) hx hb dL_law_535 rfl ?_
    refine W.lcmp hx hb dL_law_536 ?_
    rw [lg_cmp_self]
    refine lv_if_eq (tgt := 542) hx hb dL_law_537 (by decide) (fun cx => ?_) (fun cx => absurd cx (fun h => h rfl))
    refine lv_goto (tgt := 1334) hx hb dL_law_542 (by decide) ?_
    exact K _ _ _ _ hw hR5 (lv_sub hl [2, 3, 4, 5, 6] rfl)
set_option maxHeartbeats 4000000 in
set_option maxRecDepth 100000 in
theorem law_turned {p : Program} {l : Launch} {e : Env} {s : State} {m : MethodId} {below : List Frame} {meth : Method} {c : Code} {b L : Nat} {xs : Nat → Int32} {G : fw_G} (E0 : lw_E p l s m meth c b L xs G) {F : fw_F} {x y o i : Nat} {H : Heap} {locs : List Loc} {ls : Array Slot} {c1 n1 : Nat} {Q : State → Prop} (hi4 : 4 * i + 3 < L) (hc1 : c1 + 40 ≤ 875399) (hn1 : n1 + 4000 ≤ 6469906) (hR : lw_R G F x y o i) (hw : fw_S G (fun q : Nat => s.heap.size ≤ q) s F H locs) (hl : lv_has ls 7 [(4, .int (nI (4 * i))), (0, .ref b), (1, .ref x), (2, .ref y), (3, .ref o)])
    (K : ∀ (F : fw_F) (H : Heap) (locs : List Loc) (ls : Array Slot), fw_S G (fun q : Nat => s.heap.size ≤ q) s F H locs → lw_R G F x y o (i + 1) → lv_has ls 7 [(4, .int (nI (4 * i))), (0, .ref b), (1, .ref x), (2, .ref y), (3, .ref o)] → W p l e room_1 s m #[Value.ref b] below meth c H locs (c1 + 40) (n1 + 4000) Q (F0 m 1334 ls [])) : W p l e room_1 s m #[Value.ref b] below meth c H locs (c1) (n1) Q (F0 m 545 ls []) := by
  obtain ⟨hx, hb, hml, hown, hT9, hz, hcx, hnc, hl9, hXs, hbl, hL⟩ := E0
  have hT := hT9
  have C : CallFix p m c code 7 s #[Value.ref b] fw_tb RL := ⟨hx, hb, hml, hown, hT⟩
  have hbA : ¬ (fun q : Nat => s.heap.size ≤ q) b := Nat.not_le.mpr hbl
  obtain ⟨ad, sc, f, g0, nC, nT, nO, nJ, nD, T, hmW, ho, hT200, hCL, hPU, hMS⟩ := hR
  have hCL9 := hCL
  obtain ⟨lc, lt, lo, lm, lw, dr, ds, dfr, ca, ta, sl, fr, oa, tr, ml, ma, ja, da, wj, sa, ms, nW, hX, hC, hT1, hTr, hO1, hK, hI, hZ, hD, htr⟩ := hCL9
  have hC9 := hC
  obtain ⟨hc10, ⟨arc, hLc⟩, hcs⟩ := hC9
  have hT9 := hT1
  obtain ⟨ht8, at9, hLt⟩ := hT9
  have hO9 := hO1
  obtain ⟨ho12, ao9, hLo⟩ := hO9
  have hK9 := hK
  obtain ⟨-, ⟨hnW, ⟨aw9, hLw⟩, -⟩, -, -⟩ := hK9
  have hD9 := hD
  obtain ⟨hd4, hD1, ⟨ad9, hD2⟩, hD3, hD4⟩ := hD9
  have hd2 := rf_dp_ok hPU.2.2.2.2.2.2.2.2 (w := 2) (Or.inr rfl) nD (Nat.le_refl _)
  have hd1 := rf_dp_ok hPU.2.2.2.2.2.2.2.2 (w := 1) (Or.inl rfl) nD (Nat.le_refl _)
  have h60 : 60 ^ nD ≤ 60 ^ 4 := Nat.pow_le_pow_right (by decide) hd4
  have hdg : 0 < cr_dg f nD := Nat.gcd_pos_of_pos_left _ hd2.1
  have hdu : rf_dp f 2 nD / cr_dg f nD ≤ 12960000 := Nat.le_trans (Nat.div_le_self _ _) (by omega)
  have hdv : rf_dp f 1 nD / cr_dg f nD ≤ 12960000 := Nat.le_trans (Nat.div_le_self _ _) (by omega)
  have hdv0 : 0 < rf_dp f 1 nD / cr_dg f nD := Nat.div_pos (Nat.le_of_dvd hd1.1 (Nat.gcd_dvd_right _ _)) hdg
  have hnW8 : nW ≤ 8 * nO := Nat.le_trans hI.row.nW hPU.2.2.2.2.2.2.2.1
  refine lv_aload_n hx hb dL_law_545 rfl (lv_at hl 2 rfl) ?_
  refine lv_aload_n hx hb dL_law_546 rfl (lv_at hl 1 rfl) ?_
  refine lv_iload hx hb dL_law_547 (lv_at hl 0 rfl) ?_
  refine lv_iconst (v := (nI 1)) hx hb dL_law_549 (by decide) ?_
  refine lv_iadd hx hb dL_law_550 ?_
  refine fw_top (nI_add _ _) ?_
  refine va_sld hx hb hXs hbl hbA hw.2.1 (vp_in_nI (show (4 * i) + 1 < L by omega) (by omega)) dL_law_551 ?_
  rw [nI_clamp (show (4 * i) + 1 < 2 ^ 31 by omega)]
  refine lv_aload_n hx hb dL_law_552 rfl (lv_at hl 1 rfl) ?_
  refine lv_iload hx hb dL_law_553 (lv_at hl 0 rfl) ?_
  refine lv_iconst (v := (nI 2)) hx hb dL_law_555 (by decide) ?_
  refine lv_iadd hx hb dL_law_556 ?_
  refine fw_top (nI_add _ _) ?_
  refine va_sld hx hb hXs hbl hbA hw.2.1 (vp_in_nI (show (4 * i) + 2 < L by omega) (by omega)) dL_law_557 ?_
  rw [nI_clamp (show (4 * i) + 2 < 2 ^ 31 by omega)]
  refine lv_aload_n hx hb dL_law_558 rfl (lv_at hl 4 rfl) ?_
  refine fw_calli (fw_runSW (As := [.ref x, .int (xs ((4 * i) + 1)), .int (xs ((4 * i) + 2)), .ref o]) (rest := []) C hz hcx hnc hw (c_L_turned l G _ _ x o _ _ g0 (xs ((4 * i) + 1)) (xs ((4 * i) + 2)) _ _ hX ho (fun z => c_X8_turned l G F z x lc lt lo lm lw dr (nI T) ta sl fr sa f nT (xs ((4 * i) + 1)) (xs ((4 * i) + 2)) hl9 hX hT1 hTr hPU.1) (fun E h => h.elim (fun h => Or.inl h.1) (fun h => Or.inr h.1)) (fun v F2 h => (show fw_kp F F2 (fun t => t.1 < 60) from (h.2.wk (fun t z => by omega))) _ _ _ ho (by decide))) (fw_cwSW (n := 4) hT wd_468 wd_469 wd_0 wd_470 (by decide +kernel) rfl rfl ⟨Nat.le_of_ble_eq_true rfl, Nat.le_of_ble_eq_true rfl⟩) rfl hl.1 rfl (Nat.le_of_ble_eq_true rfl) dL_law_559 ⟨by show c1 + 3 ≤ 875399; omega, by show n1 + 14 ≤ 6469906; omega⟩) hw (fun r F1 H locs hw hp => ?_)
  refine W.widen (k := c1 + 40) (n := n1 + 4000) (by omega) (by omega) ?_
  have hkF : fw_kp F F1 (fun t => t.1 ≤ 60) := by
    rcases hp with ⟨-, v, F2, h, hF1⟩ | ⟨hF1, -⟩
    · rw [hF1]
      have h60 : fw_kp F F2 (fun t => t.1 < 60) := (h.2.wk (fun t z => by omega))
      exact wr_k1 h60 (h60 _ _ _ ho (by decide))
    · rw [hF1]; exact fw_kp.rf
  have hm1 : mm_W G F1 y ad sc f := hmW.kp hkF (fun t h z => by omega)
  have hm : mm_M G (fun q : Nat => s.heap.size ≤ q) s F1 y ad sc f F1 H locs := ⟨hw, hm1, mm_keep.rf⟩
  refine lv_istore (lv' := [(5, .int r), (4, .int (nI (4 * i))), (0, .ref b), (1, .ref x), (2, .ref y), (3, .ref o)]) hx hb dL_law_562 hl (by decide) rfl (fun ls hl => ?_)
  refine lv_aload_n hx hb dL_law_564 rfl (lv_at hl 4 rfl) ?_
  refine lv_aload_n hx hb dL_law_565 rfl (lv_at hl 2 rfl) ?_
  refine lv_iload hx hb dL_law_566 (lv_at hl 1 rfl) ?_
  refine lv_iconst (v := (nI 1)) hx hb dL_law_568 (by decide) ?_
  refine lv_iadd hx hb dL_law_569 ?_
  refine fw_top (nI_add _ _) ?_
  refine va_sld hx hb hXs hbl hbA hw.2.1 (vp_in_nI (show (4 * i) + 1 < L by omega) (by omega)) dL_law_570 ?_
  rw [nI_clamp (show (4 * i) + 1 < 2 ^ 31 by omega)]
  refine lv_aload_n hx hb dL_law_571 rfl (lv_at hl 2 rfl) ?_
  refine lv_iload hx hb dL_law_572 (lv_at hl 1 rfl) ?_
  refine lv_iconst (v := (nI 2)) hx hb dL_law_574 (by decide) ?_
  refine lv_iadd hx hb dL_law_575 ?_
  refine fw_top (nI_add _ _) ?_
  refine va_sld hx hb hXs hbl hbA hw.2.1 (vp_in_nI (show (4 * i) + 2 < L by omega) (by omega)) dL_law_576 ?_
  rw [nI_clamp (show (4 * i) + 2 < 2 ^ 31 by omega)]
  refine mm_calli (As := [.int (xs ((4 * i) + 1)), .int (xs ((4 * i) + 2))]) (rest := []) C hz hm (c_X9_turned l G _ _ y ad _ _ nT (xs ((4 * i) + 1)) (xs ((4 * i) + 2)) hm1 hMS.2.2.1 ht8 hPU.1) wd_867 yVX9_turned ⟨Nat.le_of_ble_eq_true rfl, Nat.le_of_ble_eq_true rfl⟩ rfl hl.1 rfl (Nat.le_of_ble_eq_true rfl) dL_law_577 ⟨by show c1 + 40 + 0 ≤ 875399; omega, by show n1 + 4000 + 0 ≤ 6469906; omega⟩ (fun b9 sc1 f1 F4 H locs hm hP => ?_)
  refine W.widen (k := c1 + 40) (n := n1 + 4000) (Nat.le_refl _) (Nat.le_refl _) ?_
  refine lv_istore (lv' := [(6, .int b9), (5, .int r), (4, .int (nI (4 * i))), (0, .ref b), (1, .ref x), (2, .ref y), (3, .ref o)]) hx hb dL_law_580 hl (by decide) rfl (fun ls hl => ?_)
  refine lv_aload_n hx hb dL_law_582 rfl (lv_at hl 5 rfl) ?_
  refine mm_calli (As := []) (rest := []) C hz hm (c_X9_thrown l G _ _ y ad _ _ hm.2.1) wd_813 yVX9_thrown ⟨Nat.le_of_ble_eq_true rfl, Nat.le_of_ble_eq_true rfl⟩ rfl hl.1 rfl (Nat.le_of_ble_eq_true rfl) dL_law_583 ⟨by show c1 + 40 + 0 ≤ 875399; omega, by show n1 + 4000 + 0 ≤ 6469906; omega⟩ (fun t9 sc2 f2 F5 H locs hm ht => ?_)
  refine W.widen (k := c1 + 40) (n := n1 + 4000) (Nat.le_refl _) (Nat.le_refl _) ?_
  obtain ⟨hsc, hff, ht⟩ := ht
  rw [hsc, hff] at hm
  have hw := hm.1
  have hag : sc1 0 = r ∧ ∃ gv, F5 o = some ((60, 0, 0), fw_la (fw_cJ G) 1 gv) ∧ (r = nI 0 → gv 0 = b9.toInt64) ∧ lw_R G F5 x y o (i + 1) := by
    rcases hp with ⟨hr, v, F2, h, hF1⟩ | ⟨hF1, hp⟩
    · have h60 : fw_kp F F2 (fun t => t.1 < 60) := (h.2.wk (fun t z => by omega))
      have hoF2 := h60 _ _ _ ho (by decide)
      obtain ⟨⟨j, i9, hj, ej, hi9, ei, hv0⟩, hk40⟩ := h
      obtain ⟨hf, -, -, hb⟩ := hP
      obtain ⟨hs, hb⟩ := hb j i9 hj ej hi9 ei
      have hv : v = b9 := hv0.trans hb.symm
      have e0 : sc1 0 = nI 0 := by rw [hs]; rfl
      rw [hf] at hm
      obtain ⟨gv, q1, q2, q3⟩ := wr_a (w := b9.toInt64) hoF2 hF1 hm.2.2 hm.2.1 (congrArg Int32.toInt64 hv) (show T ≤ 200 * (i + 1) by omega) (hCL.kp (hk40.wk (fun t z => Or.inr z))) hPU (by rw [hs]; exact hMS)
      exact ⟨e0.trans hr.symm, gv, q1, fun _ => q2, q3⟩
    · rw [hF1] at hm
      rcases hp with ⟨hE, hr⟩ | ⟨hE, hr⟩
      · rcases hE with ⟨q9, hE⟩ | ⟨q9, hE⟩
        · have hf := hP.1
          have hs := hP.2.1 hE
          have e0 : sc1 0 = nI 1 := by rw [hs]; rfl
          rw [hf] at hm
          obtain ⟨q1, q3⟩ := wr_b (i := i) ho hm.2.2 hm.2.1 (show T ≤ 200 * (i + 1) by omega) hCL hPU (by rw [hs]; exact hMS)
          exact ⟨e0.trans hr.symm, g0, q1, fun z => absurd (hr.symm.trans z) (by decide), q3⟩
        · exact absurd q9 (by decide)
      · rcases hE with ⟨q9, hE⟩ | ⟨q9, hE⟩
        · exact absurd q9 (by decide)
        · have hf := hP.1
          have hs := hP.2.2.1 hE.1 hE.2
          have e0 : sc1 0 = nI 2 := by rw [hs]; rfl
          rw [hf] at hm
          obtain ⟨q1, q3⟩ := wr_b (i := i) ho hm.2.2 hm.2.1 (show T ≤ 200 * (i + 1) by omega) hCL hPU (by rw [hs]; exact hMS)
          exact ⟨e0.trans hr.symm, g0, q1, fun z => absurd (hr.symm.trans z) (by decide), q3⟩
  obtain ⟨hth, gv, hgo, hgv, hR5⟩ := hag
  rw [hth] at ht
  refine lv_iload hx hb dL_law_586 (lv_at hl 1 rfl) ?_
  refine lv_icmp_eq (tgt := 593) hx hb dL_law_588 (by decide) (fun cx => ?_) (fun cx => absurd cx (fun h => h ht))
  refine lv_iload hx hb dL_law_593 (lv_at hl 1 rfl) ?_
  refine lv_if_ne (tgt := 610) hx hb dL_law_595 (by decide) (fun d9 => ?_) (fun d9 => ?_)
  · refine lv_goto (tgt := 1334) hx hb dL_law_610 (by decide) ?_
    exact K _ _ _ _ hw hR5 (lv_sub hl [2, 3, 4, 5, 6] rfl)
  · have d9 : r = 0 := d9
    have hgv := hgv d9
    refine lv_aload_n hx hb dL_law_598 rfl (lv_at hl 6 rfl) ?_
    refine lv_iconst (v := (nI 0)) hx hb dL_law_599 (by decide) ?_
    refine fw_lald hx hb hz hw hgo (vp_in_nI (show 0 < 1 by decide) (by decide)) dL_law_600 ?_
    rw [show (nI 0).toNatClampNeg = 0 from nI_clamp (by decide), hgv]
    refine lv_iload hx hb dL_law_601 (lv_at hl 0 rfl) ?_
    refine lv_i2l (v := b9.toInt64) hx hb dL_law_603 rfl ?_
    refine W.lcmp hx hb dL_law_604 ?_
    rw [lg_cmp_self]
    refine lv_if_eq (tgt := 610) hx hb dL_law_605 (by decide) (fun cx => ?_) (fun cx => absurd cx (fun h => h rfl))
    refine lv_goto (tgt := 1334) hx hb dL_law_610 (by decide) ?_
    exact K _ _ _ _ hw hR5 (lv_sub hl [2, 3, 4, 5, 6] rfl)
set_option maxHeartbeats 4000000 in
set_option maxRecDepth 100000 in
theorem law_turnedByWalk {p : Program} {l : Launch} {e : Env} {s : State} {m : MethodId} {below : List Frame} {meth : Method} {c : Code} {b L : Nat} {xs : Nat → Int32} {G : fw_G} (E0 : lw_E p l s m meth c b L xs G) {F : fw_F} {x y o i : Nat} {H : Heap} {locs : List Loc} {ls : Array Slot} {c1 n1 : Nat} {Q : State → Prop} (hi4 : 4 * i + 3 < L) (hc1 : c1 + 40 ≤ 875399) (hn1 : n1 + 4000 ≤ 6469906) (hR : lw_R G F x y o i) (hw : fw_S G (fun q : Nat => s.heap.size ≤ q) s F H locs) (hl : lv_has ls 7 [(4, .int (nI (4 * i))), (0, .ref b), (1, .ref x), (2, .ref y), (3, .ref o)])
    (K : ∀ (F : fw_F) (H : Heap) (locs : List Loc) (ls : Array Slot), fw_S G (fun q : Nat => s.heap.size ≤ q) s F H locs → lw_R G F x y o (i + 1) → lv_has ls 7 [(4, .int (nI (4 * i))), (0, .ref b), (1, .ref x), (2, .ref y), (3, .ref o)] → W p l e room_1 s m #[Value.ref b] below meth c H locs (c1 + 40) (n1 + 4000) Q (F0 m 1334 ls [])) : W p l e room_1 s m #[Value.ref b] below meth c H locs (c1) (n1) Q (F0 m 613 ls []) := by
  obtain ⟨hx, hb, hml, hown, hT9, hz, hcx, hnc, hl9, hXs, hbl, hL⟩ := E0
  have hT := hT9
  have C : CallFix p m c code 7 s #[Value.ref b] fw_tb RL := ⟨hx, hb, hml, hown, hT⟩
  have hbA : ¬ (fun q : Nat => s.heap.size ≤ q) b := Nat.not_le.mpr hbl
  obtain ⟨ad, sc, f, g0, nC, nT, nO, nJ, nD, T, hmW, ho, hT200, hCL, hPU, hMS⟩ := hR
  have hCL9 := hCL
  obtain ⟨lc, lt, lo, lm, lw, dr, ds, dfr, ca, ta, sl, fr, oa, tr, ml, ma, ja, da, wj, sa, ms, nW, hX, hC, hT1, hTr, hO1, hK, hI, hZ, hD, htr⟩ := hCL9
  have hC9 := hC
  obtain ⟨hc10, ⟨arc, hLc⟩, hcs⟩ := hC9
  have hT9 := hT1
  obtain ⟨ht8, at9, hLt⟩ := hT9
  have hO9 := hO1
  obtain ⟨ho12, ao9, hLo⟩ := hO9
  have hK9 := hK
  obtain ⟨-, ⟨hnW, ⟨aw9, hLw⟩, -⟩, -, -⟩ := hK9
  have hD9 := hD
  obtain ⟨hd4, hD1, ⟨ad9, hD2⟩, hD3, hD4⟩ := hD9
  have hd2 := rf_dp_ok hPU.2.2.2.2.2.2.2.2 (w := 2) (Or.inr rfl) nD (Nat.le_refl _)
  have hd1 := rf_dp_ok hPU.2.2.2.2.2.2.2.2 (w := 1) (Or.inl rfl) nD (Nat.le_refl _)
  have h60 : 60 ^ nD ≤ 60 ^ 4 := Nat.pow_le_pow_right (by decide) hd4
  have hdg : 0 < cr_dg f nD := Nat.gcd_pos_of_pos_left _ hd2.1
  have hdu : rf_dp f 2 nD / cr_dg f nD ≤ 12960000 := Nat.le_trans (Nat.div_le_self _ _) (by omega)
  have hdv : rf_dp f 1 nD / cr_dg f nD ≤ 12960000 := Nat.le_trans (Nat.div_le_self _ _) (by omega)
  have hdv0 : 0 < rf_dp f 1 nD / cr_dg f nD := Nat.div_pos (Nat.le_of_dvd hd1.1 (Nat.gcd_dvd_right _ _)) hdg
  have hnW8 : nW ≤ 8 * nO := Nat.le_trans hI.row.nW hPU.2.2.2.2.2.2.2.1
  refine lv_aload_n hx hb dL_law_613 rfl (lv_at hl 2 rfl) ?_
  refine lv_aload_n hx hb dL_law_614 rfl (lv_at hl 1 rfl) ?_
  refine lv_iload hx hb dL_law_615 (lv_at hl 0 rfl) ?_
  refine lv_iconst (v := (nI 1)) hx hb dL_law_617 (by decide) ?_
  refine lv_iadd hx hb dL_law_618 ?_
  refine fw_top (nI_add _ _) ?_
  refine va_sld hx hb hXs hbl hbA hw.2.1 (vp_in_nI (show (4 * i) + 1 < L by omega) (by omega)) dL_law_619 ?_
  rw [nI_clamp (show (4 * i) + 1 < 2 ^ 31 by omega)]
  refine lv_aload_n hx hb dL_law_620 rfl (lv_at hl 1 rfl) ?_
  refine lv_iload hx hb dL_law_621 (lv_at hl 0 rfl) ?_
  refine lv_iconst (v := (nI 2)) hx hb dL_law_623 (by decide) ?_
  refine lv_iadd hx hb dL_law_624 ?_
  refine fw_top (nI_add _ _) ?_
  refine va_sld hx hb hXs hbl hbA hw.2.1 (vp_in_nI (show (4 * i) + 2 < L by omega) (by omega)) dL_law_625 ?_
  rw [nI_clamp (show (4 * i) + 2 < 2 ^ 31 by omega)]
  refine lv_aload_n hx hb dL_law_626 rfl (lv_at hl 4 rfl) ?_
  refine fw_calli (fw_runSW (As := [.ref x, .int (xs ((4 * i) + 1)), .int (xs ((4 * i) + 2)), .ref o]) (rest := []) C hz hcx hnc hw (c_L_turnedByWalk l G _ _ x o _ _ g0 (xs ((4 * i) + 1)) (xs ((4 * i) + 2)) _ _ hX ho (fun z => c_X8_turnedByWalk l G F z x lc lt lo lm lw dr (nI T) ta sl fr sa f nT (xs ((4 * i) + 1)) (xs ((4 * i) + 2)) hl9 hX hT1 hTr hPU.1) (fun E h => h.elim (fun h => Or.inl h.1) (fun h => Or.inr h.1)) (fun v F2 h => (show fw_kp F F2 (fun t => t.1 < 60) from (h.2.wk (fun t z => by omega))) _ _ _ ho (by decide))) (fw_cwSW (n := 4) hT wd_487 wd_488 wd_0 wd_489 (by decide +kernel) rfl rfl ⟨Nat.le_of_ble_eq_true rfl, Nat.le_of_ble_eq_true rfl⟩) rfl hl.1 rfl (Nat.le_of_ble_eq_true rfl) dL_law_627 ⟨by show c1 + 3 ≤ 875399; omega, by show n1 + 14 ≤ 6469906; omega⟩) hw (fun r F1 H locs hw hp => ?_)
  refine W.widen (k := c1 + 40) (n := n1 + 4000) (by omega) (by omega) ?_
  have hkF : fw_kp F F1 (fun t => t.1 ≤ 60) := by
    rcases hp with ⟨-, v, F2, h, hF1⟩ | ⟨hF1, -⟩
    · rw [hF1]
      have h60 : fw_kp F F2 (fun t => t.1 < 60) := (h.2.wk (fun t z => by omega))
      exact wr_k1 h60 (h60 _ _ _ ho (by decide))
    · rw [hF1]; exact fw_kp.rf
  have hm1 : mm_W G F1 y ad sc f := hmW.kp hkF (fun t h z => by omega)
  have hm : mm_M G (fun q : Nat => s.heap.size ≤ q) s F1 y ad sc f F1 H locs := ⟨hw, hm1, mm_keep.rf⟩
  refine lv_istore (lv' := [(5, .int r), (4, .int (nI (4 * i))), (0, .ref b), (1, .ref x), (2, .ref y), (3, .ref o)]) hx hb dL_law_630 hl (by decide) rfl (fun ls hl => ?_)
  refine lv_aload_n hx hb dL_law_632 rfl (lv_at hl 4 rfl) ?_
  refine lv_aload_n hx hb dL_law_633 rfl (lv_at hl 2 rfl) ?_
  refine lv_iload hx hb dL_law_634 (lv_at hl 1 rfl) ?_
  refine lv_iconst (v := (nI 1)) hx hb dL_law_636 (by decide) ?_
  refine lv_iadd hx hb dL_law_637 ?_
  refine fw_top (nI_add _ _) ?_
  refine va_sld hx hb hXs hbl hbA hw.2.1 (vp_in_nI (show (4 * i) + 1 < L by omega) (by omega)) dL_law_638 ?_
  rw [nI_clamp (show (4 * i) + 1 < 2 ^ 31 by omega)]
  refine lv_aload_n hx hb dL_law_639 rfl (lv_at hl 2 rfl) ?_
  refine lv_iload hx hb dL_law_640 (lv_at hl 1 rfl) ?_
  refine lv_iconst (v := (nI 2)) hx hb dL_law_642 (by decide) ?_
  refine lv_iadd hx hb dL_law_643 ?_
  refine fw_top (nI_add _ _) ?_
  refine va_sld hx hb hXs hbl hbA hw.2.1 (vp_in_nI (show (4 * i) + 2 < L by omega) (by omega)) dL_law_644 ?_
  rw [nI_clamp (show (4 * i) + 2 < 2 ^ 31 by omega)]
  refine mm_calli (As := [.int (xs ((4 * i) + 1)), .int (xs ((4 * i) + 2))]) (rest := []) C hz hm (c_X9_turnedByWalk l G _ _ y ad _ _ nT (xs ((4 * i) + 1)) (xs ((4 * i) + 2)) hm1 hMS.2.2.1 ht8 hPU.1) wd_872 yVX9_turnedByWalk ⟨Nat.le_of_ble_eq_true rfl, Nat.le_of_ble_eq_true rfl⟩ rfl hl.1 rfl (Nat.le_of_ble_eq_true rfl) dL_law_645 ⟨by show c1 + 40 + 0 ≤ 875399; omega, by show n1 + 4000 + 0 ≤ 6469906; omega⟩ (fun b9 sc1 f1 F4 H locs hm hP => ?_)
  refine W.widen (k := c1 + 40) (n := n1 + 4000) (Nat.le_refl _) (Nat.le_refl _) ?_
  refine lv_istore (lv' := [(6, .int b9), (5, .int r), (4, .int (nI (4 * i))), (0, .ref b), (1, .ref x), (2, .ref y), (3, .ref o)]) hx hb dL_law_648 hl (by decide) rfl (fun ls hl => ?_)
  refine lv_aload_n hx hb dL_law_650 rfl (lv_at hl 5 rfl) ?_
  refine mm_calli (As := []) (rest := []) C hz hm (c_X9_thrown l G _ _ y ad _ _ hm.2.1) wd_813 yVX9_thrown ⟨Nat.le_of_ble_eq_true rfl, Nat.le_of_ble_eq_true rfl⟩ rfl hl.1 rfl (Nat.le_of_ble_eq_true rfl) dL_law_651 ⟨by show c1 + 40 + 0 ≤ 875399; omega, by show n1 + 4000 + 0 ≤ 6469906; omega⟩ (fun t9 sc2 f2 F5 H locs hm ht => ?_)
  refine W.widen (k := c1 + 40) (n := n1 + 4000) (Nat.le_refl _) (Nat.le_refl _) ?_
  obtain ⟨hsc, hff, ht⟩ := ht
  rw [hsc, hff] at hm
  have hw := hm.1
  have hag : sc1 0 = r ∧ ∃ gv, F5 o = some ((60, 0, 0), fw_la (fw_cJ G) 1 gv) ∧ (r = nI 0 → gv 0 = b9.toInt64) ∧ lw_R G F5 x y o (i + 1) := by
    rcases hp with ⟨hr, v, F2, h, hF1⟩ | ⟨hF1, hp⟩
    · have h60 : fw_kp F F2 (fun t => t.1 < 60) := (h.2.wk (fun t z => by omega))
      have hoF2 := h60 _ _ _ ho (by decide)
      obtain ⟨⟨j, i9, hj, ej, hi9, ei, hv0⟩, hk40⟩ := h
      obtain ⟨hf, -, -, hb⟩ := hP
      obtain ⟨hs, hb⟩ := hb j i9 hj ej hi9 ei
      have hv : v = b9 := hv0.trans hb.symm
      have e0 : sc1 0 = nI 0 := by rw [hs]; rfl
      rw [hf] at hm
      obtain ⟨gv, q1, q2, q3⟩ := wr_a (w := b9.toInt64) hoF2 hF1 hm.2.2 hm.2.1 (congrArg Int32.toInt64 hv) (show T ≤ 200 * (i + 1) by omega) (hCL.kp (hk40.wk (fun t z => Or.inr z))) hPU (by rw [hs]; exact hMS)
      exact ⟨e0.trans hr.symm, gv, q1, fun _ => q2, q3⟩
    · rw [hF1] at hm
      rcases hp with ⟨hE, hr⟩ | ⟨hE, hr⟩
      · rcases hE with ⟨q9, hE⟩ | ⟨q9, hE⟩
        · have hf := hP.1
          have hs := hP.2.1 hE
          have e0 : sc1 0 = nI 1 := by rw [hs]; rfl
          rw [hf] at hm
          obtain ⟨q1, q3⟩ := wr_b (i := i) ho hm.2.2 hm.2.1 (show T ≤ 200 * (i + 1) by omega) hCL hPU (by rw [hs]; exact hMS)
          exact ⟨e0.trans hr.symm, g0, q1, fun z => absurd (hr.symm.trans z) (by decide), q3⟩
        · exact absurd q9 (by decide)
      · rcases hE with ⟨q9, hE⟩ | ⟨q9, hE⟩
        · exact absurd q9 (by decide)
        · have hf := hP.1
          have hs := hP.2.2.1 hE.1 hE.2
          have e0 : sc1 0 = nI 2 := by rw [hs]; rfl
          rw [hf] at hm
          obtain ⟨q1, q3⟩ := wr_b (i := i) ho hm.2.2 hm.2.1 (show T ≤ 200 * (i + 1) by omega) hCL hPU (by rw [hs]; exact hMS)
          exact ⟨e0.trans hr.symm, g0, q1, fun z => absurd (hr.symm.trans z) (by decide), q3⟩
  obtain ⟨hth, gv, hgo, hgv, hR5⟩ := hag
  rw [hth] at ht
  refine lv_iload hx hb dL_law_654 (lv_at hl 1 rfl) ?_
  refine lv_icmp_eq (tgt := 661) hx hb dL_law_656 (by decide) (fun cx => ?_) (fun cx => absurd cx (fun h => h ht))
  refine lv_iload hx hb dL_law_661 (lv_at hl 1 rfl) ?_
  refine lv_if_ne (tgt := 678) hx hb dL_law_663 (by decide) (fun d9 => ?_) (fun d9 => ?_)
  · refine lv_goto (tgt := 1334) hx hb dL_law_678 (by decide) ?_
    exact K _ _ _ _ hw hR5 (lv_sub hl [2, 3, 4, 5, 6] rfl)
  · have d9 : r = 0 := d9
    have hgv := hgv d9
    refine lv_aload_n hx hb dL_law_666 rfl (lv_at hl 6 rfl) ?_
    refine lv_iconst (v := (nI 0)) hx hb dL_law_667 (by decide) ?_
    refine fw_lald hx hb hz hw hgo (vp_in_nI (show 0 < 1 by decide) (by decide)) dL_law_668 ?_
    rw [show (nI 0).toNatClampNeg = 0 from nI_clamp (by decide), hgv]
    refine lv_iload hx hb dL_law_669 (lv_at hl 0 rfl) ?_
    refine lv_i2l (v := b9.toInt64) hx hb dL_law_671 rfl ?_
    refine W.lcmp hx hb dL_law_672 ?_
    rw [lg_cmp_self]
    refine lv_if_eq (tgt := 678) hx hb dL_law_673 (by decide) (fun cx => ?_) (fun cx => absurd cx (fun h => h rfl))
    refine lv_goto (tgt := 1334) hx hb dL_law_678 (by decide) ?_
    exact K _ _ _ _ hw hR5 (lv_sub hl [2, 3, 4, 5, 6] rfl)
set_option maxHeartbeats 4000000 in
set_option maxRecDepth 100000 in
theorem law_order {p : Program} {l : Launch} {e : Env} {s : State} {m : MethodId} {below : List Frame} {meth : Method} {c : Code} {b L : Nat} {xs : Nat → Int32} {G : fw_G} (E0 : lw_E p l s m meth c b L xs G) {F : fw_F} {x y o i : Nat} {H : Heap} {locs : List Loc} {ls : Array Slot} {c1 n1 : Nat} {Q : State → Prop} (hi4 : 4 * i + 3 < L) (hc1 : c1 + 40 ≤ 875399) (hn1 : n1 + 4000 ≤ 6469906) (hR : lw_R G F x y o i) (hw : fw_S G (fun q : Nat => s.heap.size ≤ q) s F H locs) (hl : lv_has ls 7 [(4, .int (nI (4 * i))), (0, .ref b), (1, .ref x), (2, .ref y), (3, .ref o)])
    (K : ∀ (F : fw_F) (H : Heap) (locs : List Loc) (ls : Array Slot), fw_S G (fun q : Nat => s.heap.size ≤ q) s F H locs → lw_R G F x y o (i + 1) → lv_has ls 7 [(4, .int (nI (4 * i))), (0, .ref b), (1, .ref x), (2, .ref y), (3, .ref o)] → W p l e room_1 s m #[Value.ref b] below meth c H locs (c1 + 40) (n1 + 4000) Q (F0 m 1334 ls [])) : W p l e room_1 s m #[Value.ref b] below meth c H locs (c1) (n1) Q (F0 m 681 ls []) := by
  obtain ⟨hx, hb, hml, hown, hT9, hz, hcx, hnc, hl9, hXs, hbl, hL⟩ := E0
  have hT := hT9
  have C : CallFix p m c code 7 s #[Value.ref b] fw_tb RL := ⟨hx, hb, hml, hown, hT⟩
  have hbA : ¬ (fun q : Nat => s.heap.size ≤ q) b := Nat.not_le.mpr hbl
  obtain ⟨ad, sc, f, g0, nC, nT, nO, nJ, nD, T, hmW, ho, hT200, hCL, hPU, hMS⟩ := hR
  have hCL9 := hCL
  obtain ⟨lc, lt, lo, lm, lw, dr, ds, dfr, ca, ta, sl, fr, oa, tr, ml, ma, ja, da, wj, sa, ms, nW, hX, hC, hT1, hTr, hO1, hK, hI, hZ, hD, htr⟩ := hCL9
  have hC9 := hC
  obtain ⟨hc10, ⟨arc, hLc⟩, hcs⟩ := hC9
  have hT9 := hT1
  obtain ⟨ht8, at9, hLt⟩ := hT9
  have hO9 := hO1
  obtain ⟨ho12, ao9, hLo⟩ := hO9
  have hK9 := hK
  obtain ⟨-, ⟨hnW, ⟨aw9, hLw⟩, -⟩, -, -⟩ := hK9
  have hD9 := hD
  obtain ⟨hd4, hD1, ⟨ad9, hD2⟩, hD3, hD4⟩ := hD9
  have hd2 := rf_dp_ok hPU.2.2.2.2.2.2.2.2 (w := 2) (Or.inr rfl) nD (Nat.le_refl _)
  have hd1 := rf_dp_ok hPU.2.2.2.2.2.2.2.2 (w := 1) (Or.inl rfl) nD (Nat.le_refl _)
  have h60 : 60 ^ nD ≤ 60 ^ 4 := Nat.pow_le_pow_right (by decide) hd4
  have hdg : 0 < cr_dg f nD := Nat.gcd_pos_of_pos_left _ hd2.1
  have hdu : rf_dp f 2 nD / cr_dg f nD ≤ 12960000 := Nat.le_trans (Nat.div_le_self _ _) (by omega)
  have hdv : rf_dp f 1 nD / cr_dg f nD ≤ 12960000 := Nat.le_trans (Nat.div_le_self _ _) (by omega)
  have hdv0 : 0 < rf_dp f 1 nD / cr_dg f nD := Nat.div_pos (Nat.le_of_dvd hd1.1 (Nat.gcd_dvd_right _ _)) hdg
  have hnW8 : nW ≤ 8 * nO := Nat.le_trans hI.row.nW hPU.2.2.2.2.2.2.2.1
  refine lv_aload_n hx hb dL_law_681 rfl (lv_at hl 2 rfl) ?_
  refine lv_aload_n hx hb dL_law_682 rfl (lv_at hl 1 rfl) ?_
  refine lv_iload hx hb dL_law_683 (lv_at hl 0 rfl) ?_
  refine lv_iconst (v := (nI 1)) hx hb dL_law_685 (by decide) ?_
  refine lv_iadd hx hb dL_law_686 ?_
  refine fw_top (nI_add _ _) ?_
  refine va_sld hx hb hXs hbl hbA hw.2.1 (vp_in_nI (show (4 * i) + 1 < L by omega) (by omega)) dL_law_687 ?_
  rw [nI_clamp (show (4 * i) + 1 < 2 ^ 31 by omega)]
  refine lv_aload_n hx hb dL_law_688 rfl (lv_at hl 4 rfl) ?_
  refine fw_calli (fw_runSW (As := [.ref x, .int (xs ((4 * i) + 1)), .ref o]) (rest := []) C hz hcx hnc hw (c_L_order l G _ _ x o _ _ g0 (xs ((4 * i) + 1)) _ _ hX ho (fun z => c_X8_order l G F z x lc lt lo lm lw dr (nI T) ta sl fr sa f nT ca nC ao9 aw9 nO nW nJ oa (fun k => ja (wj k)) (xs ((4 * i) + 1)) hl9 hX hT1 hTr hC hLo ho12 hLw hnW8 hPU.1) (fun E h => h.elim (fun h => Or.inl h.1) (fun h => Or.inr h.1)) (fun v F2 h => (show fw_kp F F2 (fun t => t.1 < 60) from (by
    obtain ⟨_, _, _, _, _, _, _, _, -, -, -, -, -, -, -, -, -, -, -, hk⟩ := h
    exact hk.wk (fun t z => by
      rcases z with z | rfl | rfl
      · omega
      · decide
      · decide))) _ _ _ ho (by decide))) (fw_cwSW (n := 3) hT wd_494 wd_495 wd_0 wd_496 (by decide +kernel) rfl rfl ⟨Nat.le_of_ble_eq_true rfl, Nat.le_of_ble_eq_true rfl⟩) rfl hl.1 rfl (Nat.le_of_ble_eq_true rfl) dL_law_689 ⟨by show c1 + 28 ≤ 875399; omega, by show n1 + 3166 ≤ 6469906; omega⟩) hw (fun r F1 H locs hw hp => ?_)
  refine W.widen (k := c1 + 40) (n := n1 + 4000) (by omega) (by omega) ?_
  have hkF : fw_kp F F1 (fun t => t.1 ≤ 60) := by
    rcases hp with ⟨-, v, F2, h, hF1⟩ | ⟨hF1, -⟩
    · rw [hF1]
      have h60 : fw_kp F F2 (fun t => t.1 < 60) := (by
        obtain ⟨_, _, _, _, _, _, _, _, -, -, -, -, -, -, -, -, -, -, -, hk⟩ := h
        exact hk.wk (fun t z => by
          rcases z with z | rfl | rfl
          · omega
          · decide
          · decide))
      exact wr_k1 h60 (h60 _ _ _ ho (by decide))
    · rw [hF1]; exact fw_kp.rf
  have hm1 : mm_W G F1 y ad sc f := hmW.kp hkF (fun t h z => by omega)
  have hm : mm_M G (fun q : Nat => s.heap.size ≤ q) s F1 y ad sc f F1 H locs := ⟨hw, hm1, mm_keep.rf⟩
  refine lv_istore (lv' := [(5, .int r), (4, .int (nI (4 * i))), (0, .ref b), (1, .ref x), (2, .ref y), (3, .ref o)]) hx hb dL_law_692 hl (by decide) rfl (fun ls hl => ?_)
  refine lv_aload_n hx hb dL_law_694 rfl (lv_at hl 4 rfl) ?_
  refine lv_aload_n hx hb dL_law_695 rfl (lv_at hl 2 rfl) ?_
  refine lv_iload hx hb dL_law_696 (lv_at hl 1 rfl) ?_
  refine lv_iconst (v := (nI 1)) hx hb dL_law_698 (by decide) ?_
  refine lv_iadd hx hb dL_law_699 ?_
  refine fw_top (nI_add _ _) ?_
  refine va_sld hx hb hXs hbl hbA hw.2.1 (vp_in_nI (show (4 * i) + 1 < L by omega) (by omega)) dL_law_700 ?_
  rw [nI_clamp (show (4 * i) + 1 < 2 ^ 31 by omega)]
  refine mm_calli (As := [.int (xs ((4 * i) + 1))]) (rest := []) C hz hm (c_X9_order l G _ _ y ad _ _ nC nT nO nJ (xs ((4 * i) + 1)) hm1 hMS.2.2.1 ht8 hPU.1 hMS.2.2.2.1 ho12 hMS.2.2.2.2.1 hPU.2.2.2.2.2.2.2.1 hMS.1 hc10) wd_877 yVX9_order ⟨Nat.le_of_ble_eq_true rfl, Nat.le_of_ble_eq_true rfl⟩ rfl hl.1 rfl (Nat.le_of_ble_eq_true rfl) dL_law_701 ⟨by show c1 + 40 + 0 ≤ 875399; omega, by show n1 + 4000 + 0 ≤ 6469906; omega⟩ (fun b9 sc1 f1 F4 H locs hm hP => ?_)
  refine W.widen (k := c1 + 40) (n := n1 + 4000) (Nat.le_refl _) (Nat.le_refl _) ?_
  refine lv_istore (lv' := [(6, .int b9), (5, .int r), (4, .int (nI (4 * i))), (0, .ref b), (1, .ref x), (2, .ref y), (3, .ref o)]) hx hb dL_law_704 hl (by decide) rfl (fun ls hl => ?_)
  refine lv_aload_n hx hb dL_law_706 rfl (lv_at hl 5 rfl) ?_
  refine mm_calli (As := []) (rest := []) C hz hm (c_X9_thrown l G _ _ y ad _ _ hm.2.1) wd_813 yVX9_thrown ⟨Nat.le_of_ble_eq_true rfl, Nat.le_of_ble_eq_true rfl⟩ rfl hl.1 rfl (Nat.le_of_ble_eq_true rfl) dL_law_707 ⟨by show c1 + 40 + 0 ≤ 875399; omega, by show n1 + 4000 + 0 ≤ 6469906; omega⟩ (fun t9 sc2 f2 F5 H locs hm ht => ?_)
  refine W.widen (k := c1 + 40) (n := n1 + 4000) (Nat.le_refl _) (Nat.le_refl _) ?_
  obtain ⟨hsc, hff, ht⟩ := ht
  rw [hsc, hff] at hm
  have hw := hm.1
  have hag : sc1 0 = r ∧ ∃ gv, F5 o = some ((60, 0, 0), fw_la (fw_cJ G) 1 gv) ∧ (r = nI 0 → gv 0 = b9.toInt64) ∧ lw_R G F5 x y o (i + 1) := by
    rcases hp with ⟨hr, v, F2, h, hF1⟩ | ⟨hF1, hp⟩
    · have h60 : fw_kp F F2 (fun t => t.1 < 60) := (by
        obtain ⟨_, _, _, _, _, _, _, _, -, -, -, -, -, -, -, -, -, -, -, hk⟩ := h
        exact hk.wk (fun t z => by
          rcases z with z | rfl | rfl
          · omega
          · decide
          · decide))
      have hoF2 := h60 _ _ _ ho (by decide)
      obtain ⟨j, p, q, arr, msn, al, aw, wf1, hj, ej, h12, hv, z1, z2, z3, z4, z5, z6, z7, hk⟩ := h
      obtain ⟨hs, hf, hb9⟩ := hP.2.2 j hj ej h12
      obtain ⟨c1, c2, -⟩ := st_order hX hC hT1 hTr hO1 hK hI hZ hD htr hPU hj h12 hf z1 z2 z3 z4 z5 z6 z7 hk
      have e0 : sc1 0 = nI 0 := by rw [hs]; rfl
      obtain ⟨gv, q1, q2, q3⟩ := wr_a (w := b9.toInt64) hoF2 hF1 hm.2.2 hm.2.1 (by rw [hv, hb9]) (show T ≤ 200 * (i + 1) by omega) c1 c2 (by rw [hs]; exact ⟨hMS.1, hMS.2.1, hMS.2.2.1, rfl, rfl, hMS.2.2.2.2.2⟩)
      exact ⟨e0.trans hr.symm, gv, q1, fun _ => q2, q3⟩
    · rw [hF1] at hm
      rcases hp with ⟨hE, hr⟩ | ⟨hE, hr⟩
      · rcases hE with ⟨q9, hE⟩ | ⟨q9, hE⟩
        · obtain ⟨hf, hs⟩ := hP.1 hE
          have e0 : sc1 0 = nI 1 := by rw [hs]; rfl
          rw [hf] at hm
          obtain ⟨q1, q3⟩ := wr_b (i := i) ho hm.2.2 hm.2.1 (show T ≤ 200 * (i + 1) by omega) hCL hPU (by rw [hs]; exact hMS)
          exact ⟨e0.trans hr.symm, g0, q1, fun z => absurd (hr.symm.trans z) (by decide), q3⟩
        · exact absurd q9 (by decide)
      · rcases hE with ⟨q9, hE⟩ | ⟨q9, hE⟩
        · exact absurd q9 (by decide)
        · obtain ⟨hf, hs⟩ := hP.2.1 hE.1 hE.2
          have e0 : sc1 0 = nI 2 := by rw [hs]; rfl
          rw [hf] at hm
          obtain ⟨q1, q3⟩ := wr_b (i := i) ho hm.2.2 hm.2.1 (show T ≤ 200 * (i + 1) by omega) hCL hPU (by rw [hs]; exact hMS)
          exact ⟨e0.trans hr.symm, g0, q1, fun z => absurd (hr.symm.trans z) (by decide), q3⟩
  obtain ⟨hth, gv, hgo, hgv, hR5⟩ := hag
  rw [hth] at ht
  refine lv_iload hx hb dL_law_710 (lv_at hl 1 rfl) ?_
  refine lv_icmp_eq (tgt := 717) hx hb dL_law_712 (by decide) (fun cx => ?_) (fun cx => absurd cx (fun h => h ht))
  refine lv_iload hx hb dL_law_717 (lv_at hl 1 rfl) ?_
  refine lv_if_ne (tgt := 734) hx hb dL_law_719 (by decide) (fun d9 => ?_) (fun d9 => ?_)
  · refine lv_goto (tgt := 1334) hx hb dL_law_734 (by decide) ?_
    exact K _ _ _ _ hw hR5 (lv_sub hl [2, 3, 4, 5, 6] rfl)
  · have d9 : r = 0 := d9
    have hgv := hgv d9
    refine lv_aload_n hx hb dL_law_722 rfl (lv_at hl 6 rfl) ?_
    refine lv_iconst (v := (nI 0)) hx hb dL_law_723 (by decide) ?_
    refine fw_lald hx hb hz hw hgo (vp_in_nI (show 0 < 1 by decide) (by decide)) dL_law_724 ?_
    rw [show (nI 0).toNatClampNeg = 0 from nI_clamp (by decide), hgv]
    refine lv_iload hx hb dL_law_725 (lv_at hl 0 rfl) ?_
    refine lv_i2l (v := b9.toInt64) hx hb dL_law_727 rfl ?_
    refine W.lcmp hx hb dL_law_728 ?_
    rw [lg_cmp_self]
    refine lv_if_eq (tgt := 734) hx hb dL_law_729 (by decide) (fun cx => ?_) (fun cx => absurd cx (fun h => h rfl))
    refine lv_goto (tgt := 1334) hx hb dL_law_734 (by decide) ?_
    exact K _ _ _ _ hw hR5 (lv_sub hl [2, 3, 4, 5, 6] rfl)
set_option maxHeartbeats 4000000 in
set_option maxRecDepth 100000 in
theorem law_pass {p : Program} {l : Launch} {e : Env} {s : State} {m : MethodId} {below : List Frame} {meth : Method} {c : Code} {b L : Nat} {xs : Nat → Int32} {G : fw_G} (E0 : lw_E p l s m meth c b L xs G) {F : fw_F} {x y o i : Nat} {H : Heap} {locs : List Loc} {ls : Array Slot} {c1 n1 : Nat} {Q : State → Prop} (hi4 : 4 * i + 3 < L) (hc1 : c1 + 40 ≤ 875399) (hn1 : n1 + 4000 ≤ 6469906) (hR : lw_R G F x y o i) (hw : fw_S G (fun q : Nat => s.heap.size ≤ q) s F H locs) (hl : lv_has ls 7 [(4, .int (nI (4 * i))), (0, .ref b), (1, .ref x), (2, .ref y), (3, .ref o)])
    (K : ∀ (F : fw_F) (H : Heap) (locs : List Loc) (ls : Array Slot), fw_S G (fun q : Nat => s.heap.size ≤ q) s F H locs → lw_R G F x y o (i + 1) → lv_has ls 7 [(4, .int (nI (4 * i))), (0, .ref b), (1, .ref x), (2, .ref y), (3, .ref o)] → W p l e room_1 s m #[Value.ref b] below meth c H locs (c1 + 40) (n1 + 4000) Q (F0 m 1334 ls [])) : W p l e room_1 s m #[Value.ref b] below meth c H locs (c1) (n1) Q (F0 m 737 ls []) := by
  obtain ⟨hx, hb, hml, hown, hT9, hz, hcx, hnc, hl9, hXs, hbl, hL⟩ := E0
  have hT := hT9
  have C : CallFix p m c code 7 s #[Value.ref b] fw_tb RL := ⟨hx, hb, hml, hown, hT⟩
  have hbA : ¬ (fun q : Nat => s.heap.size ≤ q) b := Nat.not_le.mpr hbl
  obtain ⟨ad, sc, f, g0, nC, nT, nO, nJ, nD, T, hmW, ho, hT200, hCL, hPU, hMS⟩ := hR
  have hCL9 := hCL
  obtain ⟨lc, lt, lo, lm, lw, dr, ds, dfr, ca, ta, sl, fr, oa, tr, ml, ma, ja, da, wj, sa, ms, nW, hX, hC, hT1, hTr, hO1, hK, hI, hZ, hD, htr⟩ := hCL9
  have hC9 := hC
  obtain ⟨hc10, ⟨arc, hLc⟩, hcs⟩ := hC9
  have hT9 := hT1
  obtain ⟨ht8, at9, hLt⟩ := hT9
  have hO9 := hO1
  obtain ⟨ho12, ao9, hLo⟩ := hO9
  have hK9 := hK
  obtain ⟨-, ⟨hnW, ⟨aw9, hLw⟩, -⟩, -, -⟩ := hK9
  have hD9 := hD
  obtain ⟨hd4, hD1, ⟨ad9, hD2⟩, hD3, hD4⟩ := hD9
  have hd2 := rf_dp_ok hPU.2.2.2.2.2.2.2.2 (w := 2) (Or.inr rfl) nD (Nat.le_refl _)
  have hd1 := rf_dp_ok hPU.2.2.2.2.2.2.2.2 (w := 1) (Or.inl rfl) nD (Nat.le_refl _)
  have h60 : 60 ^ nD ≤ 60 ^ 4 := Nat.pow_le_pow_right (by decide) hd4
  have hdg : 0 < cr_dg f nD := Nat.gcd_pos_of_pos_left _ hd2.1
  have hdu : rf_dp f 2 nD / cr_dg f nD ≤ 12960000 := Nat.le_trans (Nat.div_le_self _ _) (by omega)
  have hdv : rf_dp f 1 nD / cr_dg f nD ≤ 12960000 := Nat.le_trans (Nat.div_le_self _ _) (by omega)
  have hdv0 : 0 < rf_dp f 1 nD / cr_dg f nD := Nat.div_pos (Nat.le_of_dvd hd1.1 (Nat.gcd_dvd_right _ _)) hdg
  have hnW8 : nW ≤ 8 * nO := Nat.le_trans hI.row.nW hPU.2.2.2.2.2.2.2.1
  refine lv_aload_n hx hb dL_law_737 rfl (lv_at hl 2 rfl) ?_
  refine lv_aload_n hx hb dL_law_738 rfl (lv_at hl 1 rfl) ?_
  refine lv_iload hx hb dL_law_739 (lv_at hl 0 rfl) ?_
  refine lv_iconst (v := (nI 1)) hx hb dL_law_741 (by decide) ?_
  refine lv_iadd hx hb dL_law_742 ?_
  refine fw_top (nI_add _ _) ?_
  refine va_sld hx hb hXs hbl hbA hw.2.1 (vp_in_nI (show (4 * i) + 1 < L by omega) (by omega)) dL_law_743 ?_
  rw [nI_clamp (show (4 * i) + 1 < 2 ^ 31 by omega)]
  refine lv_aload_n hx hb dL_law_744 rfl (lv_at hl 4 rfl) ?_
  refine fw_calli (fw_runSW (As := [.ref x, .int (xs ((4 * i) + 1)), .ref o]) (rest := []) C hz hcx hnc hw (c_L_pass l G _ _ x o _ _ g0 (xs ((4 * i) + 1)) _ _ hX ho (fun z => c_X8_pass l G F z x lc lt lo lm lw dr (nI T) ma ja oa tr ml f nJ nO nW wj (xs ((4 * i) + 1)) hl9 hX hK hI) (fun E h => h.1) (fun v F2 h => (show fw_kp F F2 (fun t => t.1 < 60) from (by
    obtain ⟨_, _, _, -, -, -, -, -, -, -, hk⟩ := h
    exact hk.wk (fun t z => by
      rcases z with z | z | rfl | rfl
      · omega
      · omega
      · decide
      · decide))) _ _ _ ho (by decide))) (fw_cwSW (n := 3) hT wd_575 wd_576 wd_0 wd_577 (by decide +kernel) rfl rfl ⟨Nat.le_of_ble_eq_true rfl, Nat.le_of_ble_eq_true rfl⟩) rfl hl.1 rfl (Nat.le_of_ble_eq_true rfl) dL_law_745 ⟨by show c1 + 1 ≤ 875399; omega, by show n1 + 6 ≤ 6469906; omega⟩) hw (fun r F1 H locs hw hp => ?_)
  refine W.widen (k := c1 + 40) (n := n1 + 4000) (by omega) (by omega) ?_
  have hkF : fw_kp F F1 (fun t => t.1 ≤ 60) := by
    rcases hp with ⟨-, v, F2, h, hF1⟩ | ⟨hF1, -⟩
    · rw [hF1]
      have h60 : fw_kp F F2 (fun t => t.1 < 60) := (by
        obtain ⟨_, _, _, -, -, -, -, -, -, -, hk⟩ := h
        exact hk.wk (fun t z => by
          rcases z with z | z | rfl | rfl
          · omega
          · omega
          · decide
          · decide))
      exact wr_k1 h60 (h60 _ _ _ ho (by decide))
    · rw [hF1]; exact fw_kp.rf
  have hm1 : mm_W G F1 y ad sc f := hmW.kp hkF (fun t h z => by omega)
  have hm : mm_M G (fun q : Nat => s.heap.size ≤ q) s F1 y ad sc f F1 H locs := ⟨hw, hm1, mm_keep.rf⟩
  refine lv_istore (lv' := [(5, .int r), (4, .int (nI (4 * i))), (0, .ref b), (1, .ref x), (2, .ref y), (3, .ref o)]) hx hb dL_law_748 hl (by decide) rfl (fun ls hl => ?_)
  refine lv_aload_n hx hb dL_law_750 rfl (lv_at hl 4 rfl) ?_
  refine lv_aload_n hx hb dL_law_751 rfl (lv_at hl 2 rfl) ?_
  refine lv_iload hx hb dL_law_752 (lv_at hl 1 rfl) ?_
  refine lv_iconst (v := (nI 1)) hx hb dL_law_754 (by decide) ?_
  refine lv_iadd hx hb dL_law_755 ?_
  refine fw_top (nI_add _ _) ?_
  refine va_sld hx hb hXs hbl hbA hw.2.1 (vp_in_nI (show (4 * i) + 1 < L by omega) (by omega)) dL_law_756 ?_
  rw [nI_clamp (show (4 * i) + 1 < 2 ^ 31 by omega)]
  refine mm_calli (As := [.int (xs ((4 * i) + 1))]) (rest := []) C hz hm (c_X9_pass l G _ _ y ad _ _ nJ nO (xs ((4 * i) + 1)) hm1 hMS.2.2.2.2.1 hI.j96 hI.o12 hI.jok) wd_885 yVX9_pass ⟨Nat.le_of_ble_eq_true rfl, Nat.le_of_ble_eq_true rfl⟩ rfl hl.1 rfl (Nat.le_of_ble_eq_true rfl) dL_law_757 ⟨by show c1 + 40 + 0 ≤ 875399; omega, by show n1 + 4000 + 0 ≤ 6469906; omega⟩ (fun b9 sc1 f1 F4 H locs hm hP => ?_)
  refine W.widen (k := c1 + 40) (n := n1 + 4000) (Nat.le_refl _) (Nat.le_refl _) ?_
  refine lv_istore (lv' := [(6, .int b9), (5, .int r), (4, .int (nI (4 * i))), (0, .ref b), (1, .ref x), (2, .ref y), (3, .ref o)]) hx hb dL_law_760 hl (by decide) rfl (fun ls hl => ?_)
  refine lv_aload_n hx hb dL_law_762 rfl (lv_at hl 5 rfl) ?_
  refine mm_calli (As := []) (rest := []) C hz hm (c_X9_thrown l G _ _ y ad _ _ hm.2.1) wd_813 yVX9_thrown ⟨Nat.le_of_ble_eq_true rfl, Nat.le_of_ble_eq_true rfl⟩ rfl hl.1 rfl (Nat.le_of_ble_eq_true rfl) dL_law_763 ⟨by show c1 + 40 + 0 ≤ 875399; omega, by show n1 + 4000 + 0 ≤ 6469906; omega⟩ (fun t9 sc2 f2 F5 H locs hm ht => ?_)
  refine W.widen (k := c1 + 40) (n := n1 + 4000) (Nat.le_refl _) (Nat.le_refl _) ?_
  obtain ⟨hsc, hff, ht⟩ := ht
  rw [hsc, hff] at hm
  have hw := hm.1
  have hag : sc1 0 = r ∧ ∃ gv, F5 o = some ((60, 0, 0), fw_la (fw_cJ G) 1 gv) ∧ (r = nI 0 → gv 0 = b9.toInt64) ∧ lw_R G F5 x y o (i + 1) := by
    rcases hp with ⟨hr, v, F2, h, hF1⟩ | ⟨hF1, hp⟩
    · have h60 : fw_kp F F2 (fun t => t.1 < 60) := (by
        obtain ⟨_, _, _, -, -, -, -, -, -, -, hk⟩ := h
        exact hk.wk (fun t z => by
          rcases z with z | z | rfl | rfl
          · omega
          · omega
          · decide
          · decide))
      have hoF2 := h60 _ _ _ ho (by decide)
      obtain ⟨j, nW1, wj1, j1, j2, ej, hv, z1, z2, z3, hk⟩ := h
      obtain ⟨hs, hf, hb9⟩ := hP.2 j ej j1 j2
      have e21 : sc 21 = nI T := hMS.2.2.2.2.2
      rw [e21] at hs hf hb9
      rw [nI_add] at z1 hs
      rw [← hf] at z2 z3
      obtain ⟨c1, c2, -⟩ := st_pass (T := T) hX hC hT1 hTr hO1 hK hI hZ hD htr hPU (show T + j < 1000000 by omega) z1 hf z2 z3 hk
      have e0 : sc1 0 = nI 0 := by rw [hs]; rfl
      obtain ⟨gv, q1, q2, q3⟩ := wr_a (w := b9.toInt64) hoF2 hF1 hm.2.2 hm.2.1 (by rw [hv, hb9]) (show T + j ≤ 200 * (i + 1) by omega) c1 c2 (by rw [hs]; exact ⟨hMS.1, hMS.2.1, hMS.2.2.1, hMS.2.2.2.1, hMS.2.2.2.2.1, rfl⟩)
      exact ⟨e0.trans hr.symm, gv, q1, fun _ => q2, q3⟩
    · rw [hF1] at hm
      obtain ⟨hE, hr⟩ := hp
      obtain ⟨-, hE⟩ := hE
      obtain ⟨hf, hs⟩ := hP.1 hE
      have e0 : sc1 0 = nI 1 := by rw [hs]; rfl
      rw [hf] at hm
      obtain ⟨q1, q3⟩ := wr_b (i := i) ho hm.2.2 hm.2.1 (show T ≤ 200 * (i + 1) by omega) hCL hPU (by rw [hs]; exact hMS)
      exact ⟨e0.trans hr.symm, g0, q1, fun z => absurd (hr.symm.trans z) (by decide), q3⟩
  obtain ⟨hth, gv, hgo, hgv, hR5⟩ := hag
  rw [hth] at ht
  refine lv_iload hx hb dL_law_766 (lv_at hl 1 rfl) ?_
  refine lv_icmp_eq (tgt := 773) hx hb dL_law_768 (by decide) (fun cx => ?_) (fun cx => absurd cx (fun h => h ht))
  refine lv_iload hx hb dL_law_773 (lv_at hl 1 rfl) ?_
  refine lv_if_ne (tgt := 790) hx hb dL_law_775 (by decide) (fun d9 => ?_) (fun d9 => ?_)
  · refine lv_goto (tgt := 1334) hx hb dL_law_790 (by decide) ?_
    exact K _ _ _ _ hw hR5 (lv_sub hl [2, 3, 4, 5, 6] rfl)
  · have d9 : r = 0 := d9
    have hgv := hgv d9
    refine lv_aload_n hx hb dL_law_778 rfl (lv_at hl 6 rfl) ?_
    refine lv_iconst (v := (nI 0)) hx hb dL_law_779 (by decide) ?_
    refine fw_lald hx hb hz hw hgo (vp_in_nI (show 0 < 1 by decide) (by decide)) dL_law_780 ?_
    rw [show (nI 0).toNatClampNeg = 0 from nI_clamp (by decide), hgv]
    refine lv_iload hx hb dL_law_781 (lv_at hl 0 rfl) ?_
    refine lv_i2l (v := b9.toInt64) hx hb dL_law_783 rfl ?_
    refine W.lcmp hx hb dL_law_784 ?_
    rw [lg_cmp_self]
    refine lv_if_eq (tgt := 790) hx hb dL_law_785 (by decide) (fun cx => ?_) (fun cx => absurd cx (fun h => h rfl))
    refine lv_goto (tgt := 1334) hx hb dL_law_790 (by decide) ?_
    exact K _ _ _ _ hw hR5 (lv_sub hl [2, 3, 4, 5, 6] rfl)
set_option maxHeartbeats 4000000 in
set_option maxRecDepth 100000 in
theorem law_cutterOn {p : Program} {l : Launch} {e : Env} {s : State} {m : MethodId} {below : List Frame} {meth : Method} {c : Code} {b L : Nat} {xs : Nat → Int32} {G : fw_G} (E0 : lw_E p l s m meth c b L xs G) {F : fw_F} {x y o i : Nat} {H : Heap} {locs : List Loc} {ls : Array Slot} {c1 n1 : Nat} {Q : State → Prop} (hi4 : 4 * i + 3 < L) (hc1 : c1 + 40 ≤ 875399) (hn1 : n1 + 4000 ≤ 6469906) (hR : lw_R G F x y o i) (hw : fw_S G (fun q : Nat => s.heap.size ≤ q) s F H locs) (hl : lv_has ls 7 [(4, .int (nI (4 * i))), (0, .ref b), (1, .ref x), (2, .ref y), (3, .ref o)])
    (K : ∀ (F : fw_F) (H : Heap) (locs : List Loc) (ls : Array Slot), fw_S G (fun q : Nat => s.heap.size ≤ q) s F H locs → lw_R G F x y o (i + 1) → lv_has ls 7 [(4, .int (nI (4 * i))), (0, .ref b), (1, .ref x), (2, .ref y), (3, .ref o)] → W p l e room_1 s m #[Value.ref b] below meth c H locs (c1 + 40) (n1 + 4000) Q (F0 m 1334 ls [])) : W p l e room_1 s m #[Value.ref b] below meth c H locs (c1) (n1) Q (F0 m 819 ls []) := by
  obtain ⟨hx, hb, hml, hown, hT9, hz, hcx, hnc, hl9, hXs, hbl, hL⟩ := E0
  have hT := hT9
  have C : CallFix p m c code 7 s #[Value.ref b] fw_tb RL := ⟨hx, hb, hml, hown, hT⟩
  have hbA : ¬ (fun q : Nat => s.heap.size ≤ q) b := Nat.not_le.mpr hbl
  obtain ⟨ad, sc, f, g0, nC, nT, nO, nJ, nD, T, hmW, ho, hT200, hCL, hPU, hMS⟩ := hR
  have hCL9 := hCL
  obtain ⟨lc, lt, lo, lm, lw, dr, ds, dfr, ca, ta, sl, fr, oa, tr, ml, ma, ja, da, wj, sa, ms, nW, hX, hC, hT1, hTr, hO1, hK, hI, hZ, hD, htr⟩ := hCL9
  have hC9 := hC
  obtain ⟨hc10, ⟨arc, hLc⟩, hcs⟩ := hC9
  have hT9 := hT1
  obtain ⟨ht8, at9, hLt⟩ := hT9
  have hO9 := hO1
  obtain ⟨ho12, ao9, hLo⟩ := hO9
  have hK9 := hK
  obtain ⟨-, ⟨hnW, ⟨aw9, hLw⟩, -⟩, -, -⟩ := hK9
  have hD9 := hD
  obtain ⟨hd4, hD1, ⟨ad9, hD2⟩, hD3, hD4⟩ := hD9
  have hd2 := rf_dp_ok hPU.2.2.2.2.2.2.2.2 (w := 2) (Or.inr rfl) nD (Nat.le_refl _)
  have hd1 := rf_dp_ok hPU.2.2.2.2.2.2.2.2 (w := 1) (Or.inl rfl) nD (Nat.le_refl _)
  have h60 : 60 ^ nD ≤ 60 ^ 4 := Nat.pow_le_pow_right (by decide) hd4
  have hdg : 0 < cr_dg f nD := Nat.gcd_pos_of_pos_left _ hd2.1
  have hdu : rf_dp f 2 nD / cr_dg f nD ≤ 12960000 := Nat.le_trans (Nat.div_le_self _ _) (by omega)
  have hdv : rf_dp f 1 nD / cr_dg f nD ≤ 12960000 := Nat.le_trans (Nat.div_le_self _ _) (by omega)
  have hdv0 : 0 < rf_dp f 1 nD / cr_dg f nD := Nat.div_pos (Nat.le_of_dvd hd1.1 (Nat.gcd_dvd_right _ _)) hdg
  have hnW8 : nW ≤ 8 * nO := Nat.le_trans hI.row.nW hPU.2.2.2.2.2.2.2.1
  refine lv_aload_n hx hb dL_law_819 rfl (lv_at hl 2 rfl) ?_
  refine lv_aload_n hx hb dL_law_820 rfl (lv_at hl 1 rfl) ?_
  refine lv_iload hx hb dL_law_821 (lv_at hl 0 rfl) ?_
  refine lv_iconst (v := (nI 1)) hx hb dL_law_823 (by decide) ?_
  refine lv_iadd hx hb dL_law_824 ?_
  refine fw_top (nI_add _ _) ?_
  refine va_sld hx hb hXs hbl hbA hw.2.1 (vp_in_nI (show (4 * i) + 1 < L by omega) (by omega)) dL_law_825 ?_
  rw [nI_clamp (show (4 * i) + 1 < 2 ^ 31 by omega)]
  refine lv_aload_n hx hb dL_law_826 rfl (lv_at hl 4 rfl) ?_
  refine fw_calli (fw_runSW (As := [.ref x, .int (xs ((4 * i) + 1)), .ref o]) (rest := []) C hz hcx hnc hw (c_L_cutterOn l G _ _ x o _ _ g0 (xs ((4 * i) + 1)) _ _ hX ho (fun z => c_X8_cutterOn l G F z x lc lt lo lm lw dr (nI T) ma f (cl_jb ja f) (cl_lf f) (xs ((4 * i) + 1)) hl9 hX hK.1) (fun E h => h.1) (fun v F2 h => (show fw_kp F F2 (fun t => t.1 < 60) from wr_si h.1) _ _ _ ho (by decide))) (fw_cwSW (n := 3) hT wd_628 wd_629 wd_0 wd_630 (by decide +kernel) rfl rfl ⟨Nat.le_of_ble_eq_true rfl, Nat.le_of_ble_eq_true rfl⟩) rfl hl.1 rfl (Nat.le_of_ble_eq_true rfl) dL_law_827 ⟨by show c1 + 1 ≤ 875399; omega, by show n1 + 6 ≤ 6469906; omega⟩) hw (fun r F1 H locs hw hp => ?_)
  refine W.widen (k := c1 + 40) (n := n1 + 4000) (by omega) (by omega) ?_
  have hkF : fw_kp F F1 (fun t => t.1 ≤ 60) := by
    rcases hp with ⟨-, v, F2, h, hF1⟩ | ⟨hF1, -⟩
    · rw [hF1]
      have h60 : fw_kp F F2 (fun t => t.1 < 60) := wr_si h.1
      exact wr_k1 h60 (h60 _ _ _ ho (by decide))
    · rw [hF1]; exact fw_kp.rf
  have hm1 : mm_W G F1 y ad sc f := hmW.kp hkF (fun t h z => by omega)
  have hm : mm_M G (fun q : Nat => s.heap.size ≤ q) s F1 y ad sc f F1 H locs := ⟨hw, hm1, mm_keep.rf⟩
  refine lv_istore (lv' := [(5, .int r), (4, .int (nI (4 * i))), (0, .ref b), (1, .ref x), (2, .ref y), (3, .ref o)]) hx hb dL_law_830 hl (by decide) rfl (fun ls hl => ?_)
  refine lv_aload_n hx hb dL_law_832 rfl (lv_at hl 4 rfl) ?_
  refine lv_aload_n hx hb dL_law_833 rfl (lv_at hl 2 rfl) ?_
  refine lv_iload hx hb dL_law_834 (lv_at hl 1 rfl) ?_
  refine lv_iconst (v := (nI 1)) hx hb dL_law_836 (by decide) ?_
  refine lv_iadd hx hb dL_law_837 ?_
  refine fw_top (nI_add _ _) ?_
  refine va_sld hx hb hXs hbl hbA hw.2.1 (vp_in_nI (show (4 * i) + 1 < L by omega) (by omega)) dL_law_838 ?_
  rw [nI_clamp (show (4 * i) + 1 < 2 ^ 31 by omega)]
  refine mm_calli (As := [.int (xs ((4 * i) + 1))]) (rest := []) C hz hm (c_X9_cutterOn l G _ _ y ad _ _ (xs ((4 * i) + 1)) hm1) wd_917 yVX9_cutterOn ⟨Nat.le_of_ble_eq_true rfl, Nat.le_of_ble_eq_true rfl⟩ rfl hl.1 rfl (Nat.le_of_ble_eq_true rfl) dL_law_839 ⟨by show c1 + 40 + 0 ≤ 875399; omega, by show n1 + 4000 + 0 ≤ 6469906; omega⟩ (fun b9 sc1 f1 F4 H locs hm hP => ?_)
  refine W.widen (k := c1 + 40) (n := n1 + 4000) (Nat.le_refl _) (Nat.le_refl _) ?_
  refine lv_istore (lv' := [(6, .int b9), (5, .int r), (4, .int (nI (4 * i))), (0, .ref b), (1, .ref x), (2, .ref y), (3, .ref o)]) hx hb dL_law_842 hl (by decide) rfl (fun ls hl => ?_)
  refine lv_aload_n hx hb dL_law_844 rfl (lv_at hl 5 rfl) ?_
  refine mm_calli (As := []) (rest := []) C hz hm (c_X9_thrown l G _ _ y ad _ _ hm.2.1) wd_813 yVX9_thrown ⟨Nat.le_of_ble_eq_true rfl, Nat.le_of_ble_eq_true rfl⟩ rfl hl.1 rfl (Nat.le_of_ble_eq_true rfl) dL_law_845 ⟨by show c1 + 40 + 0 ≤ 875399; omega, by show n1 + 4000 + 0 ≤ 6469906; omega⟩ (fun t9 sc2 f2 F5 H locs hm ht => ?_)
  refine W.widen (k := c1 + 40) (n := n1 + 4000) (Nat.le_refl _) (Nat.le_refl _) ?_
  obtain ⟨hsc, hff, ht⟩ := ht
  rw [hsc, hff] at hm
  have hw := hm.1
  have hag : sc1 0 = r ∧ ∃ gv, F5 o = some ((60, 0, 0), fw_la (fw_cJ G) 1 gv) ∧ (r = nI 0 → gv 0 = b9.toInt64) ∧ lw_R G F5 x y o (i + 1) := by
    rcases hp with ⟨hr, v, F2, h, hF1⟩ | ⟨hF1, hp⟩
    · have h60 : fw_kp F F2 (fun t => t.1 < 60) := wr_si h.1
      have hoF2 := h60 _ _ _ ho (by decide)
      obtain ⟨j, hj, ej, hv0⟩ := h.2
      obtain ⟨hf, hs, hb⟩ := hP
      rw [← rf_ix_3, ej, rf_ix_of (show 3 ≤ 100 by decide) hj] at hs
      have hv : v = b9 := hv0.trans (hb j hj ej).symm
      have e0 : sc1 0 = nI 0 := by rw [hs]; rfl
      rw [hf] at hm
      obtain ⟨gv, q1, q2, q3⟩ := wr_a (w := b9.toInt64) hoF2 hF1 hm.2.2 hm.2.1 (congrArg Int32.toInt64 hv) (show T ≤ 200 * (i + 1) by omega) (by rw [h.1]; exact hCL) hPU (by rw [hs]; exact hMS)
      exact ⟨e0.trans hr.symm, gv, q1, fun _ => q2, q3⟩
    · rw [hF1] at hm
      obtain ⟨hE, hr⟩ := hp
      obtain ⟨-, hE⟩ := hE
      obtain ⟨hf, hs, hb⟩ := hP
      rw [← rf_ix_3, hE] at hs
      have e0 : sc1 0 = nI 1 := by rw [hs]; rfl
      rw [hf] at hm
      obtain ⟨q1, q3⟩ := wr_b (i := i) ho hm.2.2 hm.2.1 (show T ≤ 200 * (i + 1) by omega) hCL hPU (by rw [hs]; exact hMS)
      exact ⟨e0.trans hr.symm, g0, q1, fun z => absurd (hr.symm.trans z) (by decide), q3⟩
  obtain ⟨hth, gv, hgo, hgv, hR5⟩ := hag
  rw [hth] at ht
  refine lv_iload hx hb dL_law_848 (lv_at hl 1 rfl) ?_
  refine lv_icmp_eq (tgt := 855) hx hb dL_law_850 (by decide) (fun cx => ?_) (fun cx => absurd cx (fun h => h ht))
  refine lv_iload hx hb dL_law_855 (lv_at hl 1 rfl) ?_
  refine lv_if_ne (tgt := 872) hx hb dL_law_857 (by decide) (fun d9 => ?_) (fun d9 => ?_)
  · refine lv_goto (tgt := 1334) hx hb dL_law_872 (by decide) ?_
    exact K _ _ _ _ hw hR5 (lv_sub hl [2, 3, 4, 5, 6] rfl)
  · have d9 : r = 0 := d9
    have hgv := hgv d9
    refine lv_aload_n hx hb dL_law_860 rfl (lv_at hl 6 rfl) ?_
    refine lv_iconst (v := (nI 0)) hx hb dL_law_861 (by decide) ?_
    refine fw_lald hx hb hz hw hgo (vp_in_nI (show 0 < 1 by decide) (by decide)) dL_law_862 ?_
    rw [show (nI 0).toNatClampNeg = 0 from nI_clamp (by decide), hgv]
    refine lv_iload hx hb dL_law_863 (lv_at hl 0 rfl) ?_
    refine lv_i2l (v := b9.toInt64) hx hb dL_law_865 rfl ?_
    refine W.lcmp hx hb dL_law_866 ?_
    rw [lg_cmp_self]
    refine lv_if_eq (tgt := 872) hx hb dL_law_867 (by decide) (fun cx => ?_) (fun cx => absurd cx (fun h => h rfl))
    refine lv_goto (tgt := 1334) hx hb dL_law_872 (by decide) ?_
    exact K _ _ _ _ hw hR5 (lv_sub hl [2, 3, 4, 5, 6] rfl)
set_option maxHeartbeats 4000000 in
set_option maxRecDepth 100000 in
theorem law_ticksLeft {p : Program} {l : Launch} {e : Env} {s : State} {m : MethodId} {below : List Frame} {meth : Method} {c : Code} {b L : Nat} {xs : Nat → Int32} {G : fw_G} (E0 : lw_E p l s m meth c b L xs G) {F : fw_F} {x y o i : Nat} {H : Heap} {locs : List Loc} {ls : Array Slot} {c1 n1 : Nat} {Q : State → Prop} (hi4 : 4 * i + 3 < L) (hc1 : c1 + 40 ≤ 875399) (hn1 : n1 + 4000 ≤ 6469906) (hR : lw_R G F x y o i) (hw : fw_S G (fun q : Nat => s.heap.size ≤ q) s F H locs) (hl : lv_has ls 7 [(4, .int (nI (4 * i))), (0, .ref b), (1, .ref x), (2, .ref y), (3, .ref o)])
    (K : ∀ (F : fw_F) (H : Heap) (locs : List Loc) (ls : Array Slot), fw_S G (fun q : Nat => s.heap.size ≤ q) s F H locs → lw_R G F x y o (i + 1) → lv_has ls 7 [(4, .int (nI (4 * i))), (0, .ref b), (1, .ref x), (2, .ref y), (3, .ref o)] → W p l e room_1 s m #[Value.ref b] below meth c H locs (c1 + 40) (n1 + 4000) Q (F0 m 1334 ls [])) : W p l e room_1 s m #[Value.ref b] below meth c H locs (c1) (n1) Q (F0 m 875 ls []) := by
  obtain ⟨hx, hb, hml, hown, hT9, hz, hcx, hnc, hl9, hXs, hbl, hL⟩ := E0
  have hT := hT9
  have C : CallFix p m c code 7 s #[Value.ref b] fw_tb RL := ⟨hx, hb, hml, hown, hT⟩
  have hbA : ¬ (fun q : Nat => s.heap.size ≤ q) b := Nat.not_le.mpr hbl
  obtain ⟨ad, sc, f, g0, nC, nT, nO, nJ, nD, T, hmW, ho, hT200, hCL, hPU, hMS⟩ := hR
  have hCL9 := hCL
  obtain ⟨lc, lt, lo, lm, lw, dr, ds, dfr, ca, ta, sl, fr, oa, tr, ml, ma, ja, da, wj, sa, ms, nW, hX, hC, hT1, hTr, hO1, hK, hI, hZ, hD, htr⟩ := hCL9
  have hC9 := hC
  obtain ⟨hc10, ⟨arc, hLc⟩, hcs⟩ := hC9
  have hT9 := hT1
  obtain ⟨ht8, at9, hLt⟩ := hT9
  have hO9 := hO1
  obtain ⟨ho12, ao9, hLo⟩ := hO9
  have hK9 := hK
  obtain ⟨-, ⟨hnW, ⟨aw9, hLw⟩, -⟩, -, -⟩ := hK9
  have hD9 := hD
  obtain ⟨hd4, hD1, ⟨ad9, hD2⟩, hD3, hD4⟩ := hD9
  have hd2 := rf_dp_ok hPU.2.2.2.2.2.2.2.2 (w := 2) (Or.inr rfl) nD (Nat.le_refl _)
  have hd1 := rf_dp_ok hPU.2.2.2.2.2.2.2.2 (w := 1) (Or.inl rfl) nD (Nat.le_refl _)
  have h60 : 60 ^ nD ≤ 60 ^ 4 := Nat.pow_le_pow_right (by decide) hd4
  have hdg : 0 < cr_dg f nD := Nat.gcd_pos_of_pos_left _ hd2.1
  have hdu : rf_dp f 2 nD / cr_dg f nD ≤ 12960000 := Nat.le_trans (Nat.div_le_self _ _) (by omega)
  have hdv : rf_dp f 1 nD / cr_dg f nD ≤ 12960000 := Nat.le_trans (Nat.div_le_self _ _) (by omega)
  have hdv0 : 0 < rf_dp f 1 nD / cr_dg f nD := Nat.div_pos (Nat.le_of_dvd hd1.1 (Nat.gcd_dvd_right _ _)) hdg
  have hnW8 : nW ≤ 8 * nO := Nat.le_trans hI.row.nW hPU.2.2.2.2.2.2.2.1
  refine lv_aload_n hx hb dL_law_875 rfl (lv_at hl 2 rfl) ?_
  refine lv_aload_n hx hb dL_law_876 rfl (lv_at hl 1 rfl) ?_
  refine lv_iload hx hb dL_law_877 (lv_at hl 0 rfl) ?_
  refine lv_iconst (v := (nI 1)) hx hb dL_law_879 (by decide) ?_
  refine lv_iadd hx hb dL_law_880 ?_
  refine fw_top (nI_add _ _) ?_
  refine va_sld hx hb hXs hbl hbA hw.2.1 (vp_in_nI (show (4 * i) + 1 < L by omega) (by omega)) dL_law_881 ?_
  rw [nI_clamp (show (4 * i) + 1 < 2 ^ 31 by omega)]
  refine lv_aload_n hx hb dL_law_882 rfl (lv_at hl 4 rfl) ?_
  refine fw_calli (fw_runSW (As := [.ref x, .int (xs ((4 * i) + 1)), .ref o]) (rest := []) C hz hcx hnc hw (c_L_ticksLeft l G _ _ x o _ _ g0 (xs ((4 * i) + 1)) _ _ hX ho (fun z => c_X8_ticksLeft l G F z x lc lt lo lm lw dr (nI T) ma f (cl_jb ja f) (cl_lf f) (xs ((4 * i) + 1)) hl9 hX hK.1) (fun E h => h.1) (fun v F2 h => (show fw_kp F F2 (fun t => t.1 < 60) from wr_si h.1) _ _ _ ho (by decide))) (fw_cwSW (n := 3) hT wd_640 wd_641 wd_0 wd_642 (by decide +kernel) rfl rfl ⟨Nat.le_of_ble_eq_true rfl, Nat.le_of_ble_eq_true rfl⟩) rfl hl.1 rfl (Nat.le_of_ble_eq_true rfl) dL_law_883 ⟨by show c1 + 1 ≤ 875399; omega, by show n1 + 6 ≤ 6469906; omega⟩) hw (fun r F1 H locs hw hp => ?_)
  refine W.widen (k := c1 + 40) (n := n1 + 4000) (by omega) (by omega) ?_
  have hkF : fw_kp F F1 (fun t => t.1 ≤ 60) := by
    rcases hp with ⟨-, v, F2, h, hF1⟩ | ⟨hF1, -⟩
    · rw [hF1]
      have h60 : fw_kp F F2 (fun t => t.1 < 60) := wr_si h.1
      exact wr_k1 h60 (h60 _ _ _ ho (by decide))
    · rw [hF1]; exact fw_kp.rf
  have hm1 : mm_W G F1 y ad sc f := hmW.kp hkF (fun t h z => by omega)
  have hm : mm_M G (fun q : Nat => s.heap.size ≤ q) s F1 y ad sc f F1 H locs := ⟨hw, hm1, mm_keep.rf⟩
  refine lv_istore (lv' := [(5, .int r), (4, .int (nI (4 * i))), (0, .ref b), (1, .ref x), (2, .ref y), (3, .ref o)]) hx hb dL_law_886 hl (by decide) rfl (fun ls hl => ?_)
  refine lv_aload_n hx hb dL_law_888 rfl (lv_at hl 4 rfl) ?_
  refine lv_aload_n hx hb dL_law_889 rfl (lv_at hl 2 rfl) ?_
  refine lv_iload hx hb dL_law_890 (lv_at hl 1 rfl) ?_
  refine lv_iconst (v := (nI 1)) hx hb dL_law_892 (by decide) ?_
  refine lv_iadd hx hb dL_law_893 ?_
  refine fw_top (nI_add _ _) ?_
  refine va_sld hx hb hXs hbl hbA hw.2.1 (vp_in_nI (show (4 * i) + 1 < L by omega) (by omega)) dL_law_894 ?_
  rw [nI_clamp (show (4 * i) + 1 < 2 ^ 31 by omega)]
  refine mm_calli (As := [.int (xs ((4 * i) + 1))]) (rest := []) C hz hm (c_X9_ticksLeft l G _ _ y ad _ _ (xs ((4 * i) + 1)) hm1) wd_925 yVX9_ticksLeft ⟨Nat.le_of_ble_eq_true rfl, Nat.le_of_ble_eq_true rfl⟩ rfl hl.1 rfl (Nat.le_of_ble_eq_true rfl) dL_law_895 ⟨by show c1 + 40 + 0 ≤ 875399; omega, by show n1 + 4000 + 0 ≤ 6469906; omega⟩ (fun b9 sc1 f1 F4 H locs hm hP => ?_)
  refine W.widen (k := c1 + 40) (n := n1 + 4000) (Nat.le_refl _) (Nat.le_refl _) ?_
  refine lv_istore (lv' := [(6, .int b9), (5, .int r), (4, .int (nI (4 * i))), (0, .ref b), (1, .ref x), (2, .ref y), (3, .ref o)]) hx hb dL_law_898 hl (by decide) rfl (fun ls hl => ?_)
  refine lv_aload_n hx hb dL_law_900 rfl (lv_at hl 5 rfl) ?_
  refine mm_calli (As := []) (rest := []) C hz hm (c_X9_thrown l G _ _ y ad _ _ hm.2.1) wd_813 yVX9_thrown ⟨Nat.le_of_ble_eq_true rfl, Nat.le_of_ble_eq_true rfl⟩ rfl hl.1 rfl (Nat.le_of_ble_eq_true rfl) dL_law_901 ⟨by show c1 + 40 + 0 ≤ 875399; omega, by show n1 + 4000 + 0 ≤ 6469906; omega⟩ (fun t9 sc2 f2 F5 H locs hm ht => ?_)
  refine W.widen (k := c1 + 40) (n := n1 + 4000) (Nat.le_refl _) (Nat.le_refl _) ?_
  obtain ⟨hsc, hff, ht⟩ := ht
  rw [hsc, hff] at hm
  have hw := hm.1
  have hag : sc1 0 = r ∧ ∃ gv, F5 o = some ((60, 0, 0), fw_la (fw_cJ G) 1 gv) ∧ (r = nI 0 → gv 0 = b9.toInt64) ∧ lw_R G F5 x y o (i + 1) := by
    rcases hp with ⟨hr, v, F2, h, hF1⟩ | ⟨hF1, hp⟩
    · have h60 : fw_kp F F2 (fun t => t.1 < 60) := wr_si h.1
      have hoF2 := h60 _ _ _ ho (by decide)
      obtain ⟨j, hj, ej, hv0⟩ := h.2
      obtain ⟨hf, hs, hb⟩ := hP
      rw [← rf_ix_3, ej, rf_ix_of (show 3 ≤ 100 by decide) hj] at hs
      have hv : v = b9 := hv0.trans (hb j hj ej).symm
      have e0 : sc1 0 = nI 0 := by rw [hs]; rfl
      rw [hf] at hm
      obtain ⟨gv, q1, q2, q3⟩ := wr_a (w := b9.toInt64) hoF2 hF1 hm.2.2 hm.2.1 (congrArg Int32.toInt64 hv) (show T ≤ 200 * (i + 1) by omega) (by rw [h.1]; exact hCL) hPU (by rw [hs]; exact hMS)
      exact ⟨e0.trans hr.symm, gv, q1, fun _ => q2, q3⟩
    · rw [hF1] at hm
      obtain ⟨hE, hr⟩ := hp
      obtain ⟨-, hE⟩ := hE
      obtain ⟨hf, hs, hb⟩ := hP
      rw [← rf_ix_3, hE] at hs
      have e0 : sc1 0 = nI 1 := by rw [hs]; rfl
      rw [hf] at hm
      obtain ⟨q1, q3⟩ := wr_b (i := i) ho hm.2.2 hm.2.1 (show T ≤ 200 * (i + 1) by omega) hCL hPU (by rw [hs]; exact hMS)
      exact ⟨e0.trans hr.symm, g0, q1, fun z => absurd (hr.symm.trans z) (by decide), q3⟩
  obtain ⟨hth, gv, hgo, hgv, hR5⟩ := hag
  rw [hth] at ht
  refine lv_iload hx hb dL_law_904 (lv_at hl 1 rfl) ?_
  refine lv_icmp_eq (tgt := 911) hx hb dL_law_906 (by decide) (fun cx => ?_) (fun cx => absurd cx (fun h => h ht))
  refine lv_iload hx hb dL_law_911 (lv_at hl 1 rfl) ?_
  refine lv_if_ne (tgt := 928) hx hb dL_law_913 (by decide) (fun d9 => ?_) (fun d9 => ?_)
  · refine lv_goto (tgt := 1334) hx hb dL_law_928 (by decide) ?_
    exact K _ _ _ _ hw hR5 (lv_sub hl [2, 3, 4, 5, 6] rfl)
  · have d9 : r = 0 := d9
    have hgv := hgv d9
    refine lv_aload_n hx hb dL_law_916 rfl (lv_at hl 6 rfl) ?_
    refine lv_iconst (v := (nI 0)) hx hb dL_law_917 (by decide) ?_
    refine fw_lald hx hb hz hw hgo (vp_in_nI (show 0 < 1 by decide) (by decide)) dL_law_918 ?_
    rw [show (nI 0).toNatClampNeg = 0 from nI_clamp (by decide), hgv]
    refine lv_iload hx hb dL_law_919 (lv_at hl 0 rfl) ?_
    refine lv_i2l (v := b9.toInt64) hx hb dL_law_921 rfl ?_
    refine W.lcmp hx hb dL_law_922 ?_
    rw [lg_cmp_self]
    refine lv_if_eq (tgt := 928) hx hb dL_law_923 (by decide) (fun cx => ?_) (fun cx => absurd cx (fun h => h rfl))
    refine lv_goto (tgt := 1334) hx hb dL_law_928 (by decide) ?_
    exact K _ _ _ _ hw hR5 (lv_sub hl [2, 3, 4, 5, 6] rfl)
set_option maxHeartbeats 4000000 in
set_option maxRecDepth 100000 in
theorem law_gearsLeft {p : Program} {l : Launch} {e : Env} {s : State} {m : MethodId} {below : List Frame} {meth : Method} {c : Code} {b L : Nat} {xs : Nat → Int32} {G : fw_G} (E0 : lw_E p l s m meth c b L xs G) {F : fw_F} {x y o i : Nat} {H : Heap} {locs : List Loc} {ls : Array Slot} {c1 n1 : Nat} {Q : State → Prop} (hi4 : 4 * i + 3 < L) (hc1 : c1 + 40 ≤ 875399) (hn1 : n1 + 4000 ≤ 6469906) (hR : lw_R G F x y o i) (hw : fw_S G (fun q : Nat => s.heap.size ≤ q) s F H locs) (hl : lv_has ls 7 [(4, .int (nI (4 * i))), (0, .ref b), (1, .ref x), (2, .ref y), (3, .ref o)])
    (K : ∀ (F : fw_F) (H : Heap) (locs : List Loc) (ls : Array Slot), fw_S G (fun q : Nat => s.heap.size ≤ q) s F H locs → lw_R G F x y o (i + 1) → lv_has ls 7 [(4, .int (nI (4 * i))), (0, .ref b), (1, .ref x), (2, .ref y), (3, .ref o)] → W p l e room_1 s m #[Value.ref b] below meth c H locs (c1 + 40) (n1 + 4000) Q (F0 m 1334 ls [])) : W p l e room_1 s m #[Value.ref b] below meth c H locs (c1) (n1) Q (F0 m 931 ls []) := by
  obtain ⟨hx, hb, hml, hown, hT9, hz, hcx, hnc, hl9, hXs, hbl, hL⟩ := E0
  have hT := hT9
  have C : CallFix p m c code 7 s #[Value.ref b] fw_tb RL := ⟨hx, hb, hml, hown, hT⟩
  have hbA : ¬ (fun q : Nat => s.heap.size ≤ q) b := Nat.not_le.mpr hbl
  obtain ⟨ad, sc, f, g0, nC, nT, nO, nJ, nD, T, hmW, ho, hT200, hCL, hPU, hMS⟩ := hR
  have hCL9 := hCL
  obtain ⟨lc, lt, lo, lm, lw, dr, ds, dfr, ca, ta, sl, fr, oa, tr, ml, ma, ja, da, wj, sa, ms, nW, hX, hC, hT1, hTr, hO1, hK, hI, hZ, hD, htr⟩ := hCL9
  have hC9 := hC
  obtain ⟨hc10, ⟨arc, hLc⟩, hcs⟩ := hC9
  have hT9 := hT1
  obtain ⟨ht8, at9, hLt⟩ := hT9
  have hO9 := hO1
  obtain ⟨ho12, ao9, hLo⟩ := hO9
  have hK9 := hK
  obtain ⟨-, ⟨hnW, ⟨aw9, hLw⟩, -⟩, -, -⟩ := hK9
  have hD9 := hD
  obtain ⟨hd4, hD1, ⟨ad9, hD2⟩, hD3, hD4⟩ := hD9
  have hd2 := rf_dp_ok hPU.2.2.2.2.2.2.2.2 (w := 2) (Or.inr rfl) nD (Nat.le_refl _)
  have hd1 := rf_dp_ok hPU.2.2.2.2.2.2.2.2 (w := 1) (Or.inl rfl) nD (Nat.le_refl _)
  have h60 : 60 ^ nD ≤ 60 ^ 4 := Nat.pow_le_pow_right (by decide) hd4
  have hdg : 0 < cr_dg f nD := Nat.gcd_pos_of_pos_left _ hd2.1
  have hdu : rf_dp f 2 nD / cr_dg f nD ≤ 12960000 := Nat.le_trans (Nat.div_le_self _ _) (by omega)
  have hdv : rf_dp f 1 nD / cr_dg f nD ≤ 12960000 := Nat.le_trans (Nat.div_le_self _ _) (by omega)
  have hdv0 : 0 < rf_dp f 1 nD / cr_dg f nD := Nat.div_pos (Nat.le_of_dvd hd1.1 (Nat.gcd_dvd_right _ _)) hdg
  have hnW8 : nW ≤ 8 * nO := Nat.le_trans hI.row.nW hPU.2.2.2.2.2.2.2.1
  refine lv_aload_n hx hb dL_law_931 rfl (lv_at hl 2 rfl) ?_
  refine lv_aload_n hx hb dL_law_932 rfl (lv_at hl 1 rfl) ?_
  refine lv_iload hx hb dL_law_933 (lv_at hl 0 rfl) ?_
  refine lv_iconst (v := (nI 1)) hx hb dL_law_935 (by decide) ?_
  refine lv_iadd hx hb dL_law_936 ?_
  refine fw_top (nI_add _ _) ?_
  refine va_sld hx hb hXs hbl hbA hw.2.1 (vp_in_nI (show (4 * i) + 1 < L by omega) (by omega)) dL_law_937 ?_
  rw [nI_clamp (show (4 * i) + 1 < 2 ^ 31 by omega)]
  refine lv_aload_n hx hb dL_law_938 rfl (lv_at hl 4 rfl) ?_
  refine fw_calli (fw_runSW (As := [.ref x, .int (xs ((4 * i) + 1)), .ref o]) (rest := []) C hz hcx hnc hw (c_L_gearsLeft l G _ _ x o _ _ g0 (xs ((4 * i) + 1)) _ _ hX ho (fun z => c_X8_gearsLeft l G F z x lc lt lo lm lw dr (nI T) oa tr ml f nJ nO (xs ((4 * i) + 1)) hl9 hX hO1 hK.2.2.1) (fun E h => h.1) (fun v F2 h => (show fw_kp F F2 (fun t => t.1 < 60) from wr_si h.1) _ _ _ ho (by decide))) (fw_cwSW (n := 3) hT wd_647 wd_648 wd_0 wd_649 (by decide +kernel) rfl rfl ⟨Nat.le_of_ble_eq_true rfl, Nat.le_of_ble_eq_true rfl⟩) rfl hl.1 rfl (Nat.le_of_ble_eq_true rfl) dL_law_939 ⟨by show c1 + 1 ≤ 875399; omega, by show n1 + 6 ≤ 6469906; omega⟩) hw (fun r F1 H locs hw hp => ?_)
  refine W.widen (k := c1 + 40) (n := n1 + 4000) (by omega) (by omega) ?_
  have hkF : fw_kp F F1 (fun t => t.1 ≤ 60) := by
    rcases hp with ⟨-, v, F2, h, hF1⟩ | ⟨hF1, -⟩
    · rw [hF1]
      have h60 : fw_kp F F2 (fun t => t.1 < 60) := wr_si h.1
      exact wr_k1 h60 (h60 _ _ _ ho (by decide))
    · rw [hF1]; exact fw_kp.rf
  have hm1 : mm_W G F1 y ad sc f := hmW.kp hkF (fun t h z => by omega)
  have hm : mm_M G (fun q : Nat => s.heap.size ≤ q) s F1 y ad sc f F1 H locs := ⟨hw, hm1, mm_keep.rf⟩
  refine lv_istore (lv' := [(5, .int r), (4, .int (nI (4 * i))), (0, .ref b), (1, .ref x), (2, .ref y), (3, .ref o)]) hx hb dL_law_942 hl (by decide) rfl (fun ls hl => ?_)
  refine lv_aload_n hx hb dL_law_944 rfl (lv_at hl 4 rfl) ?_
  refine lv_aload_n hx hb dL_law_945 rfl (lv_at hl 2 rfl) ?_
  refine lv_iload hx hb dL_law_946 (lv_at hl 1 rfl) ?_
  refine lv_iconst (v := (nI 1)) hx hb dL_law_948 (by decide) ?_
  refine lv_iadd hx hb dL_law_949 ?_
  refine fw_top (nI_add _ _) ?_
  refine va_sld hx hb hXs hbl hbA hw.2.1 (vp_in_nI (show (4 * i) + 1 < L by omega) (by omega)) dL_law_950 ?_
  rw [nI_clamp (show (4 * i) + 1 < 2 ^ 31 by omega)]
  refine mm_calli (As := [.int (xs ((4 * i) + 1))]) (rest := []) C hz hm (c_X9_gearsLeft l G _ _ y ad _ _ nO nJ (xs ((4 * i) + 1)) hm1 hMS.2.2.2.1 ho12 hMS.2.2.2.2.1 hI.j96) wd_929 yVX9_gearsLeft ⟨Nat.le_of_ble_eq_true rfl, Nat.le_of_ble_eq_true rfl⟩ rfl hl.1 rfl (Nat.le_of_ble_eq_true rfl) dL_law_951 ⟨by show c1 + 40 + 0 ≤ 875399; omega, by show n1 + 4000 + 0 ≤ 6469906; omega⟩ (fun b9 sc1 f1 F4 H locs hm hP => ?_)
  refine W.widen (k := c1 + 40) (n := n1 + 4000) (Nat.le_refl _) (Nat.le_refl _) ?_
  refine lv_istore (lv' := [(6, .int b9), (5, .int r), (4, .int (nI (4 * i))), (0, .ref b), (1, .ref x), (2, .ref y), (3, .ref o)]) hx hb dL_law_954 hl (by decide) rfl (fun ls hl => ?_)
  refine lv_aload_n hx hb dL_law_956 rfl (lv_at hl 5 rfl) ?_
  refine mm_calli (As := []) (rest := []) C hz hm (c_X9_thrown l G _ _ y ad _ _ hm.2.1) wd_813 yVX9_thrown ⟨Nat.le_of_ble_eq_true rfl, Nat.le_of_ble_eq_true rfl⟩ rfl hl.1 rfl (Nat.le_of_ble_eq_true rfl) dL_law_957 ⟨by show c1 + 40 + 0 ≤ 875399; omega, by show n1 + 4000 + 0 ≤ 6469906; omega⟩ (fun t9 sc2 f2 F5 H locs hm ht => ?_)
  refine W.widen (k := c1 + 40) (n := n1 + 4000) (Nat.le_refl _) (Nat.le_refl _) ?_
  obtain ⟨hsc, hff, ht⟩ := ht
  rw [hsc, hff] at hm
  have hw := hm.1
  have hag : sc1 0 = r ∧ ∃ gv, F5 o = some ((60, 0, 0), fw_la (fw_cJ G) 1 gv) ∧ (r = nI 0 → gv 0 = b9.toInt64) ∧ lw_R G F5 x y o (i + 1) := by
    rcases hp with ⟨hr, v, F2, h, hF1⟩ | ⟨hF1, hp⟩
    · have h60 : fw_kp F F2 (fun t => t.1 < 60) := wr_si h.1
      have hoF2 := h60 _ _ _ ho (by decide)
      obtain ⟨j, hj, ej, hv0⟩ := h.2
      obtain ⟨hf, hs, hb⟩ := hP
      have hb9 := hb j hj ej
      rw [ej] at hb9
      rw [ej, rf_ix_of (show nO ≤ 100 by omega) hj] at hs
      have hv : v = b9 := hv0.trans hb9.symm
      have e0 : sc1 0 = nI 0 := by rw [hs]; rfl
      rw [hf] at hm
      obtain ⟨gv, q1, q2, q3⟩ := wr_a (w := b9.toInt64) hoF2 hF1 hm.2.2 hm.2.1 (congrArg Int32.toInt64 hv) (show T ≤ 200 * (i + 1) by omega) (by rw [h.1]; exact hCL) hPU (by rw [hs]; exact hMS)
      exact ⟨e0.trans hr.symm, gv, q1, fun _ => q2, q3⟩
    · rw [hF1] at hm
      obtain ⟨hE, hr⟩ := hp
      obtain ⟨-, hE⟩ := hE
      obtain ⟨hf, hs, hb⟩ := hP
      rw [hE] at hs
      have e0 : sc1 0 = nI 1 := by rw [hs]; rfl
      rw [hf] at hm
      obtain ⟨q1, q3⟩ := wr_b (i := i) ho hm.2.2 hm.2.1 (show T ≤ 200 * (i + 1) by omega) hCL hPU (by rw [hs]; exact hMS)
      exact ⟨e0.trans hr.symm, g0, q1, fun z => absurd (hr.symm.trans z) (by decide), q3⟩
  obtain ⟨hth, gv, hgo, hgv, hR5⟩ := hag
  rw [hth] at ht
  refine lv_iload hx hb dL_law_960 (lv_at hl 1 rfl) ?_
  refine lv_icmp_eq (tgt := 967) hx hb dL_law_962 (by decide) (fun cx => ?_) (fun cx => absurd cx (fun h => h ht))
  refine lv_iload hx hb dL_law_967 (lv_at hl 1 rfl) ?_
  refine lv_if_ne (tgt := 984) hx hb dL_law_969 (by decide) (fun d9 => ?_) (fun d9 => ?_)
  · refine lv_goto (tgt := 1334) hx hb dL_law_984 (by decide) ?_
    exact K _ _ _ _ hw hR5 (lv_sub hl [2, 3, 4, 5, 6] rfl)
  · have d9 : r = 0 := d9
    have hgv := hgv d9
    refine lv_aload_n hx hb dL_law_972 rfl (lv_at hl 6 rfl) ?_
    refine lv_iconst (v := (nI 0)) hx hb dL_law_973 (by decide) ?_
    refine fw_lald hx hb hz hw hgo (vp_in_nI (show 0 < 1 by decide) (by decide)) dL_law_974 ?_
    rw [show (nI 0).toNatClampNeg = 0 from nI_clamp (by decide), hgv]
    refine lv_iload hx hb dL_law_975 (lv_at hl 0 rfl) ?_
    refine lv_i2l (v := b9.toInt64) hx hb dL_law_977 rfl ?_
    refine W.lcmp hx hb dL_law_978 ?_
    rw [lg_cmp_self]
    refine lv_if_eq (tgt := 984) hx hb dL_law_979 (by decide) (fun cx => ?_) (fun cx => absurd cx (fun h => h rfl))
    refine lv_goto (tgt := 1334) hx hb dL_law_984 (by decide) ?_
    exact K _ _ _ _ hw hR5 (lv_sub hl [2, 3, 4, 5, 6] rfl)
set_option maxHeartbeats 4000000 in
set_option maxRecDepth 100000 in
theorem law_doneAt {p : Program} {l : Launch} {e : Env} {s : State} {m : MethodId} {below : List Frame} {meth : Method} {c : Code} {b L : Nat} {xs : Nat → Int32} {G : fw_G} (E0 : lw_E p l s m meth c b L xs G) {F : fw_F} {x y o i : Nat} {H : Heap} {locs : List Loc} {ls : Array Slot} {c1 n1 : Nat} {Q : State → Prop} (hi4 : 4 * i + 3 < L) (hc1 : c1 + 40 ≤ 875399) (hn1 : n1 + 4000 ≤ 6469906) (hR : lw_R G F x y o i) (hw : fw_S G (fun q : Nat => s.heap.size ≤ q) s F H locs) (hl : lv_has ls 7 [(4, .int (nI (4 * i))), (0, .ref b), (1, .ref x), (2, .ref y), (3, .ref o)])
    (K : ∀ (F : fw_F) (H : Heap) (locs : List Loc) (ls : Array Slot), fw_S G (fun q : Nat => s.heap.size ≤ q) s F H locs → lw_R G F x y o (i + 1) → lv_has ls 7 [(4, .int (nI (4 * i))), (0, .ref b), (1, .ref x), (2, .ref y), (3, .ref o)] → W p l e room_1 s m #[Value.ref b] below meth c H locs (c1 + 40) (n1 + 4000) Q (F0 m 1334 ls [])) : W p l e room_1 s m #[Value.ref b] below meth c H locs (c1) (n1) Q (F0 m 987 ls []) := by
  obtain ⟨hx, hb, hml, hown, hT9, hz, hcx, hnc, hl9, hXs, hbl, hL⟩ := E0
  have hT := hT9
  have C : CallFix p m c code 7 s #[Value.ref b] fw_tb RL := ⟨hx, hb, hml, hown, hT⟩
  have hbA : ¬ (fun q : Nat => s.heap.size ≤ q) b := Nat.not_le.mpr hbl
  obtain ⟨ad, sc, f, g0, nC, nT, nO, nJ, nD, T, hmW, ho, hT200, hCL, hPU, hMS⟩ := hR
  have hCL9 := hCL
  obtain ⟨lc, lt, lo, lm, lw, dr, ds, dfr, ca, ta, sl, fr, oa, tr, ml, ma, ja, da, wj, sa, ms, nW, hX, hC, hT1, hTr, hO1, hK, hI, hZ, hD, htr⟩ := hCL9
  have hC9 := hC
  obtain ⟨hc10, ⟨arc, hLc⟩, hcs⟩ := hC9
  have hT9 := hT1
  obtain ⟨ht8, at9, hLt⟩ := hT9
  have hO9 := hO1
  obtain ⟨ho12, ao9, hLo⟩ := hO9
  have hK9 := hK
  obtain ⟨-, ⟨hnW, ⟨aw9, hLw⟩, -⟩, -, -⟩ := hK9
  have hD9 := hD
  obtain ⟨hd4, hD1, ⟨ad9, hD2⟩, hD3, hD4⟩ := hD9
  have hd2 := rf_dp_ok hPU.2.2.2.2.2.2.2.2 (w := 2) (Or.inr rfl) nD (Nat.le_refl _)
  have hd1 := rf_dp_ok hPU.2.2.2.2.2.2.2.2 (w := 1) (Or.inl rfl) nD (Nat.le_refl _)
  have h60 : 60 ^ nD ≤ 60 ^ 4 := Nat.pow_le_pow_right (by decide) hd4
  have hdg : 0 < cr_dg f nD := Nat.gcd_pos_of_pos_left _ hd2.1
  have hdu : rf_dp f 2 nD / cr_dg f nD ≤ 12960000 := Nat.le_trans (Nat.div_le_self _ _) (by omega)
  have hdv : rf_dp f 1 nD / cr_dg f nD ≤ 12960000 := Nat.le_trans (Nat.div_le_self _ _) (by omega)
  have hdv0 : 0 < rf_dp f 1 nD / cr_dg f nD := Nat.div_pos (Nat.le_of_dvd hd1.1 (Nat.gcd_dvd_right _ _)) hdg
  have hnW8 : nW ≤ 8 * nO := Nat.le_trans hI.row.nW hPU.2.2.2.2.2.2.2.1
  refine lv_aload_n hx hb dL_law_987 rfl (lv_at hl 2 rfl) ?_
  refine lv_aload_n hx hb dL_law_988 rfl (lv_at hl 1 rfl) ?_
  refine lv_iload hx hb dL_law_989 (lv_at hl 0 rfl) ?_
  refine lv_iconst (v := (nI 1)) hx hb dL_law_991 (by decide) ?_
  refine lv_iadd hx hb dL_law_992 ?_
  refine fw_top (nI_add _ _) ?_
  refine va_sld hx hb hXs hbl hbA hw.2.1 (vp_in_nI (show (4 * i) + 1 < L by omega) (by omega)) dL_law_993 ?_
  rw [nI_clamp (show (4 * i) + 1 < 2 ^ 31 by omega)]
  refine lv_aload_n hx hb dL_law_994 rfl (lv_at hl 4 rfl) ?_
  refine fw_calli (fw_runSW (As := [.ref x, .int (xs ((4 * i) + 1)), .ref o]) (rest := []) C hz hcx hnc hw (c_L_doneAt l G _ _ x o _ _ g0 (xs ((4 * i) + 1)) _ _ hX ho (fun z => c_X8_doneAt l G F z x lc lt lo lm lw dr (nI T) oa tr ml f nJ nO (xs ((4 * i) + 1)) hl9 hX hO1 hK.2.2.1) (fun E h => h.1) (fun v F2 h => (show fw_kp F F2 (fun t => t.1 < 60) from wr_si h.1) _ _ _ ho (by decide))) (fw_cwSW (n := 3) hT wd_659 wd_660 wd_0 wd_661 (by decide +kernel) rfl rfl ⟨Nat.le_of_ble_eq_true rfl, Nat.le_of_ble_eq_true rfl⟩) rfl hl.1 rfl (Nat.le_of_ble_eq_true rfl) dL_law_995 ⟨by show c1 + 1 ≤ 875399; omega, by show n1 + 6 ≤ 6469906; omega⟩) hw (fun r F1 H locs hw hp => ?_)
  refine W.widen (k := c1 + 40) (n := n1 + 4000) (by omega) (by omega) ?_
  have hkF : fw_kp F F1 (fun t => t.1 ≤ 60) := by
    rcases hp with ⟨-, v, F2, h, hF1⟩ | ⟨hF1, -⟩
    · rw [hF1]
      have h60 : fw_kp F F2 (fun t => t.1 < 60) := wr_si h.1
      exact wr_k1 h60 (h60 _ _ _ ho (by decide))
    · rw [hF1]; exact fw_kp.rf
  have hm1 : mm_W G F1 y ad sc f := hmW.kp hkF (fun t h z => by omega)
  have hm : mm_M G (fun q : Nat => s.heap.size ≤ q) s F1 y ad sc f F1 H locs := ⟨hw, hm1, mm_keep.rf⟩
  refine lv_istore (lv' := [(5, .int r), (4, .int (nI (4 * i))), (0, .ref b), (1, .ref x), (2, .ref y), (3, .ref o)]) hx hb dL_law_998 hl (by decide) rfl (fun ls hl => ?_)
  refine lv_aload_n hx hb dL_law_1000 rfl (lv_at hl 4 rfl) ?_
  refine lv_aload_n hx hb dL_law_1001 rfl (lv_at hl 2 rfl) ?_
  refine lv_iload hx hb dL_law_1002 (lv_at hl 1 rfl) ?_
  refine lv_iconst (v := (nI 1)) hx hb dL_law_1004 (by decide) ?_
  refine lv_iadd hx hb dL_law_1005 ?_
  refine fw_top (nI_add _ _) ?_
  refine va_sld hx hb hXs hbl hbA hw.2.1 (vp_in_nI (show (4 * i) + 1 < L by omega) (by omega)) dL_law_1006 ?_
  rw [nI_clamp (show (4 * i) + 1 < 2 ^ 31 by omega)]
  refine mm_calli (As := [.int (xs ((4 * i) + 1))]) (rest := []) C hz hm (c_X9_doneAt l G _ _ y ad _ _ nO (xs ((4 * i) + 1)) hm1 hMS.2.2.2.1 ho12) wd_937 yVX9_doneAt ⟨Nat.le_of_ble_eq_true rfl, Nat.le_of_ble_eq_true rfl⟩ rfl hl.1 rfl (Nat.le_of_ble_eq_true rfl) dL_law_1007 ⟨by show c1 + 40 + 0 ≤ 875399; omega, by show n1 + 4000 + 0 ≤ 6469906; omega⟩ (fun b9 sc1 f1 F4 H locs hm hP => ?_)
  refine W.widen (k := c1 + 40) (n := n1 + 4000) (Nat.le_refl _) (Nat.le_refl _) ?_
  refine lv_istore (lv' := [(6, .int b9), (5, .int r), (4, .int (nI (4 * i))), (0, .ref b), (1, .ref x), (2, .ref y), (3, .ref o)]) hx hb dL_law_1010 hl (by decide) rfl (fun ls hl => ?_)
  refine lv_aload_n hx hb dL_law_1012 rfl (lv_at hl 5 rfl) ?_
  refine mm_calli (As := []) (rest := []) C hz hm (c_X9_thrown l G _ _ y ad _ _ hm.2.1) wd_813 yVX9_thrown ⟨Nat.le_of_ble_eq_true rfl, Nat.le_of_ble_eq_true rfl⟩ rfl hl.1 rfl (Nat.le_of_ble_eq_true rfl) dL_law_1013 ⟨by show c1 + 40 + 0 ≤ 875399; omega, by show n1 + 4000 + 0 ≤ 6469906; omega⟩ (fun t9 sc2 f2 F5 H locs hm ht => ?_)
  refine W.widen (k := c1 + 40) (n := n1 + 4000) (Nat.le_refl _) (Nat.le_refl _) ?_
  obtain ⟨hsc, hff, ht⟩ := ht
  rw [hsc, hff] at hm
  have hw := hm.1
  have hag : sc1 0 = r ∧ ∃ gv, F5 o = some ((60, 0, 0), fw_la (fw_cJ G) 1 gv) ∧ (r = nI 0 → gv 0 = b9.toInt64) ∧ lw_R G F5 x y o (i + 1) := by
    rcases hp with ⟨hr, v, F2, h, hF1⟩ | ⟨hF1, hp⟩
    · have h60 : fw_kp F F2 (fun t => t.1 < 60) := wr_si h.1
      have hoF2 := h60 _ _ _ ho (by decide)
      obtain ⟨j, hj, ej, hv0⟩ := h.2
      obtain ⟨hf, hs, hb⟩ := hP
      have hb9 := hb j hj ej
      have hv9 := hb9
      rw [ej, rf_ix_of (show nO ≤ 100 by omega) hj] at hs
      have hv : v = b9 := hv0.trans hb9.symm
      have e0 : sc1 0 = nI 0 := by rw [hs]; rfl
      rw [hf] at hm
      obtain ⟨gv, q1, q2, q3⟩ := wr_a (w := b9.toInt64) hoF2 hF1 hm.2.2 hm.2.1 (congrArg Int32.toInt64 hv) (show T ≤ 200 * (i + 1) by omega) (by rw [h.1]; exact hCL) hPU (by rw [hs]; exact hMS)
      exact ⟨e0.trans hr.symm, gv, q1, fun _ => q2, q3⟩
    · rw [hF1] at hm
      obtain ⟨hE, hr⟩ := hp
      obtain ⟨-, hE⟩ := hE
      obtain ⟨hf, hs, hb⟩ := hP
      rw [hE] at hs
      have e0 : sc1 0 = nI 1 := by rw [hs]; rfl
      rw [hf] at hm
      obtain ⟨q1, q3⟩ := wr_b (i := i) ho hm.2.2 hm.2.1 (show T ≤ 200 * (i + 1) by omega) hCL hPU (by rw [hs]; exact hMS)
      exact ⟨e0.trans hr.symm, g0, q1, fun z => absurd (hr.symm.trans z) (by decide), q3⟩
  obtain ⟨hth, gv, hgo, hgv, hR5⟩ := hag
  rw [hth] at ht
  refine lv_iload hx hb dL_law_1016 (lv_at hl 1 rfl) ?_
  refine lv_icmp_eq (tgt := 1023) hx hb dL_law_1018 (by decide) (fun cx => ?_) (fun cx => absurd cx (fun h => h ht))
  refine lv_iload hx hb dL_law_1023 (lv_at hl 1 rfl) ?_
  refine lv_if_ne (tgt := 1040) hx hb dL_law_1025 (by decide) (fun d9 => ?_) (fun d9 => ?_)
  · refine lv_goto (tgt := 1334) hx hb dL_law_1040 (by decide) ?_
    exact K _ _ _ _ hw hR5 (lv_sub hl [2, 3, 4, 5, 6] rfl)
  · have d9 : r = 0 := d9
    have hgv := hgv d9
    refine lv_aload_n hx hb dL_law_1028 rfl (lv_at hl 6 rfl) ?_
    refine lv_iconst (v := (nI 0)) hx hb dL_law_1029 (by decide) ?_
    refine fw_lald hx hb hz hw hgo (vp_in_nI (show 0 < 1 by decide) (by decide)) dL_law_1030 ?_
    rw [show (nI 0).toNatClampNeg = 0 from nI_clamp (by decide), hgv]
    refine lv_iload hx hb dL_law_1031 (lv_at hl 0 rfl) ?_
    refine lv_i2l (v := b9.toInt64) hx hb dL_law_1033 rfl ?_
    refine W.lcmp hx hb dL_law_1034 ?_
    rw [lg_cmp_self]
    refine lv_if_eq (tgt := 1040) hx hb dL_law_1035 (by decide) (fun cx => ?_) (fun cx => absurd cx (fun h => h rfl))
    refine lv_goto (tgt := 1334) hx hb dL_law_1040 (by decide) ?_
    exact K _ _ _ _ hw hR5 (lv_sub hl [2, 3, 4, 5, 6] rfl)
set_option maxHeartbeats 4000000 in
set_option maxRecDepth 100000 in
theorem law_test {p : Program} {l : Launch} {e : Env} {s : State} {m : MethodId} {below : List Frame} {meth : Method} {c : Code} {b L : Nat} {xs : Nat → Int32} {G : fw_G} (E0 : lw_E p l s m meth c b L xs G) {F : fw_F} {x y o i : Nat} {H : Heap} {locs : List Loc} {ls : Array Slot} {c1 n1 : Nat} {Q : State → Prop} (hi4 : 4 * i + 3 < L) (hc1 : c1 + 40 ≤ 875399) (hn1 : n1 + 4000 ≤ 6469906) (hR : lw_R G F x y o i) (hw : fw_S G (fun q : Nat => s.heap.size ≤ q) s F H locs) (hl : lv_has ls 7 [(4, .int (nI (4 * i))), (0, .ref b), (1, .ref x), (2, .ref y), (3, .ref o)])
    (K : ∀ (F : fw_F) (H : Heap) (locs : List Loc) (ls : Array Slot), fw_S G (fun q : Nat => s.heap.size ≤ q) s F H locs → lw_R G F x y o (i + 1) → lv_has ls 7 [(4, .int (nI (4 * i))), (0, .ref b), (1, .ref x), (2, .ref y), (3, .ref o)] → W p l e room_1 s m #[Value.ref b] below meth c H locs (c1 + 40) (n1 + 4000) Q (F0 m 1334 ls [])) : W p l e room_1 s m #[Value.ref b] below meth c H locs (c1) (n1) Q (F0 m 1043 ls []) := by
  obtain ⟨hx, hb, hml, hown, hT9, hz, hcx, hnc, hl9, hXs, hbl, hL⟩ := E0
  have hT := hT9
  have C : CallFix p m c code 7 s #[Value.ref b] fw_tb RL := ⟨hx, hb, hml, hown, hT⟩
  have hbA : ¬ (fun q : Nat => s.heap.size ≤ q) b := Nat.not_le.mpr hbl
  obtain ⟨ad, sc, f, g0, nC, nT, nO, nJ, nD, T, hmW, ho, hT200, hCL, hPU, hMS⟩ := hR
  have hCL9 := hCL
  obtain ⟨lc, lt, lo, lm, lw, dr, ds, dfr, ca, ta, sl, fr, oa, tr, ml, ma, ja, da, wj, sa, ms, nW, hX, hC, hT1, hTr, hO1, hK, hI, hZ, hD, htr⟩ := hCL9
  have hC9 := hC
  obtain ⟨hc10, ⟨arc, hLc⟩, hcs⟩ := hC9
  have hT9 := hT1
  obtain ⟨ht8, at9, hLt⟩ := hT9
  have hO9 := hO1
  obtain ⟨ho12, ao9, hLo⟩ := hO9
  have hK9 := hK
  obtain ⟨-, ⟨hnW, ⟨aw9, hLw⟩, -⟩, -, -⟩ := hK9
  have hD9 := hD
  obtain ⟨hd4, hD1, ⟨ad9, hD2⟩, hD3, hD4⟩ := hD9
  have hd2 := rf_dp_ok hPU.2.2.2.2.2.2.2.2 (w := 2) (Or.inr rfl) nD (Nat.le_refl _)
  have hd1 := rf_dp_ok hPU.2.2.2.2.2.2.2.2 (w := 1) (Or.inl rfl) nD (Nat.le_refl _)
  have h60 : 60 ^ nD ≤ 60 ^ 4 := Nat.pow_le_pow_right (by decide) hd4
  have hdg : 0 < cr_dg f nD := Nat.gcd_pos_of_pos_left _ hd2.1
  have hdu : rf_dp f 2 nD / cr_dg f nD ≤ 12960000 := Nat.le_trans (Nat.div_le_self _ _) (by omega)
  have hdv : rf_dp f 1 nD / cr_dg f nD ≤ 12960000 := Nat.le_trans (Nat.div_le_self _ _) (by omega)
  have hdv0 : 0 < rf_dp f 1 nD / cr_dg f nD := Nat.div_pos (Nat.le_of_dvd hd1.1 (Nat.gcd_dvd_right _ _)) hdg
  have hnW8 : nW ≤ 8 * nO := Nat.le_trans hI.row.nW hPU.2.2.2.2.2.2.2.1
  refine lv_aload_n hx hb dL_law_1043 rfl (lv_at hl 2 rfl) ?_
  refine lv_aload_n hx hb dL_law_1044 rfl (lv_at hl 1 rfl) ?_
  refine lv_iload hx hb dL_law_1045 (lv_at hl 0 rfl) ?_
  refine lv_iconst (v := (nI 1)) hx hb dL_law_1047 (by decide) ?_
  refine lv_iadd hx hb dL_law_1048 ?_
  refine fw_top (nI_add _ _) ?_
  refine va_sld hx hb hXs hbl hbA hw.2.1 (vp_in_nI (show (4 * i) + 1 < L by omega) (by omega)) dL_law_1049 ?_
  rw [nI_clamp (show (4 * i) + 1 < 2 ^ 31 by omega)]
  refine lv_aload_n hx hb dL_law_1050 rfl (lv_at hl 1 rfl) ?_
  refine lv_iload hx hb dL_law_1051 (lv_at hl 0 rfl) ?_
  refine lv_iconst (v := (nI 2)) hx hb dL_law_1053 (by decide) ?_
  refine lv_iadd hx hb dL_law_1054 ?_
  refine fw_top (nI_add _ _) ?_
  refine va_sld hx hb hXs hbl hbA hw.2.1 (vp_in_nI (show (4 * i) + 2 < L by omega) (by omega)) dL_law_1055 ?_
  rw [nI_clamp (show (4 * i) + 2 < 2 ^ 31 by omega)]
  refine lv_aload_n hx hb dL_law_1056 rfl (lv_at hl 1 rfl) ?_
  refine lv_iload hx hb dL_law_1057 (lv_at hl 0 rfl) ?_
  refine lv_iconst (v := (nI 3)) hx hb dL_law_1059 (by decide) ?_
  refine lv_iadd hx hb dL_law_1060 ?_
  refine fw_top (nI_add _ _) ?_
  refine va_sld hx hb hXs hbl hbA hw.2.1 (vp_in_nI (show (4 * i) + 3 < L by omega) (by omega)) dL_law_1061 ?_
  rw [nI_clamp (show (4 * i) + 3 < 2 ^ 31 by omega)]
  refine lv_aload_n hx hb dL_law_1062 rfl (lv_at hl 4 rfl) ?_
  refine fw_calli (fw_runSW (As := [.ref x, .int (xs ((4 * i) + 1)), .int (xs ((4 * i) + 2)), .int (xs ((4 * i) + 3)), .ref o]) (rest := []) C hz hcx hnc hw (c_L_test l G _ _ x o _ _ g0 (xs ((4 * i) + 1)) (xs ((4 * i) + 2)) (xs ((4 * i) + 3)) _ _ hX ho (fun z => c_X8_test l G F z x lc lt lo lm lw dr (nI T) oa tr ml ta sl fr ms sa f nJ nO nT (xs ((4 * i) + 1)) (xs ((4 * i) + 2)) (xs ((4 * i) + 3)) hl9 hX hO1 hK.2.2.1 hTr hZ hI.j96 hPU.1 (fun j hj => ⟨(hPU.2.1 j hj).2, htr j hj⟩) hPU.2.2.2.2.2.1) (fun E h => h.elim (fun h => Or.inl h.1) (fun h => h.elim (fun h => Or.inr (Or.inl h.1)) (fun h => Or.inr (Or.inr h.1)))) (fun v F2 h => (show fw_kp F F2 (fun t => t.1 < 60) from (by
    obtain ⟨j, _, _, -, -, -, -, -, -, -, -, -, -, -, -, -, -, hk⟩ := h
    exact hk.wk (fun t z => by
      rcases z with rfl | z | rfl
      · show (5 : Nat) < 60; decide
      · show t.1 < 60; omega
      · show (3 : Nat) < 60; decide))) _ _ _ ho (by decide))) (fw_cwSW (n := 5) hT wd_666 wd_667 wd_0 wd_668 (by decide +kernel) rfl rfl ⟨Nat.le_of_ble_eq_true rfl, Nat.le_of_ble_eq_true rfl⟩) rfl hl.1 rfl (Nat.le_of_ble_eq_true rfl) dL_law_1063 ⟨by show c1 + 2 ≤ 875399; omega, by show n1 + 12 ≤ 6469906; omega⟩) hw (fun r F1 H locs hw hp => ?_)
  refine W.widen (k := c1 + 40) (n := n1 + 4000) (by omega) (by omega) ?_
  have hkF : fw_kp F F1 (fun t => t.1 ≤ 60) := by
    rcases hp with ⟨-, v, F2, h, hF1⟩ | ⟨hF1, -⟩
    · rw [hF1]
      have h60 : fw_kp F F2 (fun t => t.1 < 60) := (by
        obtain ⟨j, _, _, -, -, -, -, -, -, -, -, -, -, -, -, -, -, hk⟩ := h
        exact hk.wk (fun t z => by
          rcases z with rfl | z | rfl
          · show (5 : Nat) < 60; decide
          · show t.1 < 60; omega
          · show (3 : Nat) < 60; decide))
      exact wr_k1 h60 (h60 _ _ _ ho (by decide))
    · rw [hF1]; exact fw_kp.rf
  have hm1 : mm_W G F1 y ad sc f := hmW.kp hkF (fun t h z => by omega)
  have hm : mm_M G (fun q : Nat => s.heap.size ≤ q) s F1 y ad sc f F1 H locs := ⟨hw, hm1, mm_keep.rf⟩
  refine lv_istore (lv' := [(5, .int r), (4, .int (nI (4 * i))), (0, .ref b), (1, .ref x), (2, .ref y), (3, .ref o)]) hx hb dL_law_1066 hl (by decide) rfl (fun ls hl => ?_)
  refine lv_aload_n hx hb dL_law_1068 rfl (lv_at hl 4 rfl) ?_
  refine lv_aload_n hx hb dL_law_1069 rfl (lv_at hl 2 rfl) ?_
  refine lv_iload hx hb dL_law_1070 (lv_at hl 1 rfl) ?_
  refine lv_iconst (v := (nI 1)) hx hb dL_law_1072 (by decide) ?_
  refine lv_iadd hx hb dL_law_1073 ?_
  refine fw_top (nI_add _ _) ?_
  refine va_sld hx hb hXs hbl hbA hw.2.1 (vp_in_nI (show (4 * i) + 1 < L by omega) (by omega)) dL_law_1074 ?_
  rw [nI_clamp (show (4 * i) + 1 < 2 ^ 31 by omega)]
  refine lv_aload_n hx hb dL_law_1075 rfl (lv_at hl 2 rfl) ?_
  refine lv_iload hx hb dL_law_1076 (lv_at hl 1 rfl) ?_
  refine lv_iconst (v := (nI 2)) hx hb dL_law_1078 (by decide) ?_
  refine lv_iadd hx hb dL_law_1079 ?_
  refine fw_top (nI_add _ _) ?_
  refine va_sld hx hb hXs hbl hbA hw.2.1 (vp_in_nI (show (4 * i) + 2 < L by omega) (by omega)) dL_law_1080 ?_
  rw [nI_clamp (show (4 * i) + 2 < 2 ^ 31 by omega)]
  refine lv_aload_n hx hb dL_law_1081 rfl (lv_at hl 2 rfl) ?_
  refine lv_iload hx hb dL_law_1082 (lv_at hl 1 rfl) ?_
  refine lv_iconst (v := (nI 3)) hx hb dL_law_1084 (by decide) ?_
  refine lv_iadd hx hb dL_law_1085 ?_
  refine fw_top (nI_add _ _) ?_
  refine va_sld hx hb hXs hbl hbA hw.2.1 (vp_in_nI (show (4 * i) + 3 < L by omega) (by omega)) dL_law_1086 ?_
  rw [nI_clamp (show (4 * i) + 3 < 2 ^ 31 by omega)]
  refine mm_calli (As := [.int (xs ((4 * i) + 1)), .int (xs ((4 * i) + 2)), .int (xs ((4 * i) + 3))]) (rest := []) C hz hm (c_X9_test l G _ _ y ad _ _ nO nT (xs ((4 * i) + 1)) (xs ((4 * i) + 2)) (xs ((4 * i) + 3)) hm1 hMS.2.2.2.1 ho12 ht8 hPU.1 hPU.2.1) wd_941 yVX9_test ⟨Nat.le_of_ble_eq_true rfl, Nat.le_of_ble_eq_true rfl⟩ rfl hl.1 rfl (Nat.le_of_ble_eq_true rfl) dL_law_1087 ⟨by show c1 + 40 + 0 ≤ 875399; omega, by show n1 + 4000 + 0 ≤ 6469906; omega⟩ (fun b9 sc1 f1 F4 H locs hm hP => ?_)
  refine W.widen (k := c1 + 40) (n := n1 + 4000) (Nat.le_refl _) (Nat.le_refl _) ?_
  refine lv_istore (lv' := [(6, .int b9), (5, .int r), (4, .int (nI (4 * i))), (0, .ref b), (1, .ref x), (2, .ref y), (3, .ref o)]) hx hb dL_law_1090 hl (by decide) rfl (fun ls hl => ?_)
  refine lv_aload_n hx hb dL_law_1092 rfl (lv_at hl 5 rfl) ?_
  refine mm_calli (As := []) (rest := []) C hz hm (c_X9_thrown l G _ _ y ad _ _ hm.2.1) wd_813 yVX9_thrown ⟨Nat.le_of_ble_eq_true rfl, Nat.le_of_ble_eq_true rfl⟩ rfl hl.1 rfl (Nat.le_of_ble_eq_true rfl) dL_law_1093 ⟨by show c1 + 40 + 0 ≤ 875399; omega, by show n1 + 4000 + 0 ≤ 6469906; omega⟩ (fun t9 sc2 f2 F5 H locs hm ht => ?_)
  refine W.widen (k := c1 + 40) (n := n1 + 4000) (Nat.le_refl _) (Nat.le_refl _) ?_
  obtain ⟨hsc, hff, ht⟩ := ht
  rw [hsc, hff] at hm
  have hw := hm.1
  have hag : sc1 0 = r ∧ ∃ gv, F5 o = some ((60, 0, 0), fw_la (fw_cJ G) 1 gv) ∧ (r = nI 0 → gv 0 = (if b9 = 0 then 0 else 1)) ∧ lw_R G F5 x y o (i + 1) := by
    rcases hp with ⟨hr, v, F2, h, hF1⟩ | ⟨hF1, hp⟩
    · have h60 : fw_kp F F2 (fun t => t.1 < 60) := (by
        obtain ⟨j, _, _, -, -, -, -, -, -, -, -, -, -, -, -, -, -, hk⟩ := h
        exact hk.wk (fun t z => by
          rcases z with rfl | z | rfl
          · show (5 : Nat) < 60; decide
          · show t.1 < 60; omega
          · show (3 : Nat) < 60; decide))
      have hoF2 := h60 _ _ _ ho (by decide)
      obtain ⟨j, i1, i2, hj, ej, a1, a2, a3, a4, eu, ev, hl0, h14, hv, z1, z2, z3, hk⟩ := h
      have hok : rf_okT (xs ((4 * i) + 2)) (xs ((4 * i) + 3)) = true := by rw [rf_okT, eu, ev, rf_in_of_n (by decide) a1 a2, rf_in_of_n (by decide) a3 a4]; rfl
      obtain ⟨hs, hf, hb9⟩ := hP.2.2.2 j i1 i2 hj ej hok eu ev a1 a2 a3 a4 (hPU.2.2.2.2.2.2.1 j hj hl0) h14
      rw [← hf] at hv z1 z2 z3 hb9
      obtain ⟨c1, c2, -⟩ := st_test hX hC hT1 hTr hO1 hK hI hZ hD htr hPU hj h14 hf z1 z2 z3 hk
      have e0 : sc1 0 = nI 0 := by rw [hs]; rfl
      obtain ⟨gv, q1, q2, q3⟩ := wr_a (w := (if b9 = 0 then 0 else 1)) hoF2 hF1 hm.2.2 hm.2.1 (by rw [hv, hb9]) (show T ≤ 200 * (i + 1) by omega) c1 c2 (by rw [hs]; exact hMS)
      exact ⟨e0.trans hr.symm, gv, q1, fun _ => q2, q3⟩
    · rw [hF1] at hm
      rcases hp with ⟨hE, hr⟩ | ⟨hE, hr⟩ | ⟨hE, hr⟩
      · rcases hE with ⟨q9, hE⟩ | ⟨q9, hE⟩ | ⟨q9, hE⟩
        · obtain ⟨hf, hs⟩ := hP.1 hE
          have e0 : sc1 0 = nI 1 := by rw [hs]; rfl
          rw [hf] at hm
          obtain ⟨q1, q3⟩ := wr_b (i := i) ho hm.2.2 hm.2.1 (show T ≤ 200 * (i + 1) by omega) hCL hPU (by rw [hs]; exact hMS)
          exact ⟨e0.trans hr.symm, g0, q1, fun z => absurd (hr.symm.trans z) (by decide), q3⟩
        · exact absurd q9 (by decide)
        · exact absurd q9 (by decide)
      · rcases hE with ⟨q9, hE⟩ | ⟨q9, hE⟩ | ⟨q9, hE⟩
        · exact absurd q9 (by decide)
        · obtain ⟨hf, hs⟩ := hP.2.1 hE.1 hE.2
          have e0 : sc1 0 = nI 2 := by rw [hs]; rfl
          rw [hf] at hm
          obtain ⟨q1, q3⟩ := wr_b (i := i) ho hm.2.2 hm.2.1 (show T ≤ 200 * (i + 1) by omega) hCL hPU (by rw [hs]; exact hMS)
          exact ⟨e0.trans hr.symm, g0, q1, fun z => absurd (hr.symm.trans z) (by decide), q3⟩
        · exact absurd q9 (by decide)
      · rcases hE with ⟨q9, hE⟩ | ⟨q9, hE⟩ | ⟨q9, hE⟩
        · exact absurd q9 (by decide)
        · exact absurd q9 (by decide)
        · obtain ⟨j, hj, ej, hok, hE⟩ := hE
          obtain ⟨hf, hs⟩ := hP.2.2.1 j hj ej hok (hE.elim (fun z => Or.inl (hI.don j hj z)) Or.inr)
          have e0 : sc1 0 = nI 3 := by rw [hs]; rfl
          rw [hf] at hm
          obtain ⟨q1, q3⟩ := wr_b (i := i) ho hm.2.2 hm.2.1 (show T ≤ 200 * (i + 1) by omega) hCL hPU (by rw [hs]; exact hMS)
          exact ⟨e0.trans hr.symm, g0, q1, fun z => absurd (hr.symm.trans z) (by decide), q3⟩
  obtain ⟨hth, gv, hgo, hgv, hR5⟩ := hag
  rw [hth] at ht
  refine lv_iload hx hb dL_law_1096 (lv_at hl 1 rfl) ?_
  refine lv_icmp_eq (tgt := 1103) hx hb dL_law_1098 (by decide) (fun cx => ?_) (fun cx => absurd cx (fun h => h ht))
  refine lv_iload hx hb dL_law_1103 (lv_at hl 1 rfl) ?_
  refine lv_if_ne (tgt := 1127) hx hb dL_law_1105 (by decide) (fun d9 => ?_) (fun d9 => ?_)
  · refine lv_goto (tgt := 1334) hx hb dL_law_1127 (by decide) ?_
    exact K _ _ _ _ hw hR5 (lv_sub hl [2, 3, 4, 5, 6] rfl)
  · have d9 : r = 0 := d9
    have hgv := hgv d9
    refine lv_aload_n hx hb dL_law_1108 rfl (lv_at hl 6 rfl) ?_
    refine lv_iconst (v := (nI 0)) hx hb dL_law_1109 (by decide) ?_
    refine fw_lald hx hb hz hw hgo (vp_in_nI (show 0 < 1 by decide) (by decide)) dL_law_1110 ?_
    rw [show (nI 0).toNatClampNeg = 0 from nI_clamp (by decide), hgv]
    refine lv_iload hx hb dL_law_1111 (lv_at hl 0 rfl) ?_
    refine lv_if_eq (tgt := 1120) hx hb dL_law_1113 (by decide) (fun d8 => ?_) (fun d8 => ?_)
    · rw [if_pos (show b9 = 0 from d8)]
      refine lv_lconst (v := (0 : Int64)) hx hb dL_law_1120 (by decide) ?_
      refine W.lcmp hx hb dL_law_1121 ?_
      rw [lg_cmp_self]
      refine lv_if_eq (tgt := 1127) hx hb dL_law_1122 (by decide) (fun cx => ?_) (fun cx => absurd cx (fun h => h rfl))
      refine lv_goto (tgt := 1334) hx hb dL_law_1127 (by decide) ?_
      exact K _ _ _ _ hw hR5 (lv_sub hl [2, 3, 4, 5, 6] rfl)
    · rw [if_neg (show ¬ b9 = 0 from d8)]
      refine lv_lconst (v := (1 : Int64)) hx hb dL_law_1116 (by decide) ?_
      refine lv_goto (tgt := 1121) hx hb dL_law_1117 (by decide) ?_
      refine W.lcmp hx hb dL_law_1121 ?_
      rw [lg_cmp_self]
      refine lv_if_eq (tgt := 1127) hx hb dL_law_1122 (by decide) (fun cx => ?_) (fun cx => absurd cx (fun h => h rfl))
      refine lv_goto (tgt := 1334) hx hb dL_law_1127 (by decide) ?_
      exact K _ _ _ _ hw hR5 (lv_sub hl [2, 3, 4, 5, 6] rfl)
set_option maxHeartbeats 4000000 in
set_option maxRecDepth 100000 in
theorem law_wear {p : Program} {l : Launch} {e : Env} {s : State} {m : MethodId} {below : List Frame} {meth : Method} {c : Code} {b L : Nat} {xs : Nat → Int32} {G : fw_G} (E0 : lw_E p l s m meth c b L xs G) {F : fw_F} {x y o i : Nat} {H : Heap} {locs : List Loc} {ls : Array Slot} {c1 n1 : Nat} {Q : State → Prop} (hi4 : 4 * i + 3 < L) (hc1 : c1 + 40 ≤ 875399) (hn1 : n1 + 4000 ≤ 6469906) (hR : lw_R G F x y o i) (hw : fw_S G (fun q : Nat => s.heap.size ≤ q) s F H locs) (hl : lv_has ls 7 [(4, .int (nI (4 * i))), (0, .ref b), (1, .ref x), (2, .ref y), (3, .ref o)])
    (K : ∀ (F : fw_F) (H : Heap) (locs : List Loc) (ls : Array Slot), fw_S G (fun q : Nat => s.heap.size ≤ q) s F H locs → lw_R G F x y o (i + 1) → lv_has ls 7 [(4, .int (nI (4 * i))), (0, .ref b), (1, .ref x), (2, .ref y), (3, .ref o)] → W p l e room_1 s m #[Value.ref b] below meth c H locs (c1 + 40) (n1 + 4000) Q (F0 m 1334 ls [])) : W p l e room_1 s m #[Value.ref b] below meth c H locs (c1) (n1) Q (F0 m 1130 ls []) := by
  obtain ⟨hx, hb, hml, hown, hT9, hz, hcx, hnc, hl9, hXs, hbl, hL⟩ := E0
  have hT := hT9
  have C : CallFix p m c code 7 s #[Value.ref b] fw_tb RL := ⟨hx, hb, hml, hown, hT⟩
  have hbA : ¬ (fun q : Nat => s.heap.size ≤ q) b := Nat.not_le.mpr hbl
  obtain ⟨ad, sc, f, g0, nC, nT, nO, nJ, nD, T, hmW, ho, hT200, hCL, hPU, hMS⟩ := hR
  have hCL9 := hCL
  obtain ⟨lc, lt, lo, lm, lw, dr, ds, dfr, ca, ta, sl, fr, oa, tr, ml, ma, ja, da, wj, sa, ms, nW, hX, hC, hT1, hTr, hO1, hK, hI, hZ, hD, htr⟩ := hCL9
  have hC9 := hC
  obtain ⟨hc10, ⟨arc, hLc⟩, hcs⟩ := hC9
  have hT9 := hT1
  obtain ⟨ht8, at9, hLt⟩ := hT9
  have hO9 := hO1
  obtain ⟨ho12, ao9, hLo⟩ := hO9
  have hK9 := hK
  obtain ⟨-, ⟨hnW, ⟨aw9, hLw⟩, -⟩, -, -⟩ := hK9
  have hD9 := hD
  obtain ⟨hd4, hD1, ⟨ad9, hD2⟩, hD3, hD4⟩ := hD9
  have hd2 := rf_dp_ok hPU.2.2.2.2.2.2.2.2 (w := 2) (Or.inr rfl) nD (Nat.le_refl _)
  have hd1 := rf_dp_ok hPU.2.2.2.2.2.2.2.2 (w := 1) (Or.inl rfl) nD (Nat.le_refl _)
  have h60 : 60 ^ nD ≤ 60 ^ 4 := Nat.pow_le_pow_right (by decide) hd4
  have hdg : 0 < cr_dg f nD := Nat.gcd_pos_of_pos_left _ hd2.1
  have hdu : rf_dp f 2 nD / cr_dg f nD ≤ 12960000 := Nat.le_trans (Nat.div_le_self _ _) (by omega)
  have hdv : rf_dp f 1 nD / cr_dg f nD ≤ 12960000 := Nat.le_trans (Nat.div_le_self _ _) (by omega)
  have hdv0 : 0 < rf_dp f 1 nD / cr_dg f nD := Nat.div_pos (Nat.le_of_dvd hd1.1 (Nat.gcd_dvd_right _ _)) hdg
  have hnW8 : nW ≤ 8 * nO := Nat.le_trans hI.row.nW hPU.2.2.2.2.2.2.2.1
  refine lv_aload_n hx hb dL_law_1130 rfl (lv_at hl 2 rfl) ?_
  refine lv_aload_n hx hb dL_law_1131 rfl (lv_at hl 1 rfl) ?_
  refine lv_iload hx hb dL_law_1132 (lv_at hl 0 rfl) ?_
  refine lv_iconst (v := (nI 1)) hx hb dL_law_1134 (by decide) ?_
  refine lv_iadd hx hb dL_law_1135 ?_
  refine fw_top (nI_add _ _) ?_
  refine va_sld hx hb hXs hbl hbA hw.2.1 (vp_in_nI (show (4 * i) + 1 < L by omega) (by omega)) dL_law_1136 ?_
  rw [nI_clamp (show (4 * i) + 1 < 2 ^ 31 by omega)]
  refine lv_aload_n hx hb dL_law_1137 rfl (lv_at hl 1 rfl) ?_
  refine lv_iload hx hb dL_law_1138 (lv_at hl 0 rfl) ?_
  refine lv_iconst (v := (nI 2)) hx hb dL_law_1140 (by decide) ?_
  refine lv_iadd hx hb dL_law_1141 ?_
  refine fw_top (nI_add _ _) ?_
  refine va_sld hx hb hXs hbl hbA hw.2.1 (vp_in_nI (show (4 * i) + 2 < L by omega) (by omega)) dL_law_1142 ?_
  rw [nI_clamp (show (4 * i) + 2 < 2 ^ 31 by omega)]
  refine lv_aload_n hx hb dL_law_1143 rfl (lv_at hl 4 rfl) ?_
  refine fw_calli (fw_runSW (As := [.ref x, .int (xs ((4 * i) + 1)), .int (xs ((4 * i) + 2)), .ref o]) (rest := []) C hz hcx hnc hw (c_L_wear l G _ _ x o _ _ g0 (xs ((4 * i) + 1)) (xs ((4 * i) + 2)) _ _ hX ho (fun z => c_X8_wear l G F z x lc lt lo lm lw dr (nI T) oa tr ml f nJ nO ms sa (xs ((4 * i) + 1)) (xs ((4 * i) + 2)) hl9 hX hO1 hK.2.2.1 hZ (fun j hj => (hPU.1 _ (hPU.2.1 j hj).2).2.2.1)) (fun E h => h.1) (fun v F2 h => (show fw_kp F F2 (fun t => t.1 < 60) from wr_si h.1) _ _ _ ho (by decide))) (fw_cwSW (n := 4) hT wd_688 wd_689 wd_0 wd_690 (by decide +kernel) rfl rfl ⟨Nat.le_of_ble_eq_true rfl, Nat.le_of_ble_eq_true rfl⟩) rfl hl.1 rfl (Nat.le_of_ble_eq_true rfl) dL_law_1144 ⟨by show c1 + 2 ≤ 875399; omega, by show n1 + 12 ≤ 6469906; omega⟩) hw (fun r F1 H locs hw hp => ?_)
  refine W.widen (k := c1 + 40) (n := n1 + 4000) (by omega) (by omega) ?_
  have hkF : fw_kp F F1 (fun t => t.1 ≤ 60) := by
    rcases hp with ⟨-, v, F2, h, hF1⟩ | ⟨hF1, -⟩
    · rw [hF1]
      have h60 : fw_kp F F2 (fun t => t.1 < 60) := wr_si h.1
      exact wr_k1 h60 (h60 _ _ _ ho (by decide))
    · rw [hF1]; exact fw_kp.rf
  have hm1 : mm_W G F1 y ad sc f := hmW.kp hkF (fun t h z => by omega)
  have hm : mm_M G (fun q : Nat => s.heap.size ≤ q) s F1 y ad sc f F1 H locs := ⟨hw, hm1, mm_keep.rf⟩
  refine lv_istore (lv' := [(5, .int r), (4, .int (nI (4 * i))), (0, .ref b), (1, .ref x), (2, .ref y), (3, .ref o)]) hx hb dL_law_1147 hl (by decide) rfl (fun ls hl => ?_)
  refine lv_aload_n hx hb dL_law_1149 rfl (lv_at hl 4 rfl) ?_
  refine lv_aload_n hx hb dL_law_1150 rfl (lv_at hl 2 rfl) ?_
  refine lv_iload hx hb dL_law_1151 (lv_at hl 1 rfl) ?_
  refine lv_iconst (v := (nI 1)) hx hb dL_law_1153 (by decide) ?_
  refine lv_iadd hx hb dL_law_1154 ?_
  refine fw_top (nI_add _ _) ?_
  refine va_sld hx hb hXs hbl hbA hw.2.1 (vp_in_nI (show (4 * i) + 1 < L by omega) (by omega)) dL_law_1155 ?_
  rw [nI_clamp (show (4 * i) + 1 < 2 ^ 31 by omega)]
  refine lv_aload_n hx hb dL_law_1156 rfl (lv_at hl 2 rfl) ?_
  refine lv_iload hx hb dL_law_1157 (lv_at hl 1 rfl) ?_
  refine lv_iconst (v := (nI 2)) hx hb dL_law_1159 (by decide) ?_
  refine lv_iadd hx hb dL_law_1160 ?_
  refine fw_top (nI_add _ _) ?_
  refine va_sld hx hb hXs hbl hbA hw.2.1 (vp_in_nI (show (4 * i) + 2 < L by omega) (by omega)) dL_law_1161 ?_
  rw [nI_clamp (show (4 * i) + 2 < 2 ^ 31 by omega)]
  refine mm_calli (As := [.int (xs ((4 * i) + 1)), .int (xs ((4 * i) + 2))]) (rest := []) C hz hm (c_X9_wear l G _ _ y ad _ _ nO nT (xs ((4 * i) + 1)) (xs ((4 * i) + 2)) hm1 hMS.2.2.2.1 ho12 ht8 hPU.1 hPU.2.1) wd_945 yVX9_wear ⟨Nat.le_of_ble_eq_true rfl, Nat.le_of_ble_eq_true rfl⟩ rfl hl.1 rfl (Nat.le_of_ble_eq_true rfl) dL_law_1162 ⟨by show c1 + 40 + 0 ≤ 875399; omega, by show n1 + 4000 + 0 ≤ 6469906; omega⟩ (fun b9 sc1 f1 F4 H locs hm hP => ?_)
  refine W.widen (k := c1 + 40) (n := n1 + 4000) (Nat.le_refl _) (Nat.le_refl _) ?_
  refine lv_istore (lv' := [(6, .int b9), (5, .int r), (4, .int (nI (4 * i))), (0, .ref b), (1, .ref x), (2, .ref y), (3, .ref o)]) hx hb dL_law_1165 hl (by decide) rfl (fun ls hl => ?_)
  refine lv_aload_n hx hb dL_law_1167 rfl (lv_at hl 5 rfl) ?_
  refine mm_calli (As := []) (rest := []) C hz hm (c_X9_thrown l G _ _ y ad _ _ hm.2.1) wd_813 yVX9_thrown ⟨Nat.le_of_ble_eq_true rfl, Nat.le_of_ble_eq_true rfl⟩ rfl hl.1 rfl (Nat.le_of_ble_eq_true rfl) dL_law_1168 ⟨by show c1 + 40 + 0 ≤ 875399; omega, by show n1 + 4000 + 0 ≤ 6469906; omega⟩ (fun t9 sc2 f2 F5 H locs hm ht => ?_)
  refine W.widen (k := c1 + 40) (n := n1 + 4000) (Nat.le_refl _) (Nat.le_refl _) ?_
  obtain ⟨hsc, hff, ht⟩ := ht
  rw [hsc, hff] at hm
  have hw := hm.1
  have hag : sc1 0 = r ∧ ∃ gv, F5 o = some ((60, 0, 0), fw_la (fw_cJ G) 1 gv) ∧ (r = nI 0 → gv 0 = b9.toInt64) ∧ lw_R G F5 x y o (i + 1) := by
    rcases hp with ⟨hr, v, F2, h, hF1⟩ | ⟨hF1, hp⟩
    · have h60 : fw_kp F F2 (fun t => t.1 < 60) := wr_si h.1
      have hoF2 := h60 _ _ _ ho (by decide)
      obtain ⟨j, k, hj, ej, hk9, ek, hv0⟩ := h.2
      obtain ⟨hf, -, hb⟩ := hP
      obtain ⟨hs, hb⟩ := (hb j hj ej).2 k hk9 ek
      have hv : v = b9 := hv0.trans hb.symm
      have e0 : sc1 0 = nI 0 := by rw [hs]; rfl
      rw [hf] at hm
      obtain ⟨gv, q1, q2, q3⟩ := wr_a (w := b9.toInt64) hoF2 hF1 hm.2.2 hm.2.1 (congrArg Int32.toInt64 hv) (show T ≤ 200 * (i + 1) by omega) (by rw [h.1]; exact hCL) hPU (by rw [hs]; exact hMS)
      exact ⟨e0.trans hr.symm, gv, q1, fun _ => q2, q3⟩
    · rw [hF1] at hm
      obtain ⟨hE, hr⟩ := hp
      obtain ⟨-, hE⟩ := hE
      obtain ⟨hf, h1, hb⟩ := hP
      have hs : sc1 = va_up sc 0 (nI 1) := by
        rcases hE with hE | ⟨j, hj, ej, hE⟩
        · exact h1 hE
        · exact (hb j hj ej).1 hE
      have e0 : sc1 0 = nI 1 := by rw [hs]; rfl
      rw [hf] at hm
      obtain ⟨q1, q3⟩ := wr_b (i := i) ho hm.2.2 hm.2.1 (show T ≤ 200 * (i + 1) by omega) hCL hPU (by rw [hs]; exact hMS)
      exact ⟨e0.trans hr.symm, g0, q1, fun z => absurd (hr.symm.trans z) (by decide), q3⟩
  obtain ⟨hth, gv, hgo, hgv, hR5⟩ := hag
  rw [hth] at ht
  refine lv_iload hx hb dL_law_1171 (lv_at hl 1 rfl) ?_
  refine lv_icmp_eq (tgt := 1178) hx hb dL_law_1173 (by decide) (fun cx => ?_) (fun cx => absurd cx (fun h => h ht))
  refine lv_iload hx hb dL_law_1178 (lv_at hl 1 rfl) ?_
  refine lv_if_ne (tgt := 1195) hx hb dL_law_1180 (by decide) (fun d9 => ?_) (fun d9 => ?_)
  · refine lv_goto (tgt := 1334) hx hb dL_law_1195 (by decide) ?_
    exact K _ _ _ _ hw hR5 (lv_sub hl [2, 3, 4, 5, 6] rfl)
  · have d9 : r = 0 := d9
    have hgv := hgv d9
    refine lv_aload_n hx hb dL_law_1183 rfl (lv_at hl 6 rfl) ?_
    refine lv_iconst (v := (nI 0)) hx hb dL_law_1184 (by decide) ?_
    refine fw_lald hx hb hz hw hgo (vp_in_nI (show 0 < 1 by decide) (by decide)) dL_law_1185 ?_
    rw [show (nI 0).toNatClampNeg = 0 from nI_clamp (by decide), hgv]
    refine lv_iload hx hb dL_law_1186 (lv_at hl 0 rfl) ?_
    refine lv_i2l (v := b9.toInt64) hx hb dL_law_1188 rfl ?_
    refine W.lcmp hx hb dL_law_1189 ?_
    rw [lg_cmp_self]
    refine lv_if_eq (tgt := 1195) hx hb dL_law_1190 (by decide) (fun cx => ?_) (fun cx => absurd cx (fun h => h rfl))
    refine lv_goto (tgt := 1334) hx hb dL_law_1195 (by decide) ?_
    exact K _ _ _ _ hw hR5 (lv_sub hl [2, 3, 4, 5, 6] rfl)
set_option maxHeartbeats 4000000 in
set_option maxRecDepth 100000 in
theorem law_claims {p : Program} {l : Launch} {e : Env} {s : State} {m : MethodId} {below : List Frame} {meth : Method} {c : Code} {b L : Nat} {xs : Nat → Int32} {G : fw_G} (E0 : lw_E p l s m meth c b L xs G) {F : fw_F} {x y o i : Nat} {H : Heap} {locs : List Loc} {ls : Array Slot} {c1 n1 : Nat} {Q : State → Prop} (hi4 : 4 * i + 3 < L) (hc1 : c1 + 40 ≤ 875399) (hn1 : n1 + 4000 ≤ 6469906) (hR : lw_R G F x y o i) (hw : fw_S G (fun q : Nat => s.heap.size ≤ q) s F H locs) (hl : lv_has ls 7 [(4, .int (nI (4 * i))), (0, .ref b), (1, .ref x), (2, .ref y), (3, .ref o)])
    (K : ∀ (F : fw_F) (H : Heap) (locs : List Loc) (ls : Array Slot), fw_S G (fun q : Nat => s.heap.size ≤ q) s F H locs → lw_R G F x y o (i + 1) → lv_has ls 7 [(4, .int (nI (4 * i))), (0, .ref b), (1, .ref x), (2, .ref y), (3, .ref o)] → W p l e room_1 s m #[Value.ref b] below meth c H locs (c1 + 40) (n1 + 4000) Q (F0 m 1334 ls [])) : W p l e room_1 s m #[Value.ref b] below meth c H locs (c1) (n1) Q (F0 m 1198 ls []) := by
  obtain ⟨hx, hb, hml, hown, hT9, hz, hcx, hnc, hl9, hXs, hbl, hL⟩ := E0
  have hT := hT9
  have C : CallFix p m c code 7 s #[Value.ref b] fw_tb RL := ⟨hx, hb, hml, hown, hT⟩
  have hbA : ¬ (fun q : Nat => s.heap.size ≤ q) b := Nat.not_le.mpr hbl
  obtain ⟨ad, sc, f, g0, nC, nT, nO, nJ, nD, T, hmW, ho, hT200, hCL, hPU, hMS⟩ := hR
  have hCL9 := hCL
  obtain ⟨lc, lt, lo, lm, lw, dr, ds, dfr, ca, ta, sl, fr, oa, tr, ml, ma, ja, da, wj, sa, ms, nW, hX, hC, hT1, hTr, hO1, hK, hI, hZ, hD, htr⟩ := hCL9
  have hC9 := hC
  obtain ⟨hc10, ⟨arc, hLc⟩, hcs⟩ := hC9
  have hT9 := hT1
  obtain ⟨ht8, at9, hLt⟩ := hT9
  have hO9 := hO1
  obtain ⟨ho12, ao9, hLo⟩ := hO9
  have hK9 := hK
  obtain ⟨-, ⟨hnW, ⟨aw9, hLw⟩, -⟩, -, -⟩ := hK9
  have hD9 := hD
  obtain ⟨hd4, hD1, ⟨ad9, hD2⟩, hD3, hD4⟩ := hD9
  have hd2 := rf_dp_ok hPU.2.2.2.2.2.2.2.2 (w := 2) (Or.inr rfl) nD (Nat.le_refl _)
  have hd1 := rf_dp_ok hPU.2.2.2.2.2.2.2.2 (w := 1) (Or.inl rfl) nD (Nat.le_refl _)
  have h60 : 60 ^ nD ≤ 60 ^ 4 := Nat.pow_le_pow_right (by decide) hd4
  have hdg : 0 < cr_dg f nD := Nat.gcd_pos_of_pos_left _ hd2.1
  have hdu : rf_dp f 2 nD / cr_dg f nD ≤ 12960000 := Nat.le_trans (Nat.div_le_self _ _) (by omega)
  have hdv : rf_dp f 1 nD / cr_dg f nD ≤ 12960000 := Nat.le_trans (Nat.div_le_self _ _) (by omega)
  have hdv0 : 0 < rf_dp f 1 nD / cr_dg f nD := Nat.div_pos (Nat.le_of_dvd hd1.1 (Nat.gcd_dvd_right _ _)) hdg
  have hnW8 : nW ≤ 8 * nO := Nat.le_trans hI.row.nW hPU.2.2.2.2.2.2.2.1
  refine lv_aload_n hx hb dL_law_1198 rfl (lv_at hl 2 rfl) ?_
  refine lv_aload_n hx hb dL_law_1199 rfl (lv_at hl 1 rfl) ?_
  refine lv_iload hx hb dL_law_1200 (lv_at hl 0 rfl) ?_
  refine lv_iconst (v := (nI 1)) hx hb dL_law_1202 (by decide) ?_
  refine lv_iadd hx hb dL_law_1203 ?_
  refine fw_top (nI_add _ _) ?_
  refine va_sld hx hb hXs hbl hbA hw.2.1 (vp_in_nI (show (4 * i) + 1 < L by omega) (by omega)) dL_law_1204 ?_
  rw [nI_clamp (show (4 * i) + 1 < 2 ^ 31 by omega)]
  refine lv_aload_n hx hb dL_law_1205 rfl (lv_at hl 4 rfl) ?_
  refine fw_calli (fw_runSW (As := [.ref x, .int (xs ((4 * i) + 1)), .ref o]) (rest := []) C hz hcx hnc hw (c_L_claims l G _ _ x o _ _ g0 (xs ((4 * i) + 1)) _ _ hX ho (fun z => c_X8_claims l G F z x lc lt lo lm lw dr (nI T) ta sl fr sa f nT (xs ((4 * i) + 1)) hl9 hX hT1 hTr) (fun E h => h.1) (fun v F2 h => (show fw_kp F F2 (fun t => t.1 < 60) from wr_si h.1) _ _ _ ho (by decide))) (fw_cwSW (n := 3) hT wd_697 wd_698 wd_0 wd_699 (by decide +kernel) rfl rfl ⟨Nat.le_of_ble_eq_true rfl, Nat.le_of_ble_eq_true rfl⟩) rfl hl.1 rfl (Nat.le_of_ble_eq_true rfl) dL_law_1206 ⟨by show c1 + 1 ≤ 875399; omega, by show n1 + 6 ≤ 6469906; omega⟩) hw (fun r F1 H locs hw hp => ?_)
  refine W.widen (k := c1 + 40) (n := n1 + 4000) (by omega) (by omega) ?_
  have hkF : fw_kp F F1 (fun t => t.1 ≤ 60) := by
    rcases hp with ⟨-, v, F2, h, hF1⟩ | ⟨hF1, -⟩
    · rw [hF1]
      have h60 : fw_kp F F2 (fun t => t.1 < 60) := wr_si h.1
      exact wr_k1 h60 (h60 _ _ _ ho (by decide))
    · rw [hF1]; exact fw_kp.rf
  have hm1 : mm_W G F1 y ad sc f := hmW.kp hkF (fun t h z => by omega)
  have hm : mm_M G (fun q : Nat => s.heap.size ≤ q) s F1 y ad sc f F1 H locs := ⟨hw, hm1, mm_keep.rf⟩
  refine lv_istore (lv' := [(5, .int r), (4, .int (nI (4 * i))), (0, .ref b), (1, .ref x), (2, .ref y), (3, .ref o)]) hx hb dL_law_1209 hl (by decide) rfl (fun ls hl => ?_)
  refine lv_aload_n hx hb dL_law_1211 rfl (lv_at hl 4 rfl) ?_
  refine lv_aload_n hx hb dL_law_1212 rfl (lv_at hl 2 rfl) ?_
  refine lv_iload hx hb dL_law_1213 (lv_at hl 1 rfl) ?_
  refine lv_iconst (v := (nI 1)) hx hb dL_law_1215 (by decide) ?_
  refine lv_iadd hx hb dL_law_1216 ?_
  refine fw_top (nI_add _ _) ?_
  refine va_sld hx hb hXs hbl hbA hw.2.1 (vp_in_nI (show (4 * i) + 1 < L by omega) (by omega)) dL_law_1217 ?_
  rw [nI_clamp (show (4 * i) + 1 < 2 ^ 31 by omega)]
  refine mm_calli (As := [.int (xs ((4 * i) + 1))]) (rest := []) C hz hm (c_X9_claims l G _ _ y ad _ _ nT (xs ((4 * i) + 1)) hm1 hMS.2.2.1 ht8) wd_949 yVX9_claims ⟨Nat.le_of_ble_eq_true rfl, Nat.le_of_ble_eq_true rfl⟩ rfl hl.1 rfl (Nat.le_of_ble_eq_true rfl) dL_law_1218 ⟨by show c1 + 40 + 0 ≤ 875399; omega, by show n1 + 4000 + 0 ≤ 6469906; omega⟩ (fun b9 sc1 f1 F4 H locs hm hP => ?_)
  refine W.widen (k := c1 + 40) (n := n1 + 4000) (Nat.le_refl _) (Nat.le_refl _) ?_
  refine lv_istore (lv' := [(6, .int b9), (5, .int r), (4, .int (nI (4 * i))), (0, .ref b), (1, .ref x), (2, .ref y), (3, .ref o)]) hx hb dL_law_1221 hl (by decide) rfl (fun ls hl => ?_)
  refine lv_aload_n hx hb dL_law_1223 rfl (lv_at hl 5 rfl) ?_
  refine mm_calli (As := []) (rest := []) C hz hm (c_X9_thrown l G _ _ y ad _ _ hm.2.1) wd_813 yVX9_thrown ⟨Nat.le_of_ble_eq_true rfl, Nat.le_of_ble_eq_true rfl⟩ rfl hl.1 rfl (Nat.le_of_ble_eq_true rfl) dL_law_1224 ⟨by show c1 + 40 + 0 ≤ 875399; omega, by show n1 + 4000 + 0 ≤ 6469906; omega⟩ (fun t9 sc2 f2 F5 H locs hm ht => ?_)
  refine W.widen (k := c1 + 40) (n := n1 + 4000) (Nat.le_refl _) (Nat.le_refl _) ?_
  obtain ⟨hsc, hff, ht⟩ := ht
  rw [hsc, hff] at hm
  have hw := hm.1
  have hag : sc1 0 = r ∧ ∃ gv, F5 o = some ((60, 0, 0), fw_la (fw_cJ G) 1 gv) ∧ (r = nI 0 → gv 0 = b9.toInt64) ∧ lw_R G F5 x y o (i + 1) := by
    rcases hp with ⟨hr, v, F2, h, hF1⟩ | ⟨hF1, hp⟩
    · have h60 : fw_kp F F2 (fun t => t.1 < 60) := wr_si h.1
      have hoF2 := h60 _ _ _ ho (by decide)
      obtain ⟨j, hj, ej, hv0⟩ := h.2
      obtain ⟨hf, hs, hb⟩ := hP
      rw [ej, rf_ix_of (show nT ≤ 100 by omega) hj] at hs
      have hv : v = b9 := hv0.trans (hb j hj ej).symm
      have e0 : sc1 0 = nI 0 := by rw [hs]; rfl
      rw [hf] at hm
      obtain ⟨gv, q1, q2, q3⟩ := wr_a (w := b9.toInt64) hoF2 hF1 hm.2.2 hm.2.1 (congrArg Int32.toInt64 hv) (show T ≤ 200 * (i + 1) by omega) (by rw [h.1]; exact hCL) hPU (by rw [hs]; exact hMS)
      exact ⟨e0.trans hr.symm, gv, q1, fun _ => q2, q3⟩
    · rw [hF1] at hm
      obtain ⟨hE, hr⟩ := hp
      obtain ⟨-, hE⟩ := hE
      obtain ⟨hf, hs, hb⟩ := hP
      rw [hE] at hs
      have e0 : sc1 0 = nI 1 := by rw [hs]; rfl
      rw [hf] at hm
      obtain ⟨q1, q3⟩ := wr_b (i := i) ho hm.2.2 hm.2.1 (show T ≤ 200 * (i + 1) by omega) hCL hPU (by rw [hs]; exact hMS)
      exact ⟨e0.trans hr.symm, g0, q1, fun z => absurd (hr.symm.trans z) (by decide), q3⟩
  obtain ⟨hth, gv, hgo, hgv, hR5⟩ := hag
  rw [hth] at ht
  refine lv_iload hx hb dL_law_1227 (lv_at hl 1 rfl) ?_
  refine lv_icmp_eq (tgt := 1234) hx hb dL_law_1229 (by decide) (fun cx => ?_) (fun cx => absurd cx (fun h => h ht))
  refine lv_iload hx hb dL_law_1234 (lv_at hl 1 rfl) ?_
  refine lv_if_ne (tgt := 1251) hx hb dL_law_1236 (by decide) (fun d9 => ?_) (fun d9 => ?_)
  · refine lv_goto (tgt := 1334) hx hb dL_law_1251 (by decide) ?_
    exact K _ _ _ _ hw hR5 (lv_sub hl [2, 3, 4, 5, 6] rfl)
  · have d9 : r = 0 := d9
    have hgv := hgv d9
    refine lv_aload_n hx hb dL_law_1239 rfl (lv_at hl 6 rfl) ?_
    refine lv_iconst (v := (nI 0)) hx hb dL_law_1240 (by decide) ?_
    refine fw_lald hx hb hz hw hgo (vp_in_nI (show 0 < 1 by decide) (by decide)) dL_law_1241 ?_
    rw [show (nI 0).toNatClampNeg = 0 from nI_clamp (by decide), hgv]
    refine lv_iload hx hb dL_law_1242 (lv_at hl 0 rfl) ?_
    refine lv_i2l (v := b9.toInt64) hx hb dL_law_1244 rfl ?_
    refine W.lcmp hx hb dL_law_1245 ?_
    rw [lg_cmp_self]
    refine lv_if_eq (tgt := 1251) hx hb dL_law_1246 (by decide) (fun cx => ?_) (fun cx => absurd cx (fun h => h rfl))
    refine lv_goto (tgt := 1334) hx hb dL_law_1251 (by decide) ?_
    exact K _ _ _ _ hw hR5 (lv_sub hl [2, 3, 4, 5, 6] rfl)
set_option maxHeartbeats 4000000 in
set_option maxRecDepth 100000 in
theorem law_leastNew {p : Program} {l : Launch} {e : Env} {s : State} {m : MethodId} {below : List Frame} {meth : Method} {c : Code} {b L : Nat} {xs : Nat → Int32} {G : fw_G} (E0 : lw_E p l s m meth c b L xs G) {F : fw_F} {x y o i : Nat} {H : Heap} {locs : List Loc} {ls : Array Slot} {c1 n1 : Nat} {Q : State → Prop} (hi4 : 4 * i + 3 < L) (hc1 : c1 + 40 ≤ 875399) (hn1 : n1 + 4000 ≤ 6469906) (hR : lw_R G F x y o i) (hw : fw_S G (fun q : Nat => s.heap.size ≤ q) s F H locs) (hl : lv_has ls 7 [(4, .int (nI (4 * i))), (0, .ref b), (1, .ref x), (2, .ref y), (3, .ref o)])
    (K : ∀ (F : fw_F) (H : Heap) (locs : List Loc) (ls : Array Slot), fw_S G (fun q : Nat => s.heap.size ≤ q) s F H locs → lw_R G F x y o (i + 1) → lv_has ls 7 [(4, .int (nI (4 * i))), (0, .ref b), (1, .ref x), (2, .ref y), (3, .ref o)] → W p l e room_1 s m #[Value.ref b] below meth c H locs (c1 + 40) (n1 + 4000) Q (F0 m 1334 ls [])) : W p l e room_1 s m #[Value.ref b] below meth c H locs (c1) (n1) Q (F0 m 1254 ls []) := by
  obtain ⟨hx, hb, hml, hown, hT9, hz, hcx, hnc, hl9, hXs, hbl, hL⟩ := E0
  have hT := hT9
  have C : CallFix p m c code 7 s #[Value.ref b] fw_tb RL := ⟨hx, hb, hml, hown, hT⟩
  have hbA : ¬ (fun q : Nat => s.heap.size ≤ q) b := Nat.not_le.mpr hbl
  obtain ⟨ad, sc, f, g0, nC, nT, nO, nJ, nD, T, hmW, ho, hT200, hCL, hPU, hMS⟩ := hR
  have hCL9 := hCL
  obtain ⟨lc, lt, lo, lm, lw, dr, ds, dfr, ca, ta, sl, fr, oa, tr, ml, ma, ja, da, wj, sa, ms, nW, hX, hC, hT1, hTr, hO1, hK, hI, hZ, hD, htr⟩ := hCL9
  have hC9 := hC
  obtain ⟨hc10, ⟨arc, hLc⟩, hcs⟩ := hC9
  have hT9 := hT1
  obtain ⟨ht8, at9, hLt⟩ := hT9
  have hO9 := hO1
  obtain ⟨ho12, ao9, hLo⟩ := hO9
  have hK9 := hK
  obtain ⟨-, ⟨hnW, ⟨aw9, hLw⟩, -⟩, -, -⟩ := hK9
  have hD9 := hD
  obtain ⟨hd4, hD1, ⟨ad9, hD2⟩, hD3, hD4⟩ := hD9
  have hd2 := rf_dp_ok hPU.2.2.2.2.2.2.2.2 (w := 2) (Or.inr rfl) nD (Nat.le_refl _)
  have hd1 := rf_dp_ok hPU.2.2.2.2.2.2.2.2 (w := 1) (Or.inl rfl) nD (Nat.le_refl _)
  have h60 : 60 ^ nD ≤ 60 ^ 4 := Nat.pow_le_pow_right (by decide) hd4
  have hdg : 0 < cr_dg f nD := Nat.gcd_pos_of_pos_left _ hd2.1
  have hdu : rf_dp f 2 nD / cr_dg f nD ≤ 12960000 := Nat.le_trans (Nat.div_le_self _ _) (by omega)
  have hdv : rf_dp f 1 nD / cr_dg f nD ≤ 12960000 := Nat.le_trans (Nat.div_le_self _ _) (by omega)
  have hdv0 : 0 < rf_dp f 1 nD / cr_dg f nD := Nat.div_pos (Nat.le_of_dvd hd1.1 (Nat.gcd_dvd_right _ _)) hdg
  have hnW8 : nW ≤ 8 * nO := Nat.le_trans hI.row.nW hPU.2.2.2.2.2.2.2.1
  refine lv_aload_n hx hb dL_law_1254 rfl (lv_at hl 2 rfl) ?_
  refine lv_aload_n hx hb dL_law_1255 rfl (lv_at hl 1 rfl) ?_
  refine lv_iload hx hb dL_law_1256 (lv_at hl 0 rfl) ?_
  refine lv_iconst (v := (nI 1)) hx hb dL_law_1258 (by decide) ?_
  refine lv_iadd hx hb dL_law_1259 ?_
  refine fw_top (nI_add _ _) ?_
  refine va_sld hx hb hXs hbl hbA hw.2.1 (vp_in_nI (show (4 * i) + 1 < L by omega) (by omega)) dL_law_1260 ?_
  rw [nI_clamp (show (4 * i) + 1 < 2 ^ 31 by omega)]
  refine lv_aload_n hx hb dL_law_1261 rfl (lv_at hl 1 rfl) ?_
  refine lv_iload hx hb dL_law_1262 (lv_at hl 0 rfl) ?_
  refine lv_iconst (v := (nI 2)) hx hb dL_law_1264 (by decide) ?_
  refine lv_iadd hx hb dL_law_1265 ?_
  refine fw_top (nI_add _ _) ?_
  refine va_sld hx hb hXs hbl hbA hw.2.1 (vp_in_nI (show (4 * i) + 2 < L by omega) (by omega)) dL_law_1266 ?_
  rw [nI_clamp (show (4 * i) + 2 < 2 ^ 31 by omega)]
  refine lv_aload_n hx hb dL_law_1267 rfl (lv_at hl 1 rfl) ?_
  refine lv_iload hx hb dL_law_1268 (lv_at hl 0 rfl) ?_
  refine lv_iconst (v := (nI 3)) hx hb dL_law_1270 (by decide) ?_
  refine lv_iadd hx hb dL_law_1271 ?_
  refine fw_top (nI_add _ _) ?_
  refine va_sld hx hb hXs hbl hbA hw.2.1 (vp_in_nI (show (4 * i) + 3 < L by omega) (by omega)) dL_law_1272 ?_
  rw [nI_clamp (show (4 * i) + 3 < 2 ^ 31 by omega)]
  refine lv_aload_n hx hb dL_law_1273 rfl (lv_at hl 4 rfl) ?_
  refine fw_calli (fw_runSW (As := [.ref x, .int (xs ((4 * i) + 1)), .int (xs ((4 * i) + 2)), .int (xs ((4 * i) + 3)), .ref o]) (rest := []) C hz hcx hnc hw (c_L_leastNew l G _ _ x o _ _ g0 (xs ((4 * i) + 1)) (xs ((4 * i) + 2)) (xs ((4 * i) + 3)) _ _ hX ho (fun z => c_X8_leastNew l G F z x lc lt lo lm lw dr (nI T) ca f nC (xs ((4 * i) + 1)) (xs ((4 * i) + 2)) (xs ((4 * i) + 3)) hl9 hX hC) (fun E h => h.1) (fun v F2 h => (show fw_kp F F2 (fun t => t.1 < 60) from wr_si h.1) _ _ _ ho (by decide))) (fw_cwSW (n := 5) hT wd_704 wd_705 wd_0 wd_706 (by decide +kernel) rfl rfl ⟨Nat.le_of_ble_eq_true rfl, Nat.le_of_ble_eq_true rfl⟩) rfl hl.1 rfl (Nat.le_of_ble_eq_true rfl) dL_law_1274 ⟨by show c1 + 1 ≤ 875399; omega, by show n1 + 6 ≤ 6469906; omega⟩) hw (fun r F1 H locs hw hp => ?_)
  refine W.widen (k := c1 + 40) (n := n1 + 4000) (by omega) (by omega) ?_
  have hkF : fw_kp F F1 (fun t => t.1 ≤ 60) := by
    rcases hp with ⟨-, v, F2, h, hF1⟩ | ⟨hF1, -⟩
    · rw [hF1]
      have h60 : fw_kp F F2 (fun t => t.1 < 60) := wr_si h.1
      exact wr_k1 h60 (h60 _ _ _ ho (by decide))
    · rw [hF1]; exact fw_kp.rf
  have hm1 : mm_W G F1 y ad sc f := hmW.kp hkF (fun t h z => by omega)
  have hm : mm_M G (fun q : Nat => s.heap.size ≤ q) s F1 y ad sc f F1 H locs := ⟨hw, hm1, mm_keep.rf⟩
  refine lv_istore (lv' := [(5, .int r), (4, .int (nI (4 * i))), (0, .ref b), (1, .ref x), (2, .ref y), (3, .ref o)]) hx hb dL_law_1277 hl (by decide) rfl (fun ls hl => ?_)
  refine lv_aload_n hx hb dL_law_1279 rfl (lv_at hl 4 rfl) ?_
  refine lv_aload_n hx hb dL_law_1280 rfl (lv_at hl 2 rfl) ?_
  refine lv_iload hx hb dL_law_1281 (lv_at hl 1 rfl) ?_
  refine lv_iconst (v := (nI 1)) hx hb dL_law_1283 (by decide) ?_
  refine lv_iadd hx hb dL_law_1284 ?_
  refine fw_top (nI_add _ _) ?_
  refine va_sld hx hb hXs hbl hbA hw.2.1 (vp_in_nI (show (4 * i) + 1 < L by omega) (by omega)) dL_law_1285 ?_
  rw [nI_clamp (show (4 * i) + 1 < 2 ^ 31 by omega)]
  refine lv_aload_n hx hb dL_law_1286 rfl (lv_at hl 2 rfl) ?_
  refine lv_iload hx hb dL_law_1287 (lv_at hl 1 rfl) ?_
  refine lv_iconst (v := (nI 2)) hx hb dL_law_1289 (by decide) ?_
  refine lv_iadd hx hb dL_law_1290 ?_
  refine fw_top (nI_add _ _) ?_
  refine va_sld hx hb hXs hbl hbA hw.2.1 (vp_in_nI (show (4 * i) + 2 < L by omega) (by omega)) dL_law_1291 ?_
  rw [nI_clamp (show (4 * i) + 2 < 2 ^ 31 by omega)]
  refine lv_aload_n hx hb dL_law_1292 rfl (lv_at hl 2 rfl) ?_
  refine lv_iload hx hb dL_law_1293 (lv_at hl 1 rfl) ?_
  refine lv_iconst (v := (nI 3)) hx hb dL_law_1295 (by decide) ?_
  refine lv_iadd hx hb dL_law_1296 ?_
  refine fw_top (nI_add _ _) ?_
  refine va_sld hx hb hXs hbl hbA hw.2.1 (vp_in_nI (show (4 * i) + 3 < L by omega) (by omega)) dL_law_1297 ?_
  rw [nI_clamp (show (4 * i) + 3 < 2 ^ 31 by omega)]
  refine mm_calli (As := [.int (xs ((4 * i) + 1)), .int (xs ((4 * i) + 2)), .int (xs ((4 * i) + 3))]) (rest := []) C hz hm (c_X9_leastNew l G _ _ y ad _ _ nC (xs ((4 * i) + 1)) (xs ((4 * i) + 2)) (xs ((4 * i) + 3)) hm1 hMS.1 hc10) wd_953 yVX9_leastNew ⟨Nat.le_of_ble_eq_true rfl, Nat.le_of_ble_eq_true rfl⟩ rfl hl.1 rfl (Nat.le_of_ble_eq_true rfl) dL_law_1298 ⟨by show c1 + 40 + 0 ≤ 875399; omega, by show n1 + 4000 + 0 ≤ 6469906; omega⟩ (fun b9 sc1 f1 F4 H locs hm hP => ?_)
  refine W.widen (k := c1 + 40) (n := n1 + 4000) (Nat.le_refl _) (Nat.le_refl _) ?_
  refine lv_istore (lv' := [(6, .int b9), (5, .int r), (4, .int (nI (4 * i))), (0, .ref b), (1, .ref x), (2, .ref y), (3, .ref o)]) hx hb dL_law_1301 hl (by decide) rfl (fun ls hl => ?_)
  refine lv_aload_n hx hb dL_law_1303 rfl (lv_at hl 5 rfl) ?_
  refine mm_calli (As := []) (rest := []) C hz hm (c_X9_thrown l G _ _ y ad _ _ hm.2.1) wd_813 yVX9_thrown ⟨Nat.le_of_ble_eq_true rfl, Nat.le_of_ble_eq_true rfl⟩ rfl hl.1 rfl (Nat.le_of_ble_eq_true rfl) dL_law_1304 ⟨by show c1 + 40 + 0 ≤ 875399; omega, by show n1 + 4000 + 0 ≤ 6469906; omega⟩ (fun t9 sc2 f2 F5 H locs hm ht => ?_)
  refine W.widen (k := c1 + 40) (n := n1 + 4000) (Nat.le_refl _) (Nat.le_refl _) ?_
  obtain ⟨hsc, hff, ht⟩ := ht
  rw [hsc, hff] at hm
  have hw := hm.1
  have hag : sc1 0 = r ∧ ∃ gv, F5 o = some ((60, 0, 0), fw_la (fw_cJ G) 1 gv) ∧ (r = nI 0 → gv 0 = b9.toInt64) ∧ lw_R G F5 x y o (i + 1) := by
    rcases hp with ⟨hr, v, F2, h, hF1⟩ | ⟨hF1, hp⟩
    · have h60 : fw_kp F F2 (fun t => t.1 < 60) := wr_si h.1
      have hoF2 := h60 _ _ _ ho (by decide)
      obtain ⟨j1, j2, hok, ej, ek, a1, a2, a3, a4, hv0⟩ := h.2
      obtain ⟨hf, -, hb⟩ := hP
      obtain ⟨hs, hb⟩ := hb j1 j2 hok ej ek a2 a4
      have hv : v = b9 := by rw [hv0, hb]; exact cl_least f nC (xs ((4 * i) + 1)) a2 a3
      have e0 : sc1 0 = nI 0 := by rw [hs]; rfl
      rw [hf] at hm
      obtain ⟨gv, q1, q2, q3⟩ := wr_a (w := b9.toInt64) hoF2 hF1 hm.2.2 hm.2.1 (congrArg Int32.toInt64 hv) (show T ≤ 200 * (i + 1) by omega) (by rw [h.1]; exact hCL) hPU (by rw [hs]; exact hMS)
      exact ⟨e0.trans hr.symm, gv, q1, fun _ => q2, q3⟩
    · rw [hF1] at hm
      obtain ⟨hE, hr⟩ := hp
      obtain ⟨-, hE⟩ := hE
      have hf := hP.1
      have hs := hP.2.1 hE
      have e0 : sc1 0 = nI 1 := by rw [hs]; rfl
      rw [hf] at hm
      obtain ⟨q1, q3⟩ := wr_b (i := i) ho hm.2.2 hm.2.1 (show T ≤ 200 * (i + 1) by omega) hCL hPU (by rw [hs]; exact hMS)
      exact ⟨e0.trans hr.symm, g0, q1, fun z => absurd (hr.symm.trans z) (by decide), q3⟩
  obtain ⟨hth, gv, hgo, hgv, hR5⟩ := hag
  rw [hth] at ht
  refine lv_iload hx hb dL_law_1307 (lv_at hl 1 rfl) ?_
  refine lv_icmp_eq (tgt := 1314) hx hb dL_law_1309 (by decide) (fun cx => ?_) (fun cx => absurd cx (fun h => h ht))
  refine lv_iload hx hb dL_law_1314 (lv_at hl 1 rfl) ?_
  refine lv_if_ne (tgt := 1331) hx hb dL_law_1316 (by decide) (fun d9 => ?_) (fun d9 => ?_)
  · refine lv_goto (tgt := 1334) hx hb dL_law_1331 (by decide) ?_
    exact K _ _ _ _ hw hR5 (lv_sub hl [2, 3, 4, 5, 6] rfl)
  · have d9 : r = 0 := d9
    have hgv := hgv d9
    refine lv_aload_n hx hb dL_law_1319 rfl (lv_at hl 6 rfl) ?_
    refine lv_iconst (v := (nI 0)) hx hb dL_law_1320 (by decide) ?_
    refine fw_lald hx hb hz hw hgo (vp_in_nI (show 0 < 1 by decide) (by decide)) dL_law_1321 ?_
    rw [show (nI 0).toNatClampNeg = 0 from nI_clamp (by decide), hgv]
    refine lv_iload hx hb dL_law_1322 (lv_at hl 0 rfl) ?_
    refine lv_i2l (v := b9.toInt64) hx hb dL_law_1324 rfl ?_
    refine W.lcmp hx hb dL_law_1325 ?_
    rw [lg_cmp_self]
    refine lv_if_eq (tgt := 1331) hx hb dL_law_1326 (by decide) (fun cx => ?_) (fun cx => absurd cx (fun h => h rfl))
    refine lv_goto (tgt := 1334) hx hb dL_law_1331 (by decide) ?_
    exact K _ _ _ _ hw hR5 (lv_sub hl [2, 3, 4, 5, 6] rfl)
