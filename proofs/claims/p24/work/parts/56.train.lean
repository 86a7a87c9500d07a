/-! The law's case of a train: its stages, and whether it is made. -/
set_option maxHeartbeats 4000000 in
set_option maxRecDepth 100000 in
theorem law_stages {p : Program} {l : Launch} {e : Env} {s : State} {m : MethodId} {below : List Frame} {meth : Method} {c : Code} {b L : Nat} {xs : Nat → Int32} {G : fw_G} (E0 : lw_E p l s m c b L xs G) {x q2 q3 q4 q5 i nC nT nO nJ T st9 : Nat} {h : Nat → Nat} {gA gB gO gH : Nat → Int32} {c1 n1 : Nat} {Q : State → Prop} {v w : Int32} (hi : i < 50) (hc1 : c1 + 120 ≤ 827442) (hn1 : n1 + 9000 ≤ 6619141) (hs : st9 ≤ 3) (hT60 : T ≤ 60 * i)
    (K : ∀ (F : fw_F) (H : Heap) (locs : List Loc) (ls : Array Slot) (f : mm_A), fw_S G (fun q : Nat => s.heap.size ≤ q) s F H locs → p4_A G F q2 q3 q4 q5 gA gB gO gH → CL F x f nC nT nO nJ st9 (nI T) → PU f nT nO nJ st9 → PV f nC nT nO nJ T h gA gB gO gH → lv_has ls 24 [(20, .int (nI st9)), (19, .int (fw_b (cl_all f nC (f 6) st9))), (18, .int (nI (rf_dp f 1 st9))), (17, .int (nI (rf_dp f 2 st9))), (16, .int (rf_ds (f 6) st9)), (15, .int (nI st9)), (14, .int (nI 1)), (0, .ref b), (1, .ref x), (2, .ref q2), (3, .ref q3), (4, .ref q4), (5, .ref q5), (6, .int (nI nC)), (7, .int (nI nT)), (8, .int (nI nO)), (9, .int (nI T)), (10, .int (nI i)), (11, .int v), (12, .int w)] → W p l e room_1 s m #[Value.ref b] below meth c H locs (c1 + 40) (n1 + 2000) Q (F0 m 330 ls [])) :
    ∀ (d k : Nat), k + d = st9 → ∀ (F : fw_F) (H : Heap) (locs : List Loc) (ls : Array Slot) (f : mm_A), fw_S G (fun q : Nat => s.heap.size ≤ q) s F H locs → p4_A G F q2 q3 q4 q5 gA gB gO gH → CL F x f nC nT nO nJ k (nI T) → PU f nT nO nJ k → PV f nC nT nO nJ T h gA gB gO gH → lv_has ls 24 [(20, .int (nI k)), (19, .int (fw_b (cl_all f nC (f 6) k))), (18, .int (nI (rf_dp f 1 k))), (17, .int (nI (rf_dp f 2 k))), (16, .int (rf_ds (f 6) k)), (15, .int (nI st9)), (14, .int (nI 1)), (0, .ref b), (1, .ref x), (2, .ref q2), (3, .ref q3), (4, .ref q4), (5, .ref q5), (6, .int (nI nC)), (7, .int (nI nT)), (8, .int (nI nO)), (9, .int (nI T)), (10, .int (nI i)), (11, .int v), (12, .int w)] → W p l e room_1 s m #[Value.ref b] below meth c H locs (c1 + 10 * k) (n1 + 300 * k) Q (F0 m 204 ls []) := by
  obtain ⟨hx, hb, hml, hown, hT, hz, hcx, hl9, hX9, hbl, hL, hAn⟩ := E0
  have C : CallFix p m c code 24 s #[Value.ref b] fw_tb RL := ⟨hx, hb, hml, hown, hT⟩
  have hbA : ¬ (fun q : Nat => s.heap.size ≤ q) b := Nat.not_le.mpr hbl
  intro d
  induction d with
  | zero =>
    intro k hk F H locs ls f hw hA hCL hPU hPV hl
    have hk9 : st9 = k := by omega
    subst hk9
    refine lv_iload hx hb dL_law_204 (lv_at hl 0 rfl) ?_
    refine lv_iload hx hb dL_law_206 (lv_at hl 5 rfl) ?_
    refine lv_icmp_ge (tgt := 330) hx hb dL_law_208 (by decide) (fun d => ?_) (fun d => ?_)
    · have d := (nI_leI (a := st9) (b := st9) (by omega) (by omega)).mp d
      refine W.widen (k := c1 + 40) (n := n1 + 2000) (by omega) (by omega) ?_
      exact K _ _ _ _ f hw hA hCL hPU hPV (lv_sub hl [0, 1, 2, 3, 4, 5, 6, 7, 8, 9, 10, 11, 12, 13, 14, 15, 16, 17, 18, 19] rfl)
    · have d : ¬ st9 ≤ st9 := fun h9 => d ((nI_leI (a := st9) (b := st9) (by omega) (by omega)).mpr h9)
      omega
  | succ d ih =>
    intro k hk F H locs ls f hw hA hCL hPU hPV hl
    have hk9 : k < st9 := by omega
    have hCL0 := hCL
    obtain ⟨lc, lt, lo, lm, lw, dr, ds, dfr, ca, ta, sl, fr, oa, tr, ml, ma, ja, da, wj, sa, ms, nW, hX, hC, hT1, hTr, hO1, hK, hI, hZ, hD, htr⟩ := hCL
    have hc10 := hC.1
    have ht8 := hT1.1
    have ho12 := hO1.1
    have hj96 := hI.j96
    have hD9 := hD
    obtain ⟨hd4, hD1, ⟨ad9, hD2⟩, hD3, hD4⟩ := hD9
    refine lv_iload hx hb dL_law_204 (lv_at hl 0 rfl) ?_
    refine lv_iload hx hb dL_law_206 (lv_at hl 5 rfl) ?_
    refine lv_icmp_ge (tgt := 330) hx hb dL_law_208 (by decide) (fun d => ?_) (fun d => ?_)
    · have d := (nI_leI (a := st9) (b := k) (by omega) (by omega)).mp d
      omega
    · have d : ¬ st9 ≤ k := fun h9 => d ((nI_leI (a := st9) (b := k) (by omega) (by omega)).mpr h9)
      refine lv_iconst (v := (nI 1)) hx hb dL_law_211 (by decide) ?_
      refine lv_iload hx hb dL_law_212 (lv_at hl 19 rfl) ?_
      refine lv_iconst (v := (nI 2)) hx hb dL_law_214 (by decide) ?_
      refine lv_iload hx hb dL_law_215 (lv_at hl 0 rfl) ?_
      refine lv_iadd hx hb dL_law_217 ?_
      refine fw_top (nI_add _ _) ?_
      refine lv_ishr hx hb dL_law_218 ?_
      refine lv_topi (fun s1 _ => ?_)
      refine lv_iconst (v := (nI 2)) hx hb dL_law_219 (by decide) ?_
      refine fw_calli (fw_runS (As := [.int s1, .int (nI 2)]) (rest := [.int (nI 1)]) C hz hw (c_L_low l G _ _ s1 2 (by decide) (by decide)) (fw_cwS hT wd_601 ySL_low rfl rfl ⟨Nat.le_of_ble_eq_true rfl, Nat.le_of_ble_eq_true rfl⟩) rfl hl.1 rfl (Nat.le_of_ble_eq_true rfl) dL_law_220 ⟨by show c1 + 10 * k + 0 + 0 ≤ 827442; omega, by show n1 + 300 * k + 0 + 0 ≤ 6619141; omega⟩) hw (fun r F1 H locs hw hp => ?_)
      refine W.widen (k := c1 + 10 * k + 0) (n := n1 + 300 * k + 0) (by omega) (by omega) ?_
      obtain ⟨hF1, ja, hja, hr9⟩ := hp
      rw [hF1] at hw
      rw [hr9]
      refine lv_iadd hx hb dL_law_223 ?_
      refine fw_top (nI_add _ _) ?_
      refine lv_istore (lv' := [(21, .int (nI (1 + ja))), (20, .int (nI k)), (19, .int (fw_b (cl_all f nC (f 6) k))), (18, .int (nI (rf_dp f 1 k))), (17, .int (nI (rf_dp f 2 k))), (16, .int (rf_ds (f 6) k)), (15, .int (nI st9)), (14, .int (nI 1)), (0, .ref b), (1, .ref x), (2, .ref q2), (3, .ref q3), (4, .ref q4), (5, .ref q5), (6, .int (nI nC)), (7, .int (nI nT)), (8, .int (nI nO)), (9, .int (nI T)), (10, .int (nI i)), (11, .int v), (12, .int w)]) hx hb dL_law_224 hl (by decide) rfl (fun ls hl => ?_)
      refine lv_bipush (v := (nI 8)) hx hb dL_law_226 (by decide) ?_
      refine lv_iload hx hb dL_law_228 (lv_at hl 20 rfl) ?_
      refine lv_iconst (v := (nI 4)) hx hb dL_law_230 (by decide) ?_
      refine lv_iconst (v := (nI 5)) hx hb dL_law_231 (by decide) ?_
      refine lv_iload hx hb dL_law_232 (lv_at hl 1 rfl) ?_
      refine lv_imul hx hb dL_law_234 ?_
      refine fw_top (pk_mul _ _) ?_
      refine lv_iadd hx hb dL_law_235 ?_
      refine fw_top (nI_add _ _) ?_
      refine lv_ishr hx hb dL_law_236 ?_
      refine lv_topi (fun s2 _ => ?_)
      refine lv_bipush (v := (nI 53)) hx hb dL_law_237 (by decide) ?_
      refine fw_calli (fw_runS (As := [.int s2, .int (nI 53)]) (rest := [.int (nI 8)]) C hz hw (c_L_low l G _ _ s2 53 (by decide) (by decide)) (fw_cwS hT wd_601 ySL_low rfl rfl ⟨Nat.le_of_ble_eq_true rfl, Nat.le_of_ble_eq_true rfl⟩) rfl hl.1 rfl (Nat.le_of_ble_eq_true rfl) dL_law_239 ⟨by show c1 + 10 * k + 0 + 0 ≤ 827442; omega, by show n1 + 300 * k + 0 + 0 ≤ 6619141; omega⟩) hw (fun r F1 H locs hw hp => ?_)
      refine W.widen (k := c1 + 10 * k + 0) (n := n1 + 300 * k + 0) (by omega) (by omega) ?_
      obtain ⟨hF1, jb, hjb, hr9⟩ := hp
      rw [hF1] at hw
      rw [hr9]
      refine lv_iadd hx hb dL_law_242 ?_
      refine fw_top (nI_add _ _) ?_
      refine lv_istore (lv' := [(22, .int (nI (8 + jb))), (21, .int (nI (1 + ja))), (20, .int (nI k)), (19, .int (fw_b (cl_all f nC (f 6) k))), (18, .int (nI (rf_dp f 1 k))), (17, .int (nI (rf_dp f 2 k))), (16, .int (rf_ds (f 6) k)), (15, .int (nI st9)), (14, .int (nI 1)), (0, .ref b), (1, .ref x), (2, .ref q2), (3, .ref q3), (4, .ref q4), (5, .ref q5), (6, .int (nI nC)), (7, .int (nI nT)), (8, .int (nI nO)), (9, .int (nI T)), (10, .int (nI i)), (11, .int v), (12, .int w)]) hx hb dL_law_243 hl (by decide) rfl (fun ls hl => ?_)
      refine lv_bipush (v := (nI 8)) hx hb dL_law_245 (by decide) ?_
      refine lv_iload hx hb dL_law_247 (lv_at hl 20 rfl) ?_
      refine lv_iconst (v := (nI 4)) hx hb dL_law_249 (by decide) ?_
      refine lv_iconst (v := (nI 5)) hx hb dL_law_250 (by decide) ?_
      refine lv_iload hx hb dL_law_251 (lv_at hl 2 rfl) ?_
      refine lv_imul hx hb dL_law_253 ?_
      refine fw_top (pk_mul _ _) ?_
      refine lv_iadd hx hb dL_law_254 ?_
      refine fw_top (nI_add _ _) ?_
      refine lv_ishr hx hb dL_law_255 ?_
      refine lv_topi (fun s3 _ => ?_)
      refine lv_bipush (v := (nI 53)) hx hb dL_law_256 (by decide) ?_
      refine fw_calli (fw_runS (As := [.int s3, .int (nI 53)]) (rest := [.int (nI 8)]) C hz hw (c_L_low l G _ _ s3 53 (by decide) (by decide)) (fw_cwS hT wd_601 ySL_low rfl rfl ⟨Nat.le_of_ble_eq_true rfl, Nat.le_of_ble_eq_true rfl⟩) rfl hl.1 rfl (Nat.le_of_ble_eq_true rfl) dL_law_258 ⟨by show c1 + 10 * k + 0 + 0 ≤ 827442; omega, by show n1 + 300 * k + 0 + 0 ≤ 6619141; omega⟩) hw (fun r F1 H locs hw hp => ?_)
      refine W.widen (k := c1 + 10 * k + 0) (n := n1 + 300 * k + 0) (by omega) (by omega) ?_
      obtain ⟨hF1, jc, hjc, hr9⟩ := hp
      rw [hF1] at hw
      rw [hr9]
      refine lv_iadd hx hb dL_law_261 ?_
      refine fw_top (nI_add _ _) ?_
      refine lv_istore (lv' := [(23, .int (nI (8 + jc))), (22, .int (nI (8 + jb))), (21, .int (nI (1 + ja))), (20, .int (nI k)), (19, .int (fw_b (cl_all f nC (f 6) k))), (18, .int (nI (rf_dp f 1 k))), (17, .int (nI (rf_dp f 2 k))), (16, .int (rf_ds (f 6) k)), (15, .int (nI st9)), (14, .int (nI 1)), (0, .ref b), (1, .ref x), (2, .ref q2), (3, .ref q3), (4, .ref q4), (5, .ref q5), (6, .int (nI nC)), (7, .int (nI nT)), (8, .int (nI nO)), (9, .int (nI T)), (10, .int (nI i)), (11, .int v), (12, .int w)]) hx hb dL_law_262 hl (by decide) rfl (fun ls hl => ?_)
      refine lv_iload hx hb dL_law_264 (lv_at hl 4 rfl) ?_
      have hokG1 : rf_okG (nI (1 + ja)) (nI (8 + jb)) = true := p4_okG (by omega) (by omega) (by omega) (by omega)
      have hokG2 : rf_okG (nI (1 + ja)) (nI (8 + jc)) = true := p4_okG (by omega) (by omega) (by omega) (by omega)
      have hokS : rf_okS (nI (1 + ja)) (nI (8 + jb)) (nI (8 + jc)) = true := p4_okS (by omega) (by omega) (by omega) (by omega) (by omega) (by omega)
      have hJ : ∀ (H : Heap) (locs : List Loc) (ls : Array Slot), fw_S G (fun q : Nat => s.heap.size ≤ q) s F H locs → lv_has ls 24 [(23, .int (nI (8 + jc))), (22, .int (nI (8 + jb))), (21, .int (nI (1 + ja))), (20, .int (nI k)), (19, .int (fw_b (cl_all f nC (f 6) k))), (18, .int (nI (rf_dp f 1 k))), (17, .int (nI (rf_dp f 2 k))), (16, .int (rf_ds (f 6) k)), (15, .int (nI st9)), (14, .int (nI 1)), (0, .ref b), (1, .ref x), (2, .ref q2), (3, .ref q3), (4, .ref q4), (5, .ref q5), (6, .int (nI nC)), (7, .int (nI nT)), (8, .int (nI nO)), (9, .int (nI T)), (10, .int (nI i)), (11, .int v), (12, .int w)] → W p l e room_1 s m #[Value.ref b] below meth c H locs (c1 + 10 * k + 5) (n1 + 300 * k + 30) Q (F0 m 296 ls [.int (fw_b (cl_all f nC (f 6) k && (!(decide (rf_cut f nC (nI (1 + ja)) (nI (8 + jb)) = -1)) && !(decide (rf_cut f nC (nI (1 + ja)) (nI (8 + jc)) = -1)))))]) := by
        intro H locs ls hw hl
        refine lv_istore (lv' := [(19, .int (fw_b (cl_all f nC (f 6) k && (!(decide (rf_cut f nC (nI (1 + ja)) (nI (8 + jb)) = -1)) && !(decide (rf_cut f nC (nI (1 + ja)) (nI (8 + jc)) = -1)))))), (23, .int (nI (8 + jc))), (22, .int (nI (8 + jb))), (21, .int (nI (1 + ja))), (20, .int (nI k)), (18, .int (nI (rf_dp f 1 k))), (17, .int (nI (rf_dp f 2 k))), (16, .int (rf_ds (f 6) k)), (15, .int (nI st9)), (14, .int (nI 1)), (0, .ref b), (1, .ref x), (2, .ref q2), (3, .ref q3), (4, .ref q4), (5, .ref q5), (6, .int (nI nC)), (7, .int (nI nT)), (8, .int (nI nO)), (9, .int (nI T)), (10, .int (nI i)), (11, .int v), (12, .int w)]) hx hb dL_law_296 hl (by decide) rfl (fun ls hl => ?_)
        refine lv_aload_n hx hb dL_law_298 rfl (lv_at hl 11 rfl) ?_
        refine lv_iload hx hb dL_law_299 (lv_at hl 3 rfl) ?_
        refine lv_iload hx hb dL_law_301 (lv_at hl 2 rfl) ?_
        refine lv_iload hx hb dL_law_303 (lv_at hl 1 rfl) ?_
        have hd2 := rf_dp_ok hPU.2.2.2.2.2.2.2.2 (w := 2) (Or.inr rfl) k (Nat.le_refl _)
        have hd1 := rf_dp_ok hPU.2.2.2.2.2.2.2.2 (w := 1) (Or.inl rfl) k (Nat.le_refl _)
        have h60 : 60 ^ k ≤ 60 ^ 4 := Nat.pow_le_pow_right (by decide) hd4
        have hdg : 0 < cr_dg f k := Nat.gcd_pos_of_pos_left _ hd2.1
        have hdu : rf_dp f 2 k / cr_dg f k ≤ 12960000 := Nat.le_trans (Nat.div_le_self _ _) (by omega)
        have hdv : rf_dp f 1 k / cr_dg f k ≤ 12960000 := Nat.le_trans (Nat.div_le_self _ _) (by omega)
        have hdv0 : 0 < rf_dp f 1 k / cr_dg f k := Nat.div_pos (Nat.le_of_dvd hd1.1 (Nat.gcd_dvd_right _ _)) hdg
        refine fw_ask (fw_xrunV (As := [.int (nI (1 + ja)), .int (nI (8 + jb)), .int (nI (8 + jc))]) (rest := []) C hz hcx hw (c_X8_stage l G _ _ x lc lt lo lm lw dr (nI T) ds dfr ad9 k nT da f (rf_dp f 2 k / cr_dg f k) (rf_dp f 1 k / cr_dg f k) (nI (1 + ja)) (nI (8 + jb)) (nI (8 + jc)) hl9 hX hD1 hD2 hd4 hD4 hD3 hdu hdv hdv0) (fw_cwV hT wd_341 yVX8_stage rfl rfl ⟨Nat.le_of_ble_eq_true rfl, Nat.le_of_ble_eq_true rfl⟩) (fw_rec hz hw hX (q := vwCl[9]) rfl) rfl hl.1 rfl (Nat.le_of_ble_eq_true rfl) dL_law_305 ⟨by show c1 + 10 * k + 5 + 0 + 3 ≤ 827442; omega, by show n1 + 300 * k + 30 + 0 + 250 ≤ 6619141; omega⟩) hw (fun E h9 => by
            rcases h9 with ⟨-, h9⟩ | ⟨-, -, h9⟩
            · rw [hokS] at h9; cases h9
            · omega) (fun r F1 H locs hw hp => ?_)
        refine W.widen (k := c1 + 10 * k + 5 + 3) (n := n1 + 300 * k + 30 + 250) (by omega) (by omega) ?_
        obtain ⟨m9, a9, b9, y9, q9, -, hn9, em, eq, ep, a1, a2, a3, a4, a5, a6, hr9, z1, z2, z3, hk9⟩ := hp
        rw [hr9]
        obtain ⟨c1L, c1P, c1k⟩ := st_stage hX hC hT1 hTr hO1 hK hI hZ hD htr hPU hn9 em eq ep a1 a2 a3 a4 a5 a6 z1 z2 z3 hk9 rfl
        have hV1 := pw_draft (d := cl_dt (f 6) k (nI (1 + ja)) (nI (8 + jb)) (nI (8 + jc))) hPV hc10
        obtain ⟨g, hg⟩ : ∃ g, g = va_up f 6 (cl_dt (f 6) k (nI (1 + ja)) (nI (8 + jb)) (nI (8 + jc))) := ⟨_, rfl⟩
        rw [← hg] at c1L c1P hV1
        have eall : cl_all g nC (g 6) (k + 1) = (cl_all f nC (f 6) k && (!(decide (rf_cut f nC (nI (1 + ja)) (nI (8 + jb)) = -1)) && !(decide (rf_cut f nC (nI (1 + ja)) (nI (8 + jc)) = -1)))) := by rw [hg]; exact p4_all
        have edp2 : rf_dp g 2 (k + 1) = rf_dp f 2 k * (8 + jc) := by rw [hg]; exact p4_dp2 (by omega)
        have edp1 : rf_dp g 1 (k + 1) = rf_dp f 1 k * (8 + jb) := by rw [hg]; exact p4_dp1 (by omega)
        rw [← eall] at hl
        refine fw_top (x' := (rf_ds (g 6) (k + 1))) (by rw [hg]; rfl) ?_
        refine lv_istore (lv' := [(16, .int (rf_ds (g 6) (k + 1))), (19, .int (fw_b (cl_all g nC (g 6) (k + 1)))), (23, .int (nI (8 + jc))), (22, .int (nI (8 + jb))), (21, .int (nI (1 + ja))), (20, .int (nI k)), (18, .int (nI (rf_dp f 1 k))), (17, .int (nI (rf_dp f 2 k))), (15, .int (nI st9)), (14, .int (nI 1)), (0, .ref b), (1, .ref x), (2, .ref q2), (3, .ref q3), (4, .ref q4), (5, .ref q5), (6, .int (nI nC)), (7, .int (nI nT)), (8, .int (nI nO)), (9, .int (nI T)), (10, .int (nI i)), (11, .int v), (12, .int w)]) hx hb dL_law_308 hl (by decide) rfl (fun ls hl => ?_)
        refine lv_iload hx hb dL_law_310 (lv_at hl 7 rfl) ?_
        refine lv_iload hx hb dL_law_312 (lv_at hl 2 rfl) ?_
        refine lv_imul hx hb dL_law_314 ?_
        refine fw_top (pk_mul _ _) ?_
        refine fw_top (x' := (nI (rf_dp g 2 (k + 1)))) (by rw [edp2]) ?_
        refine lv_istore (lv' := [(17, .int (nI (rf_dp g 2 (k + 1)))), (16, .int (rf_ds (g 6) (k + 1))), (19, .int (fw_b (cl_all g nC (g 6) (k + 1)))), (23, .int (nI (8 + jc))), (22, .int (nI (8 + jb))), (21, .int (nI (1 + ja))), (20, .int (nI k)), (18, .int (nI (rf_dp f 1 k))), (15, .int (nI st9)), (14, .int (nI 1)), (0, .ref b), (1, .ref x), (2, .ref q2), (3, .ref q3), (4, .ref q4), (5, .ref q5), (6, .int (nI nC)), (7, .int (nI nT)), (8, .int (nI nO)), (9, .int (nI T)), (10, .int (nI i)), (11, .int v), (12, .int w)]) hx hb dL_law_315 hl (by decide) rfl (fun ls hl => ?_)
        refine lv_iload hx hb dL_law_317 (lv_at hl 7 rfl) ?_
        refine lv_iload hx hb dL_law_319 (lv_at hl 4 rfl) ?_
        refine lv_imul hx hb dL_law_321 ?_
        refine fw_top (pk_mul _ _) ?_
        refine fw_top (x' := (nI (rf_dp g 1 (k + 1)))) (by rw [edp1]) ?_
        refine lv_istore (lv' := [(18, .int (nI (rf_dp g 1 (k + 1)))), (17, .int (nI (rf_dp g 2 (k + 1)))), (16, .int (rf_ds (g 6) (k + 1))), (19, .int (fw_b (cl_all g nC (g 6) (k + 1)))), (23, .int (nI (8 + jc))), (22, .int (nI (8 + jb))), (21, .int (nI (1 + ja))), (20, .int (nI k)), (15, .int (nI st9)), (14, .int (nI 1)), (0, .ref b), (1, .ref x), (2, .ref q2), (3, .ref q3), (4, .ref q4), (5, .ref q5), (6, .int (nI nC)), (7, .int (nI nT)), (8, .int (nI nO)), (9, .int (nI T)), (10, .int (nI i)), (11, .int v), (12, .int w)]) hx hb dL_law_322 hl (by decide) rfl (fun ls hl => ?_)
        refine lv_iinc (v := (nI (k + 1))) (lv' := [(20, .int (nI (k + 1))), (18, .int (nI (rf_dp g 1 (k + 1)))), (17, .int (nI (rf_dp g 2 (k + 1)))), (16, .int (rf_ds (g 6) (k + 1))), (19, .int (fw_b (cl_all g nC (g 6) (k + 1)))), (23, .int (nI (8 + jc))), (22, .int (nI (8 + jb))), (21, .int (nI (1 + ja))), (15, .int (nI st9)), (14, .int (nI 1)), (0, .ref b), (1, .ref x), (2, .ref q2), (3, .ref q3), (4, .ref q4), (5, .ref q5), (6, .int (nI nC)), (7, .int (nI nT)), (8, .int (nI nO)), (9, .int (nI T)), (10, .int (nI i)), (11, .int v), (12, .int w)]) hx hb dL_law_324 hl (k := 7) rfl (nI_1 _) (by decide) rfl (fun ls hl => ?_)
        refine lv_goto (tgt := 204) hx hb dL_law_327 (by decide) ?_
        refine W.widen (k := c1 + 10 * (k + 1)) (n := n1 + 300 * (k + 1)) (by omega) (by omega) ?_
        exact ih (k + 1) (by omega) _ _ _ _ g hw (hA.kp c1k (fun t z => by omega)) c1L c1P hV1 (lv_sub hl [0, 4, 1, 2, 3, 8, 9, 10, 11, 12, 13, 14, 15, 16, 17, 18, 19, 20, 21, 22] rfl)
      refine lv_if_eq (tgt := 295) hx hb dL_law_266 (by decide) (fun d0 => ?_) (fun d0 => ?_)
      · have d0 := fw_b0 d0
        refine lv_iconst (v := (nI 0)) hx hb dL_law_295 (by decide) ?_
        refine fw_top (x' := (fw_b (cl_all f nC (f 6) k && (!(decide (rf_cut f nC (nI (1 + ja)) (nI (8 + jb)) = -1)) && !(decide (rf_cut f nC (nI (1 + ja)) (nI (8 + jc)) = -1)))))) (by rw [d0]; rfl) ?_
        refine W.widen (k := c1 + 10 * k + 5) (n := n1 + 300 * k + 30) (by omega) (by omega) ?_
        exact hJ _ _ _ hw (lv_sub hl [0, 1, 2, 3, 4, 5, 6, 7, 8, 9, 10, 11, 12, 13, 14, 15, 16, 17, 18, 19, 20, 21, 22] rfl)
      · have d0 := fw_b1 d0
        refine lv_aload_n hx hb dL_law_269 rfl (lv_at hl 11 rfl) ?_
        refine lv_iload hx hb dL_law_270 (lv_at hl 2 rfl) ?_
        refine lv_iload hx hb dL_law_272 (lv_at hl 1 rfl) ?_
        refine fw_ask (fw_xrunV (As := [.int (nI (1 + ja)), .int (nI (8 + jb))]) (rest := []) C hz hcx hw (c_X8_cutterFor l G _ _ x lc lt lo lm lw dr (nI T) ca f nC (nI (1 + ja)) (nI (8 + jb)) hl9 hX hC) (fw_cwV hT wd_314 yVX8_cutterFor rfl rfl ⟨Nat.le_of_ble_eq_true rfl, Nat.le_of_ble_eq_true rfl⟩) (fw_rec hz hw hX (q := vwCl[9]) rfl) rfl hl.1 rfl (Nat.le_of_ble_eq_true rfl) dL_law_274 ⟨by show c1 + 10 * k + 0 + 1 ≤ 827442; omega, by show n1 + 300 * k + 0 + 6 ≤ 6619141; omega⟩) hw (fun E h9 => absurd h9.2 (by rw [hokG1]; decide)) (fun r F1 H locs hw hp => ?_)
        refine W.widen (k := c1 + 10 * k + 1) (n := n1 + 300 * k + 6) (by omega) (by omega) ?_
        obtain ⟨hF1, -, hr9⟩ := hp
        rw [hF1] at hw
        rw [hr9]
        by_cases hq1 : rf_cut f nC (nI (1 + ja)) (nI (8 + jb)) = -1
        · rw [hq1]
          refine lv_if_lt (tgt := 295) hx hb dL_law_277 (by decide) (fun cx => ?_) (fun cx => absurd cx (by decide))
          refine lv_iconst (v := (nI 0)) hx hb dL_law_295 (by decide) ?_
          refine fw_top (x' := (fw_b (cl_all f nC (f 6) k && (!(decide (rf_cut f nC (nI (1 + ja)) (nI (8 + jb)) = -1)) && !(decide (rf_cut f nC (nI (1 + ja)) (nI (8 + jc)) = -1)))))) (by rw [decide_eq_true hq1, Bool.not_true, Bool.false_and, Bool.and_false]; rfl) ?_
          refine W.widen (k := c1 + 10 * k + 5) (n := n1 + 300 * k + 30) (by omega) (by omega) ?_
          exact hJ _ _ _ hw (lv_sub hl [0, 1, 2, 3, 4, 5, 6, 7, 8, 9, 10, 11, 12, 13, 14, 15, 16, 17, 18, 19, 20, 21, 22] rfl)
        · obtain ⟨c9, hc9, ec9⟩ := rf_cut_ix hq1
          rw [ec9]
          refine lv_if_lt (tgt := 295) hx hb dL_law_277 (by decide) (fun d1 => ?_) (fun d1 => ?_)
          · have d1 := (nI_ltI (a := c9) (b := 0) (by omega) (by omega)).mp d1
            omega
          · have d1 : ¬ c9 < 0 := fun h9 => d1 ((nI_ltI (a := c9) (b := 0) (by omega) (by omega)).mpr h9)
            refine lv_aload_n hx hb dL_law_280 rfl (lv_at hl 11 rfl) ?_
            refine lv_iload hx hb dL_law_281 (lv_at hl 2 rfl) ?_
            refine lv_iload hx hb dL_law_283 (lv_at hl 0 rfl) ?_
            refine fw_ask (fw_xrunV (As := [.int (nI (1 + ja)), .int (nI (8 + jc))]) (rest := []) C hz hcx hw (c_X8_cutterFor l G _ _ x lc lt lo lm lw dr (nI T) ca f nC (nI (1 + ja)) (nI (8 + jc)) hl9 hX hC) (fw_cwV hT wd_314 yVX8_cutterFor rfl rfl ⟨Nat.le_of_ble_eq_true rfl, Nat.le_of_ble_eq_true rfl⟩) (fw_rec hz hw hX (q := vwCl[9]) rfl) rfl hl.1 rfl (Nat.le_of_ble_eq_true rfl) dL_law_285 ⟨by show c1 + 10 * k + 1 + 1 ≤ 827442; omega, by show n1 + 300 * k + 6 + 6 ≤ 6619141; omega⟩) hw (fun E h9 => absurd h9.2 (by rw [hokG2]; decide)) (fun r F1 H locs hw hp => ?_)
            refine W.widen (k := c1 + 10 * k + 2) (n := n1 + 300 * k + 12) (by omega) (by omega) ?_
            obtain ⟨hF1, -, hr9⟩ := hp
            rw [hF1] at hw
            rw [hr9]
            by_cases hq2 : rf_cut f nC (nI (1 + ja)) (nI (8 + jc)) = -1
            · rw [hq2]
              refine lv_if_lt (tgt := 295) hx hb dL_law_288 (by decide) (fun cx => ?_) (fun cx => absurd cx (by decide))
              refine lv_iconst (v := (nI 0)) hx hb dL_law_295 (by decide) ?_
              refine fw_top (x' := (fw_b (cl_all f nC (f 6) k && (!(decide (rf_cut f nC (nI (1 + ja)) (nI (8 + jb)) = -1)) && !(decide (rf_cut f nC (nI (1 + ja)) (nI (8 + jc)) = -1)))))) (by rw [decide_eq_true hq2, Bool.not_true, Bool.and_false, Bool.and_false]; rfl) ?_
              refine W.widen (k := c1 + 10 * k + 5) (n := n1 + 300 * k + 30) (by omega) (by omega) ?_
              exact hJ _ _ _ hw (lv_sub hl [0, 1, 2, 3, 4, 5, 6, 7, 8, 9, 10, 11, 12, 13, 14, 15, 16, 17, 18, 19, 20, 21, 22] rfl)
            · obtain ⟨e9, he9, ee9⟩ := rf_cut_ix hq2
              rw [ee9]
              refine lv_if_lt (tgt := 295) hx hb dL_law_288 (by decide) (fun d2 => ?_) (fun d2 => ?_)
              · have d2 := (nI_ltI (a := e9) (b := 0) (by omega) (by omega)).mp d2
                omega
              · have d2 : ¬ e9 < 0 := fun h9 => d2 ((nI_ltI (a := e9) (b := 0) (by omega) (by omega)).mpr h9)
                refine lv_iconst (v := (nI 1)) hx hb dL_law_291 (by decide) ?_
                refine lv_goto (tgt := 296) hx hb dL_law_292 (by decide) ?_
                refine fw_top (x' := (fw_b (cl_all f nC (f 6) k && (!(decide (rf_cut f nC (nI (1 + ja)) (nI (8 + jb)) = -1)) && !(decide (rf_cut f nC (nI (1 + ja)) (nI (8 + jc)) = -1)))))) (by rw [d0, decide_eq_false hq1, decide_eq_false hq2]; rfl) ?_
                refine W.widen (k := c1 + 10 * k + 5) (n := n1 + 300 * k + 30) (by omega) (by omega) ?_
                exact hJ _ _ _ hw (lv_sub hl [0, 1, 2, 3, 4, 5, 6, 7, 8, 9, 10, 11, 12, 13, 14, 15, 16, 17, 18, 19, 20, 21, 22] rfl)
set_option maxHeartbeats 4000000 in
set_option maxRecDepth 100000 in
theorem law_train {p : Program} {l : Launch} {e : Env} {s : State} {m : MethodId} {below : List Frame} {meth : Method} {c : Code} {b L : Nat} {xs : Nat → Int32} {G : fw_G} (E0 : lw_E p l s m c b L xs G) {x q2 q3 q4 q5 i nC nT nO T : Nat} {c1 n1 : Nat} {Q : State → Prop} {v w : Int32} (hi : i < 50) (hc1 : c1 + 120 ≤ 827442) (hn1 : n1 + 9000 ≤ 6619141) {F : fw_F} {H : Heap} {locs : List Loc} {ls : Array Slot} {j13 : Nat} (hR : p4_R G F x q2 q3 q4 q5 i nC nT nO T) (hn : nT < 8) (hw : fw_S G (fun q : Nat => s.heap.size ≤ q) s F H locs) (hl : lv_has ls 24 [(14, .int (nI 1)), (13, .int (nI j13)), (0, .ref b), (1, .ref x), (2, .ref q2), (3, .ref q3), (4, .ref q4), (5, .ref q5), (6, .int (nI nC)), (7, .int (nI nT)), (8, .int (nI nO)), (9, .int (nI T)), (10, .int (nI i)), (11, .int v), (12, .int w)])
    (K : ∀ (F : fw_F) (H : Heap) (locs : List Loc) (ls : Array Slot) (nC' nT' nO' T' : Nat), fw_S G (fun q : Nat => s.heap.size ≤ q) s F H locs → p4_R G F x q2 q3 q4 q5 (i + 1) nC' nT' nO' T' → lv_has ls 24 [(14, .int (nI 1)), (0, .ref b), (1, .ref x), (2, .ref q2), (3, .ref q3), (4, .ref q4), (5, .ref q5), (6, .int (nI (nC'))), (7, .int (nI (nT'))), (8, .int (nI (nO'))), (9, .int (nI (T'))), (10, .int (nI i)), (11, .int v), (12, .int w)] → W p l e room_1 s m #[Value.ref b] below meth c H locs (c1 + 120) (n1 + 9000) Q (F0 m 669 ls [])) : W p l e room_1 s m #[Value.ref b] below meth c H locs (c1) (n1) Q (F0 m 179 ls []) := by
  have E9 := E0
  obtain ⟨hx, hb, hml, hown, hT, hz, hcx, hl9, hX9, hbl, hL, hAn⟩ := E0
  have C : CallFix p m c code 24 s #[Value.ref b] fw_tb RL := ⟨hx, hb, hml, hown, hT⟩
  have hbA : ¬ (fun q : Nat => s.heap.size ≤ q) b := Nat.not_le.mpr hbl
  obtain ⟨f, nJ, h, gA, gB, gO, gH, hA, hT60, hCL, hPU, hPV⟩ := hR
  have hCL0 := hCL
  obtain ⟨lc, lt, lo, lm, lw, dr, ds, dfr, ca, ta, sl, fr, oa, tr, ml, ma, ja, da, wj, sa, ms, nW, hX, hC, hT1, hTr, hO1, hK, hI, hZ, hD, htr⟩ := hCL
  have hc10 := hC.1
  have ht8 := hT1.1
  have ho12 := hO1.1
  have hj96 := hI.j96
  refine lv_iconst (v := (nI 1)) hx hb dL_law_179 (by decide) ?_
  refine lv_iload hx hb dL_law_180 (lv_at hl 14 rfl) ?_
  refine lv_iconst (v := (nI 3)) hx hb dL_law_182 (by decide) ?_
  refine fw_calli (fw_runS (As := [.int w, .int (nI 3)]) (rest := [.int (nI 1)]) C hz hw (c_L_low l G _ _ w 3 (by decide) (by decide)) (fw_cwS hT wd_601 ySL_low rfl rfl ⟨Nat.le_of_ble_eq_true rfl, Nat.le_of_ble_eq_true rfl⟩) rfl hl.1 rfl (Nat.le_of_ble_eq_true rfl) dL_law_183 ⟨by show c1 + 0 + 0 ≤ 827442; omega, by show n1 + 0 + 0 ≤ 6619141; omega⟩) hw (fun r F1 H locs hw hp => ?_)
  refine W.widen (k := c1 + 0) (n := n1 + 0) (by omega) (by omega) ?_
  obtain ⟨hF1, j1, hj1, hr9⟩ := hp
  rw [hF1] at hw
  rw [hr9]
  refine lv_iadd hx hb dL_law_186 ?_
  refine fw_top (nI_add _ _) ?_
  refine lv_istore (lv' := [(15, .int (nI (1 + j1))), (14, .int (nI 1)), (13, .int (nI j13)), (0, .ref b), (1, .ref x), (2, .ref q2), (3, .ref q3), (4, .ref q4), (5, .ref q5), (6, .int (nI nC)), (7, .int (nI nT)), (8, .int (nI nO)), (9, .int (nI T)), (10, .int (nI i)), (11, .int v), (12, .int w)]) hx hb dL_law_187 hl (by decide) rfl (fun ls hl => ?_)
  refine lv_iconst (v := (nI 0)) hx hb dL_law_189 (by decide) ?_
  refine lv_istore (lv' := [(16, .int (nI 0)), (15, .int (nI (1 + j1))), (14, .int (nI 1)), (13, .int (nI j13)), (0, .ref b), (1, .ref x), (2, .ref q2), (3, .ref q3), (4, .ref q4), (5, .ref q5), (6, .int (nI nC)), (7, .int (nI nT)), (8, .int (nI nO)), (9, .int (nI T)), (10, .int (nI i)), (11, .int v), (12, .int w)]) hx hb dL_law_190 hl (by decide) rfl (fun ls hl => ?_)
  refine lv_iconst (v := (nI 1)) hx hb dL_law_192 (by decide) ?_
  refine lv_istore (lv' := [(17, .int (nI 1)), (16, .int (nI 0)), (15, .int (nI (1 + j1))), (14, .int (nI 1)), (13, .int (nI j13)), (0, .ref b), (1, .ref x), (2, .ref q2), (3, .ref q3), (4, .ref q4), (5, .ref q5), (6, .int (nI nC)), (7, .int (nI nT)), (8, .int (nI nO)), (9, .int (nI T)), (10, .int (nI i)), (11, .int v), (12, .int w)]) hx hb dL_law_193 hl (by decide) rfl (fun ls hl => ?_)
  refine lv_iconst (v := (nI 1)) hx hb dL_law_195 (by decide) ?_
  refine lv_istore (lv' := [(18, .int (nI 1)), (17, .int (nI 1)), (16, .int (nI 0)), (15, .int (nI (1 + j1))), (14, .int (nI 1)), (13, .int (nI j13)), (0, .ref b), (1, .ref x), (2, .ref q2), (3, .ref q3), (4, .ref q4), (5, .ref q5), (6, .int (nI nC)), (7, .int (nI nT)), (8, .int (nI nO)), (9, .int (nI T)), (10, .int (nI i)), (11, .int v), (12, .int w)]) hx hb dL_law_196 hl (by decide) rfl (fun ls hl => ?_)
  refine lv_iconst (v := (nI 1)) hx hb dL_law_198 (by decide) ?_
  refine lv_istore (lv' := [(19, .int (nI 1)), (18, .int (nI 1)), (17, .int (nI 1)), (16, .int (nI 0)), (15, .int (nI (1 + j1))), (14, .int (nI 1)), (13, .int (nI j13)), (0, .ref b), (1, .ref x), (2, .ref q2), (3, .ref q3), (4, .ref q4), (5, .ref q5), (6, .int (nI nC)), (7, .int (nI nT)), (8, .int (nI nO)), (9, .int (nI T)), (10, .int (nI i)), (11, .int v), (12, .int w)]) hx hb dL_law_199 hl (by decide) rfl (fun ls hl => ?_)
  refine lv_iconst (v := (nI 0)) hx hb dL_law_201 (by decide) ?_
  refine lv_istore (lv' := [(20, .int (nI 0)), (19, .int (nI 1)), (18, .int (nI 1)), (17, .int (nI 1)), (16, .int (nI 0)), (15, .int (nI (1 + j1))), (14, .int (nI 1)), (13, .int (nI j13)), (0, .ref b), (1, .ref x), (2, .ref q2), (3, .ref q3), (4, .ref q4), (5, .ref q5), (6, .int (nI nC)), (7, .int (nI nT)), (8, .int (nI nO)), (9, .int (nI T)), (10, .int (nI i)), (11, .int v), (12, .int w)]) hx hb dL_law_202 hl (by decide) rfl (fun ls hl => ?_)
  refine W.widen (k := c1 + 10 * 0) (n := n1 + 300 * 0) (Nat.le_refl _) (Nat.le_refl _) ?_
  refine law_stages E9 (st9 := 1 + j1) (h := h) (gA := gA) (gB := gB) (gO := gO) (gH := gH) (nJ := nJ) hi hc1 hn1 (by omega) hT60 (fun F H locs ls f hw hA hCL hPU hPV hl => ?_) (1 + j1) 0 (Nat.zero_add _) _ _ _ _ f hw hA hCL0 hPU hPV (lv_sub hl [0, 1, 2, 3, 4, 5, 6, 8, 9, 10, 11, 12, 13, 14, 15, 16, 17, 18, 19, 20] rfl)
  have hCL0 := hCL
  obtain ⟨lc, lt, lo, lm, lw, dr, ds, dfr, ca, ta, sl, fr, oa, tr, ml, ma, ja, da, wj, sa, ms, nW, hX, hC, hT1, hTr, hO1, hK, hI, hZ, hD, htr⟩ := hCL
  have hc10 := hC.1
  have ht8 := hT1.1
  have ho12 := hO1.1
  have hj96 := hI.j96
  have hD9 := hD
  obtain ⟨hd4, hD1, ⟨ad9, hD2⟩, hD3, hD4⟩ := hD9
  refine lv_iload hx hb dL_law_330 (lv_at hl 1 rfl) ?_
  refine lv_if_eq (tgt := 370) hx hb dL_law_332 (by decide) (fun d => ?_) (fun d => ?_)
  · have d := fw_b0 d
    refine lv_iload hx hb dL_law_370 (lv_at hl 6 rfl) ?_
    refine lv_if_eq (tgt := 397) hx hb dL_law_372 (by decide) (fun cx => absurd cx (by decide)) (fun cx => ?_)
    refine lv_aload_n hx hb dL_law_375 rfl (lv_at hl 8 rfl) ?_
    refine fw_calli (fw_runV (As := []) (rest := []) C hz hw (c_X8_scrap l G _ _ x lc lt lo lm lw dr (nI T) ds dfr ad9 (1 + j1) nT da hX hD1 hD2) (fw_cwV hT wd_388 yVX8_scrap rfl rfl ⟨Nat.le_of_ble_eq_true rfl, Nat.le_of_ble_eq_true rfl⟩) (fw_rec hz hw hX (q := vwCl[9]) rfl) rfl hl.1 rfl (Nat.le_of_ble_eq_true rfl) dL_law_376 ⟨by show c1 + 40 + 0 + 3 ≤ 827442; omega, by show n1 + 2000 + 0 + 8 ≤ 6619141; omega⟩) hw (fun r F1 H locs hw hp => ?_)
    refine W.widen (k := c1 + 40 + 3) (n := n1 + 2000 + 8) (by omega) (by omega) ?_
    obtain ⟨hr9, b8, p1, p2, z1, z2, z3, z4, hk9⟩ := hp
    rw [hr9]
    obtain ⟨c2L, c2P, c2k⟩ := st_scrap (G := G) hX hC hT1 hTr hO1 hK hI hZ hD htr hPU z1 z2 z3 z4 hk9
    refine lv_iload hx hb dL_law_379 (lv_at hl 1 rfl) ?_
    refine lv_if_eq (tgt := 388) hx hb dL_law_381 (by decide) (fun d2 => ?_) (fun d2 => ?_)
    · have d2 := fw_b0 d2
      refine lv_iload hx hb dL_law_388 (lv_at hl 5 rfl) ?_
      refine lv_icmp_ne (tgt := 397) hx hb dL_law_390 (by decide) (fun d3 => ?_) (fun d3 => ?_)
      · have d3 : ¬ (1 + j1) = (1 + j1) := fun h9 => d3 ((nI_eq (a := (1 + j1)) (b := (1 + j1)) (by omega) (by omega)).mpr h9)
        omega
      · have d3 := (nI_eq (a := (1 + j1)) (b := (1 + j1)) (by omega) (by omega)).mp d3
        refine lv_iconst (v := (nI 1)) hx hb dL_law_393 (by decide) ?_
        refine lv_goto (tgt := 398) hx hb dL_law_394 (by decide) ?_
        refine lv_istore (lv' := [(14, .int (nI 1)), (20, .int (nI ((1 + j1)))), (19, .int (fw_b (cl_all f nC (f 6) (1 + j1)))), (18, .int (nI (rf_dp f 1 (1 + j1)))), (17, .int (nI (rf_dp f 2 (1 + j1)))), (16, .int (rf_ds (f 6) (1 + j1))), (15, .int (nI ((1 + j1)))), (0, .ref b), (1, .ref x), (2, .ref q2), (3, .ref q3), (4, .ref q4), (5, .ref q5), (6, .int (nI nC)), (7, .int (nI nT)), (8, .int (nI nO)), (9, .int (nI T)), (10, .int (nI i)), (11, .int v), (12, .int w)]) hx hb dL_law_398 hl (by decide) rfl (fun ls hl => ?_)
        refine lv_goto (tgt := 669) hx hb dL_law_400 (by decide) ?_
        refine W.widen (k := c1 + 120) (n := n1 + 9000) (by omega) (by omega) ?_
        exact K _ _ _ _ nC nT nO T hw ⟨f, nJ, h, gA, gB, gO, gH, hA.kp c2k (fun t z => by omega), by omega, c2L, c2P, hPV⟩ (lv_sub hl [0, 7, 8, 9, 10, 11, 12, 13, 14, 15, 16, 17, 18, 19] rfl)
    · have d2 := fw_b1 d2
      rw [d] at d2; cases d2
  · have d := fw_b1 d
    refine lv_aload_n hx hb dL_law_335 rfl (lv_at hl 9 rfl) ?_
    refine lv_iload hx hb dL_law_336 (lv_at hl 14 rfl) ?_
    refine lv_iload hx hb dL_law_338 (lv_at hl 3 rfl) ?_
    refine fw_iast hx hb hz hw hA.1 (vp_in_nI (show nT < 8 by omega) (by omega)) dL_law_340 (fun H locs hw => ?_)
    rw [nI_clamp (show nT < 2 ^ 31 by omega)] at hw
    have hA1 := hA.s2 (g := (upd gA nT (nI (rf_dp f 2 (1 + j1)))))
    have hCL1 := hCL0.up (e' := fw_ia (fw_cI G) 8 (upd gA nT (nI (rf_dp f 2 (1 + j1))))) hA.1 (by decide)
    obtain ⟨F8, hF8⟩ : ∃ z, z = va_up F q2 (some ((61, 0, 0), fw_ia (fw_cI G) 8 (upd gA nT (nI (rf_dp f 2 (1 + j1)))))) := ⟨_, rfl⟩
    rw [← hF8] at hw hA1 hCL1
    refine lv_aload_n hx hb dL_law_341 rfl (lv_at hl 10 rfl) ?_
    refine lv_iload hx hb dL_law_342 (lv_at hl 14 rfl) ?_
    refine lv_iload hx hb dL_law_344 (lv_at hl 2 rfl) ?_
    refine fw_iast hx hb hz hw hA1.2.1 (vp_in_nI (show nT < 8 by omega) (by omega)) dL_law_346 (fun H locs hw => ?_)
    rw [nI_clamp (show nT < 2 ^ 31 by omega)] at hw
    have hA2 := hA1.s3 (g := (upd gB nT (nI (rf_dp f 1 (1 + j1)))))
    have hCL := hCL1.up (e' := fw_ia (fw_cI G) 8 (upd gB nT (nI (rf_dp f 1 (1 + j1))))) hA1.2.1 (by decide)
    obtain ⟨F9, hF9⟩ : ∃ z, z = va_up F8 q3 (some ((62, 0, 0), fw_ia (fw_cI G) 8 (upd gB nT (nI (rf_dp f 1 (1 + j1)))))) := ⟨_, rfl⟩
    rw [← hF9] at hw hA2 hCL
    obtain ⟨lc, lt, lo, lm, lw, dr, ds, dfr, ca, ta, sl, fr, oa, tr, ml, ma, ja, da, wj, sa, ms, nW, hX, hC, hT1, hTr, hO1, hK, hI, hZ, hD, htr⟩ := hCL
    have hD9 := hD
    obtain ⟨hd4, hD1, ⟨ad9, hD2⟩, hD3, hD4⟩ := hD9
    have hT9 := hT1
    obtain ⟨-, at9, hLt⟩ := hT9
    refine lv_iinc (v := (nI (nT + 1))) (lv' := [(7, .int (nI (nT + 1))), (20, .int (nI ((1 + j1)))), (19, .int (fw_b (cl_all f nC (f 6) (1 + j1)))), (18, .int (nI (rf_dp f 1 (1 + j1)))), (17, .int (nI (rf_dp f 2 (1 + j1)))), (16, .int (rf_ds (f 6) (1 + j1))), (15, .int (nI ((1 + j1)))), (14, .int (nI 1)), (0, .ref b), (1, .ref x), (2, .ref q2), (3, .ref q3), (4, .ref q4), (5, .ref q5), (6, .int (nI nC)), (8, .int (nI nO)), (9, .int (nI T)), (10, .int (nI i)), (11, .int v), (12, .int w)]) hx hb dL_law_347 hl (k := 14) rfl (nI_1 _) (by decide) rfl (fun ls hl => ?_)
    refine lv_aload_n hx hb dL_law_350 rfl (lv_at hl 9 rfl) ?_
    refine lv_iload hx hb dL_law_351 (lv_at hl 5 rfl) ?_
    refine fw_ask (fw_xrunV (As := [.int (rf_ds (f 6) (1 + j1))]) (rest := []) C hz hcx hw (c_X8_make l G _ _ x lc lt lo lm lw dr (nI T) ds dfr ad9 (1 + j1) nT da f ca nC at9 ta (rf_ds (f 6) (1 + j1)) hl9 hX hD1 hD2 hd4 hD4 hC hLt ht8) (fw_cwV hT wd_392 yVX8_make rfl rfl ⟨Nat.le_of_ble_eq_true rfl, Nat.le_of_ble_eq_true rfl⟩) (fw_rec hz hw hX (q := vwCl[9]) rfl) rfl hl.1 rfl (Nat.le_of_ble_eq_true rfl) dL_law_353 ⟨by show c1 + 40 + 0 + 5 ≤ 827442; omega, by show n1 + 2000 + 0 + 260 ≤ 6619141; omega⟩) hw (fun E h9 => by
        obtain ⟨-, h9⟩ := h9
        rcases h9 with h9 | h9 | h9 | h9
        · omega
        · exact h9 rfl
        · rw [d] at h9; cases h9
        · omega) (fun r F1 H locs hw hp => ?_)
    refine W.widen (k := c1 + 40 + 5) (n := n1 + 2000 + 260) (by omega) (by omega) ?_
    obtain ⟨al, b8, p1, p2, hn9, -, hall, h8, hr9, z0, z1, z2, z3, z4, hk9⟩ := hp
    rw [hr9]
    obtain ⟨c1L, c1P, c1k⟩ := st_make (G := G) hX hC hT1 hTr hO1 hK hI hZ hD htr hPU hn9 h8 z0 z1 z2 z3 z4 hk9 rfl
    have hV1 := pw_make hPV hc10 hd4 hPU.1 hall rfl
    obtain ⟨g, hg⟩ : ∃ g, g = va_up (va_up f 9 (rf_copy f nT (3 * (1 + j1)))) 8 (upd (f 8) nT (nI (1 + j1))) := ⟨_, rfl⟩
    rw [← hg] at c1L c1P hV1
    obtain ⟨lc, lt, lo, lm, lw, dr, ds, dfr, ca, ta, sl, fr, oa, tr, ml, ma, ja, da, wj, sa, ms, nW, hX, hC, hT1, hTr, hO1, hK, hI, hZ, hD, htr⟩ := c1L
    have hPU := c1P
    have hD9 := hD
    obtain ⟨hd4, hD1, ⟨ad9, hD2⟩, hD3, hD4⟩ := hD9
    refine lv_iload hx hb dL_law_356 (lv_at hl 0 rfl) ?_
    refine lv_iconst (v := (nI 1)) hx hb dL_law_358 (by decide) ?_
    refine lv_isub hx hb dL_law_359 ?_
    refine fw_top (pk_sub (by omega)) ?_
    refine lv_icmp_ne (tgt := 367) hx hb dL_law_360 (by decide) (fun d3 => ?_) (fun d3 => ?_)
    · have d3 : ¬ nT = ((nT + 1) - 1) := fun h9 => d3 ((nI_eq (a := nT) (b := (nT + 1) - 1) (by omega) (by omega)).mpr h9)
      omega
    · have d3 := (nI_eq (a := nT) (b := (nT + 1) - 1) (by omega) (by omega)).mp d3
      refine lv_iconst (v := (nI 1)) hx hb dL_law_363 (by decide) ?_
      refine lv_goto (tgt := 368) hx hb dL_law_364 (by decide) ?_
      refine lv_istore (lv' := [(14, .int (nI 1)), (7, .int (nI (nT + 1))), (20, .int (nI ((1 + j1)))), (19, .int (fw_b (cl_all f nC (f 6) (1 + j1)))), (18, .int (nI (rf_dp f 1 (1 + j1)))), (17, .int (nI (rf_dp f 2 (1 + j1)))), (16, .int (rf_ds (f 6) (1 + j1))), (15, .int (nI ((1 + j1)))), (0, .ref b), (1, .ref x), (2, .ref q2), (3, .ref q3), (4, .ref q4), (5, .ref q5), (6, .int (nI nC)), (8, .int (nI nO)), (9, .int (nI T)), (10, .int (nI i)), (11, .int v), (12, .int w)]) hx hb dL_law_368 hl (by decide) rfl (fun ls hl => ?_)
      refine lv_iload hx hb dL_law_370 (lv_at hl 0 rfl) ?_
      refine lv_if_eq (tgt := 397) hx hb dL_law_372 (by decide) (fun cx => absurd cx (by decide)) (fun cx => ?_)
      refine lv_aload_n hx hb dL_law_375 rfl (lv_at hl 9 rfl) ?_
      refine fw_calli (fw_runV (As := []) (rest := []) C hz hw (c_X8_scrap l G _ _ x lc lt lo lm lw dr (nI T) ds dfr ad9 0 (nT + 1) da hX hD1 hD2) (fw_cwV hT wd_388 yVX8_scrap rfl rfl ⟨Nat.le_of_ble_eq_true rfl, Nat.le_of_ble_eq_true rfl⟩) (fw_rec hz hw hX (q := vwCl[9]) rfl) rfl hl.1 rfl (Nat.le_of_ble_eq_true rfl) dL_law_376 ⟨by show c1 + 40 + 5 + 3 ≤ 827442; omega, by show n1 + 2000 + 260 + 8 ≤ 6619141; omega⟩) hw (fun r F2 H locs hw hp => ?_)
      refine W.widen (k := c1 + 40 + 8) (n := n1 + 2000 + 268) (by omega) (by omega) ?_
      obtain ⟨hr9, b8, p1, p2, z1, z2, z3, z4, hk9⟩ := hp
      rw [hr9]
      obtain ⟨c2L, c2P, c2k⟩ := st_scrap (G := G) hX hC hT1 hTr hO1 hK hI hZ hD htr hPU z1 z2 z3 z4 hk9
      refine lv_iload hx hb dL_law_379 (lv_at hl 3 rfl) ?_
      refine lv_if_eq (tgt := 388) hx hb dL_law_381 (by decide) (fun d4 => ?_) (fun d4 => ?_)
      · have d4 := fw_b0 d4
        rw [d] at d4; cases d4
      · have d4 := fw_b1 d4
        refine lv_iconst (v := (nI 0)) hx hb dL_law_384 (by decide) ?_
        refine lv_goto (tgt := 390) hx hb dL_law_385 (by decide) ?_
        refine lv_icmp_ne (tgt := 397) hx hb dL_law_390 (by decide) (fun cx => absurd cx (by decide)) (fun cx => ?_)
        refine lv_iconst (v := (nI 1)) hx hb dL_law_393 (by decide) ?_
        refine lv_goto (tgt := 398) hx hb dL_law_394 (by decide) ?_
        refine lv_istore (lv' := [(14, .int (nI 1)), (7, .int (nI (nT + 1))), (20, .int (nI ((1 + j1)))), (19, .int (fw_b (cl_all f nC (f 6) (1 + j1)))), (18, .int (nI (rf_dp f 1 (1 + j1)))), (17, .int (nI (rf_dp f 2 (1 + j1)))), (16, .int (rf_ds (f 6) (1 + j1))), (15, .int (nI ((1 + j1)))), (0, .ref b), (1, .ref x), (2, .ref q2), (3, .ref q3), (4, .ref q4), (5, .ref q5), (6, .int (nI nC)), (8, .int (nI nO)), (9, .int (nI T)), (10, .int (nI i)), (11, .int v), (12, .int w)]) hx hb dL_law_398 hl (by decide) rfl (fun ls hl => ?_)
        refine lv_goto (tgt := 669) hx hb dL_law_400 (by decide) ?_
        refine W.widen (k := c1 + 120) (n := n1 + 9000) (by omega) (by omega) ?_
        exact K _ _ _ _ nC (nT + 1) nO T hw ⟨g, nJ, h, _, _, gO, gH, (hA2.kp c1k (fun t z => by omega)).kp c2k (fun t z => by omega), by omega, c2L, c2P, hV1⟩ (lv_sub hl [0, 8, 9, 10, 11, 12, 13, 14, 1, 15, 16, 17, 18, 19] rfl)
