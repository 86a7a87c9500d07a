/-! The law's first helper: machines and orders are as they must be. -/
set_option maxHeartbeats 4000000 in
set_option maxRecDepth 100000 in
theorem c_L_areJobs (l : Launch) (G : fw_G) (F : fw_F) (sz : Nat) (x nC nT nO nJ nD T : Nat) (f : mm_A) (hl9 : l.stackTraces = false) (hCL : CL F x f nC nT nO nJ nD (nI T)) (hPU : PU f nT nO nJ nD) (hM : pv_M f nC nJ) (hJ : pv_J f nC nJ) (hD9 : pv_D f nO T) (hKK : pv_K f nO nJ) (hT9 : T < 1000000) : Met l yL_areJobs (fw_ws yL_areJobs cL_areJobs 9 (some (.boolean))) { frames := 9, cells := 100, slots := 600, locals := 162 } (va_Pc [.ref x, .int (nI nO), .int (nI nC)] (fw_PreX G F sz)) (va_Qi (fun r F1 => F1 = F ∧ (fun r => r = nI 1) r) (fw_B G (fw_W G F sz)) (fw_W G F sz)) 100 600 (fw_W G F sz) := by
  obtain ⟨lc, lt, lo, lm, lw, dr, ds, dfr, ca, ta, sl, fr, oa, tr, ml, ma, ja, da, wj, sa, ms, nW, hX, hC, hT1, hTr, hO1, hK, hI, hZ, hD, htr⟩ := hCL
  have ho12 := hO1.1
  have hc10 := hC.1
  have hj96 := hI.j96
  refine fw_metP (lv := [(0, .ref x), (1, .int (nI nO)), (2, .int (nI nC))]) (by decide +kernel) (Nat.le_of_ble_eq_true rfl) rfl ?_
  intro A hA p e s m below meth c ls hx hb hml hown hT hr hlk hcx hz hsz hw hAn hl
  rw [← hA]
  have hown : s.vm.findClass RL = some m.cls := hown
  have C : CallFix p m c cL_areJobs 9 s _ fw_tb RL := ⟨hx, hb, hml, hown, hT⟩
  refine lv_iconst (v := (nI 0)) hx hb dL_areJobs_0 (by decide) ?_
  refine lv_istore_n (lv' := [(3, .int (nI 0)), (0, .ref x), (1, .int (nI nO)), (2, .int (nI nC))]) hx hb dL_areJobs_1 rfl hl (by decide) rfl (fun ls hl => ?_)
  refine lv_iconst (v := (nI 0)) hx hb dL_areJobs_2 (by decide) ?_
  refine lv_istore (lv' := [(4, .int (nI 0)), (3, .int (nI 0)), (0, .ref x), (1, .int (nI nO)), (2, .int (nI nC))]) hx hb dL_areJobs_3 hl (by decide) rfl (fun ls hl => ?_)
  refine lv_iconst (v := (nI 1)) hx hb dL_areJobs_5 (by decide) ?_
  refine lv_istore (lv' := [(5, .int (nI 1)), (4, .int (nI 0)), (3, .int (nI 0)), (0, .ref x), (1, .int (nI nO)), (2, .int (nI nC))]) hx hb dL_areJobs_6 hl (by decide) rfl (fun ls hl => ?_)
  refine lv_iconst (v := (nI 0)) hx hb dL_areJobs_8 (by decide) ?_
  refine lv_istore (lv' := [(6, .int (nI 0)), (5, .int (nI 1)), (4, .int (nI 0)), (3, .int (nI 0)), (0, .ref x), (1, .int (nI nO)), (2, .int (nI nC))]) hx hb dL_areJobs_9 hl (by decide) rfl (fun ls hl => ?_)
  suffices hlp : ∀ (d m9 : Nat), m9 + d = 3 →  ∀ (H : Heap) (locs : List Loc) (ls : Array Slot), fw_S G A s F H locs → lv_has ls 9 [(6, .int (nI m9)), (5, .int (nI 1)), (4, .int (nI (rf_bs f m9))), (3, .int (nI 0)), (0, .ref x), (1, .int (nI nO)), (2, .int (nI nC))] → W p l e { frames := 9, cells := 100, slots := 600, locals := 162 } s m ([.ref x, .int (nI nO), .int (nI nC)] : List Value).toArray below meth c H locs (10 * m9) (60 * m9) (MQ below (va_Qi (fun r F1 => F1 = F ∧ (fun r => r = nI 1) r) (fw_B G A) A) ([.ref x, .int (nI nO), .int (nI nC)] : List Value).toArray s 100 600 A) (F0 m 11 ls []) by
    exact hlp 3 0  (Nat.zero_add _)   _ _ _ hw (lv_sub hl [0, 1, 2, 3, 4, 5, 6] rfl)
  intro d
  induction d with
  | zero =>
    intro m9  hk  H locs ls hw hl
    have hm3 : m9 = 3 := by omega
    subst hm3
    refine W.widen (k := 30) (n := 180) (Nat.le_refl _) (Nat.le_refl _) ?_
    refine lv_iload hx hb dL_areJobs_11 (lv_at hl 0 rfl) ?_
    refine lv_iconst (v := (nI 3)) hx hb dL_areJobs_13 (by decide) ?_
    refine lv_icmp_ge (tgt := 152) hx hb dL_areJobs_14 (by decide) (fun cx => ?_) (fun cx => absurd cx (by decide))
    refine lv_iconst (v := (nI 0)) hx hb dL_areJobs_152 (by decide) ?_
    refine lv_istore (lv' := [(6, .int (nI 0)), (5, .int (nI 1)), (4, .int (nI (rf_bs f 3))), (3, .int (nI 0)), (0, .ref x), (1, .int (nI nO)), (2, .int (nI nC))]) hx hb dL_areJobs_153 hl (by decide) rfl (fun ls hl => ?_)
    suffices hlp : ∀ (d k : Nat), k + d = nO →  ∀ (H : Heap) (locs : List Loc) (ls : Array Slot), fw_S G A s F H locs → lv_has ls 9 [(6, .int (nI k)), (5, .int (nI 1)), (4, .int (nI (rf_bs f 3))), (3, .int (nI (rf_sl f nJ k))), (0, .ref x), (1, .int (nI nO)), (2, .int (nI nC))] → W p l e { frames := 9, cells := 100, slots := 600, locals := 162 } s m ([.ref x, .int (nI nO), .int (nI nC)] : List Value).toArray below meth c H locs (30 + 5 * k) (180 + 30 * k) (MQ below (va_Qi (fun r F1 => F1 = F ∧ (fun r => r = nI 1) r) (fw_B G A) A) ([.ref x, .int (nI nO), .int (nI nC)] : List Value).toArray s 100 600 A) (F0 m 155 ls []) by
      exact hlp nO 0  (Nat.zero_add _)   _ _ _ hw (lv_sub hl [0, 1, 2, 3, 4, 5, 6] rfl)
    intro d
    induction d with
    | zero =>
      intro k  hk  H locs ls hw hl
      have hkn : k = nO := by omega
      refine lv_iload hx hb dL_areJobs_155 (lv_at hl 0 rfl) ?_
      refine lv_iload_n hx hb dL_areJobs_157 rfl (lv_at hl 5 rfl) ?_
      refine lv_icmp_ge (tgt := 244) hx hb dL_areJobs_158 (by decide) (fun d => ?_) (fun d => ?_)
      · have d := (nI_leI (a := nO) (b := k) (by omega) (by omega)).mp d
        refine lv_iload hx hb dL_areJobs_244 (lv_at hl 1 rfl) ?_
        refine lv_if_eq (tgt := 264) hx hb dL_areJobs_246 (by decide) (fun cx => absurd cx (by decide)) (fun cx => ?_)
        refine lv_aload_n hx hb dL_areJobs_249 rfl (lv_at hl 4 rfl) ?_
        obtain ⟨-, ⟨hnW, ⟨aw9, hLw⟩, -⟩, -, -⟩ := hK
        refine fw_calli (fw_runV (As := []) (rest := []) C hz hw (c_X8_waiting l G _ _ x lc lt lo lm lw dr (nI T) aw9 nW _ hX hLw) (fw_cwV hT wd_625 yVX8_waiting rfl rfl ⟨Nat.le_of_ble_eq_true rfl, Nat.le_of_ble_eq_true rfl⟩) (fw_rec hz hw hX (q := vwCl[9]) rfl) rfl hl.1 rfl (Nat.le_of_ble_eq_true rfl) dL_areJobs_250 ⟨by show 30 + 5 * k + 0 + 0 ≤ 100; omega, by show 180 + 30 * k + 0 + 0 ≤ 600; omega⟩) hw (fun r F1 H locs hw hp => ?_)
        refine W.widen (k := 30 + 5 * k + 0) (n := 180 + 30 * k + 0) (by omega) (by omega) ?_
        obtain ⟨hF1, hr9⟩ := hp
        rw [hF1] at hw
        rw [hr9]
        have hsum : nW + rf_bs f 3 = rf_sl f nJ k := by
          rw [← rf_wait_R nJ nW hI.row, hkn]
          exact pv_sum hj96 ho12 hM hJ hI.jok.2
        refine lv_iload hx hb dL_areJobs_253 (lv_at hl 2 rfl) ?_
        refine lv_iadd hx hb dL_areJobs_255 ?_
        refine fw_top (nI_add _ _) ?_
        refine lv_iload_n hx hb dL_areJobs_256 rfl (lv_at hl 3 rfl) ?_
        refine lv_icmp_ne (tgt := 264) hx hb dL_areJobs_257 (by decide) (fun d2 => ?_) (fun d2 => ?_)
        · exact absurd (congrArg nI hsum) d2
        · refine lv_iconst (v := (nI 1)) hx hb dL_areJobs_260 (by decide) ?_
          refine lv_goto (tgt := 265) hx hb dL_areJobs_261 (by decide) ?_
          exact fw_zret hx hb hr (by decide) hlk (by omega) (by omega) hw dL_areJobs_265 (⟨rfl, rfl⟩)
      · have d : ¬ nO ≤ k := fun h9 => d ((nI_leI (a := nO) (b := k) (by omega) (by omega)).mpr h9)
        omega
    | succ d ih =>
      intro k  hk  H locs ls hw hl
      have hk9 : k < nO := by omega
      have hle8 : rf_left f (nI k) nJ ≤ 8 := Nat.le_trans (rf_left_jc f (nI k) nJ) (hKK k hk9)
      have hsl8 : rf_sl f nJ k ≤ 8 * k := rf_sl_le hKK k (by omega)
      refine lv_iload hx hb dL_areJobs_155 (lv_at hl 0 rfl) ?_
      refine lv_iload_n hx hb dL_areJobs_157 rfl (lv_at hl 5 rfl) ?_
      refine lv_icmp_ge (tgt := 244) hx hb dL_areJobs_158 (by decide) (fun d => ?_) (fun d => ?_)
      · have d := (nI_leI (a := nO) (b := k) (by omega) (by omega)).mp d
        omega
      · have d : ¬ nO ≤ k := fun h9 => d ((nI_leI (a := nO) (b := k) (by omega) (by omega)).mpr h9)
        refine lv_iload hx hb dL_areJobs_161 (lv_at hl 1 rfl) ?_
        refine lv_if_eq (tgt := 244) hx hb dL_areJobs_163 (by decide) (fun cx => absurd cx (by decide)) (fun cx => ?_)
        refine lv_aload_n hx hb dL_areJobs_166 rfl (lv_at hl 4 rfl) ?_
        refine lv_iload hx hb dL_areJobs_167 (lv_at hl 0 rfl) ?_
        refine fw_ask (fw_xrunV (As := [.int (nI k)]) (rest := []) C hz hcx hw (c_X8_gearsLeft l G _ _ x lc lt lo lm lw dr (nI T) oa tr ml f nJ nO (nI k) hl9 hX hO1 hK.2.2.1) (fw_cwV hT wd_621 yVX8_gearsLeft rfl rfl ⟨Nat.le_of_ble_eq_true rfl, Nat.le_of_ble_eq_true rfl⟩) (fw_rec hz hw hX (q := vwCl[9]) rfl) rfl hl.1 rfl (Nat.le_of_ble_eq_true rfl) dL_areJobs_169 ⟨by show 30 + 5 * k + 0 + 1 ≤ 100; omega, by show 180 + 30 * k + 0 + 6 ≤ 600; omega⟩) hw (fun E h9 => absurd h9.2 (by rw [rf_ix_of (show nO ≤ 100 by omega) (show k < nO by omega)]; decide)) (fun r F1 H locs hw hp => ?_)
        refine W.widen (k := 30 + 5 * k + 1) (n := 180 + 30 * k + 6) (by omega) (by omega) ?_
        obtain ⟨hF1, j9, hj9, ej9, hr9⟩ := hp
        rw [hF1] at hw
        obtain rfl := nI_j (show k ≤ 1000 by omega) (by omega) ej9
        rw [hr9]
        refine lv_istore (lv' := [(7, .int (nI (rf_left f (nI k) nJ))), (6, .int (nI k)), (5, .int (nI 1)), (4, .int (nI (rf_bs f 3))), (3, .int (nI (rf_sl f nJ k))), (0, .ref x), (1, .int (nI nO)), (2, .int (nI nC))]) hx hb dL_areJobs_172 hl (by decide) rfl (fun ls hl => ?_)
        refine lv_iload_n hx hb dL_areJobs_174 rfl (lv_at hl 4 rfl) ?_
        refine lv_iload hx hb dL_areJobs_175 (lv_at hl 0 rfl) ?_
        refine lv_iadd hx hb dL_areJobs_177 ?_
        refine fw_top (nI_add _ _) ?_
        refine fw_top (x' := (nI (rf_sl f nJ (k + 1)))) (rfl) ?_
        refine lv_istore_n (lv' := [(3, .int (nI (rf_sl f nJ (k + 1)))), (7, .int (nI (rf_left f (nI k) nJ))), (6, .int (nI k)), (5, .int (nI 1)), (4, .int (nI (rf_bs f 3))), (0, .ref x), (1, .int (nI nO)), (2, .int (nI nC))]) hx hb dL_areJobs_178 rfl hl (by decide) rfl (fun ls hl => ?_)
        refine lv_iload hx hb dL_areJobs_179 (lv_at hl 1 rfl) ?_
        refine lv_if_lt (tgt := 235) hx hb dL_areJobs_181 (by decide) (fun d1 => ?_) (fun d1 => ?_)
        · have d1 := (nI_ltI (a := rf_left f (nI k) nJ) (b := 0) (by omega) (by omega)).mp d1
          omega
        · have d1 : ¬ (rf_left f (nI k) nJ) < 0 := fun h9 => d1 ((nI_ltI (a := rf_left f (nI k) nJ) (b := 0) (by omega) (by omega)).mpr h9)
          refine lv_iload hx hb dL_areJobs_184 (lv_at hl 1 rfl) ?_
          refine lv_bipush (v := (nI 8)) hx hb dL_areJobs_186 (by decide) ?_
          refine lv_icmp_gt (tgt := 235) hx hb dL_areJobs_188 (by decide) (fun d2 => ?_) (fun d2 => ?_)
          · have d2 := (nI_ltI (a := 8) (b := rf_left f (nI k) nJ) (by omega) (by omega)).mp d2
            omega
          · have d2 : ¬ 8 < (rf_left f (nI k) nJ) := fun h9 => d2 ((nI_ltI (a := 8) (b := rf_left f (nI k) nJ) (by omega) (by omega)).mpr h9)
            rcases Nat.eq_zero_or_pos (rf_left f (nI k) nJ) with hz0 | hz0
            · have hnd := hPU.2.2.2.2.2.2.1 k hk9 hz0
              obtain ⟨t9, ht9, et9⟩ := (hD9 k hk9).resolve_left hnd
              refine lv_aload_n hx hb dL_areJobs_191 rfl (lv_at hl 5 rfl) ?_
              refine lv_iload hx hb dL_areJobs_192 (lv_at hl 2 rfl) ?_
              refine fw_ask (fw_xrunV (As := [.int (nI k)]) (rest := []) C hz hcx hw (c_X8_doneAt l G _ _ x lc lt lo lm lw dr (nI T) oa tr ml f nJ nO (nI k) hl9 hX hO1 hK.2.2.1) (fw_cwV hT wd_560 yVX8_doneAt rfl rfl ⟨Nat.le_of_ble_eq_true rfl, Nat.le_of_ble_eq_true rfl⟩) (fw_rec hz hw hX (q := vwCl[9]) rfl) rfl hl.1 rfl (Nat.le_of_ble_eq_true rfl) dL_areJobs_194 ⟨by show 30 + 5 * k + 1 + 1 ≤ 100; omega, by show 180 + 30 * k + 6 + 6 ≤ 600; omega⟩) hw (fun E h9 => absurd h9.2 (by rw [rf_ix_of (show nO ≤ 100 by omega) (show k < nO by omega)]; decide)) (fun r F1 H locs hw hp => ?_)
              refine W.widen (k := 30 + 5 * k + 2) (n := 180 + 30 * k + 12) (by omega) (by omega) ?_
              obtain ⟨hF1, j9, hj9, ej9, hr9⟩ := hp
              rw [hF1] at hw
              obtain rfl := nI_j (show k ≤ 1000 by omega) (by omega) ej9
              rw [hr9, et9]
              refine lv_if_lt (tgt := 204) hx hb dL_areJobs_197 (by decide) (fun d3 => ?_) (fun d3 => ?_)
              · have d3 := (nI_ltI (a := t9) (b := 0) (by omega) (by omega)).mp d3
                omega
              · have d3 : ¬ t9 < 0 := fun h9 => d3 ((nI_ltI (a := t9) (b := 0) (by omega) (by omega)).mpr h9)
                refine lv_iconst (v := (nI 1)) hx hb dL_areJobs_200 (by decide) ?_
                refine lv_goto (tgt := 205) hx hb dL_areJobs_201 (by decide) ?_
                refine lv_iload hx hb dL_areJobs_205 (lv_at hl 1 rfl) ?_
                refine lv_if_ne (tgt := 214) hx hb dL_areJobs_207 (by decide) (fun d4 => ?_) (fun d4 => ?_)
                · have d4 : ¬ (rf_left f (nI k) nJ) = 0 := fun h9 => d4 ((nI_eq (a := rf_left f (nI k) nJ) (b := 0) (by omega) (by omega)).mpr h9)
                  exact absurd hz0 d4
                · have d4 := (nI_eq (a := rf_left f (nI k) nJ) (b := 0) (by omega) (by omega)).mp d4
                  refine lv_iconst (v := (nI 1)) hx hb dL_areJobs_210 (by decide) ?_
                  refine lv_goto (tgt := 215) hx hb dL_areJobs_211 (by decide) ?_
                  refine lv_icmp_ne (tgt := 235) hx hb dL_areJobs_215 (by decide) (fun cx => absurd cx (by decide)) (fun cx => ?_)
                  refine lv_aload_n hx hb dL_areJobs_218 rfl (lv_at hl 5 rfl) ?_
                  refine lv_iload hx hb dL_areJobs_219 (lv_at hl 2 rfl) ?_
                  refine fw_ask (fw_xrunV (As := [.int (nI k)]) (rest := []) C hz hcx hw (c_X8_doneAt l G _ _ x lc lt lo lm lw dr (nI T) oa tr ml f nJ nO (nI k) hl9 hX hO1 hK.2.2.1) (fw_cwV hT wd_560 yVX8_doneAt rfl rfl ⟨Nat.le_of_ble_eq_true rfl, Nat.le_of_ble_eq_true rfl⟩) (fw_rec hz hw hX (q := vwCl[9]) rfl) rfl hl.1 rfl (Nat.le_of_ble_eq_true rfl) dL_areJobs_221 ⟨by show 30 + 5 * k + 2 + 1 ≤ 100; omega, by show 180 + 30 * k + 12 + 6 ≤ 600; omega⟩) hw (fun E h9 => absurd h9.2 (by rw [rf_ix_of (show nO ≤ 100 by omega) (show k < nO by omega)]; decide)) (fun r F1 H locs hw hp => ?_)
                  refine W.widen (k := 30 + 5 * k + 3) (n := 180 + 30 * k + 18) (by omega) (by omega) ?_
                  obtain ⟨hF1, j9, hj9, ej9, hr9⟩ := hp
                  rw [hF1] at hw
                  obtain rfl := nI_j (show k ≤ 1000 by omega) (by omega) ej9
                  rw [hr9, et9]
                  refine lv_aload_n hx hb dL_areJobs_224 rfl (lv_at hl 5 rfl) ?_
                  refine fw_calli (fw_runV (As := []) (rest := [.int (nI t9)]) C hz hw (c_X8_time l G _ _ x lc lt lo lm lw dr (nI T) hX) (fw_cwV hT wd_556 yVX8_time rfl rfl ⟨Nat.le_of_ble_eq_true rfl, Nat.le_of_ble_eq_true rfl⟩) (fw_rec hz hw hX (q := vwCl[9]) rfl) rfl hl.1 rfl (Nat.le_of_ble_eq_true rfl) dL_areJobs_225 ⟨by show 30 + 5 * k + 3 + 0 ≤ 100; omega, by show 180 + 30 * k + 18 + 0 ≤ 600; omega⟩) hw (fun r F1 H locs hw hp => ?_)
                  refine W.widen (k := 30 + 5 * k + 3) (n := 180 + 30 * k + 18) (by omega) (by omega) ?_
                  obtain ⟨hF1, hr9⟩ := hp
                  rw [hF1] at hw
                  rw [hr9]
                  refine lv_icmp_gt (tgt := 235) hx hb dL_areJobs_228 (by decide) (fun d5 => ?_) (fun d5 => ?_)
                  · have d5 := (nI_ltI (a := T) (b := t9) (by omega) (by omega)).mp d5
                    omega
                  · have d5 : ¬ T < t9 := fun h9 => d5 ((nI_ltI (a := T) (b := t9) (by omega) (by omega)).mpr h9)
                    refine lv_iconst (v := (nI 1)) hx hb dL_areJobs_231 (by decide) ?_
                    refine lv_goto (tgt := 236) hx hb dL_areJobs_232 (by decide) ?_
                    refine lv_istore (lv' := [(5, .int (nI 1)), (3, .int (nI (rf_sl f nJ (k + 1)))), (7, .int (nI (rf_left f (nI k) nJ))), (6, .int (nI k)), (4, .int (nI (rf_bs f 3))), (0, .ref x), (1, .int (nI nO)), (2, .int (nI nC))]) hx hb dL_areJobs_236 hl (by decide) rfl (fun ls hl => ?_)
                    refine lv_iinc (v := (nI (k + 1))) (lv' := [(6, .int (nI (k + 1))), (5, .int (nI 1)), (3, .int (nI (rf_sl f nJ (k + 1)))), (7, .int (nI (rf_left f (nI k) nJ))), (4, .int (nI (rf_bs f 3))), (0, .ref x), (1, .int (nI nO)), (2, .int (nI nC))]) hx hb dL_areJobs_238 hl (k := 3) rfl (nI_1 _) (by decide) rfl (fun ls hl => ?_)
                    refine lv_goto (tgt := 155) hx hb dL_areJobs_241 (by decide) ?_
                    refine W.widen (k := 30 + 5 * (k + 1)) (n := 180 + 30 * (k + 1)) (by omega) (by omega) ?_
                    exact ih (k + 1)  (by omega)   _ _ _ hw (lv_sub hl [0, 1, 4, 2, 5, 6, 7] rfl)
            · have et9 := hI.don k hk9 hz0
              refine lv_aload_n hx hb dL_areJobs_191 rfl (lv_at hl 5 rfl) ?_
              refine lv_iload hx hb dL_areJobs_192 (lv_at hl 2 rfl) ?_
              refine fw_ask (fw_xrunV (As := [.int (nI k)]) (rest := []) C hz hcx hw (c_X8_doneAt l G _ _ x lc lt lo lm lw dr (nI T) oa tr ml f nJ nO (nI k) hl9 hX hO1 hK.2.2.1) (fw_cwV hT wd_560 yVX8_doneAt rfl rfl ⟨Nat.le_of_ble_eq_true rfl, Nat.le_of_ble_eq_true rfl⟩) (fw_rec hz hw hX (q := vwCl[9]) rfl) rfl hl.1 rfl (Nat.le_of_ble_eq_true rfl) dL_areJobs_194 ⟨by show 30 + 5 * k + 1 + 1 ≤ 100; omega, by show 180 + 30 * k + 6 + 6 ≤ 600; omega⟩) hw (fun E h9 => absurd h9.2 (by rw [rf_ix_of (show nO ≤ 100 by omega) (show k < nO by omega)]; decide)) (fun r F1 H locs hw hp => ?_)
              refine W.widen (k := 30 + 5 * k + 2) (n := 180 + 30 * k + 12) (by omega) (by omega) ?_
              obtain ⟨hF1, j9, hj9, ej9, hr9⟩ := hp
              rw [hF1] at hw
              obtain rfl := nI_j (show k ≤ 1000 by omega) (by omega) ej9
              rw [hr9, et9]
              refine lv_if_lt (tgt := 204) hx hb dL_areJobs_197 (by decide) (fun cx => ?_) (fun cx => absurd cx (by decide))
              refine lv_iconst (v := (nI 0)) hx hb dL_areJobs_204 (by decide) ?_
              refine lv_iload hx hb dL_areJobs_205 (lv_at hl 1 rfl) ?_
              refine lv_if_ne (tgt := 214) hx hb dL_areJobs_207 (by decide) (fun d4 => ?_) (fun d4 => ?_)
              · have d4 : ¬ (rf_left f (nI k) nJ) = 0 := fun h9 => d4 ((nI_eq (a := rf_left f (nI k) nJ) (b := 0) (by omega) (by omega)).mpr h9)
                refine lv_iconst (v := (nI 0)) hx hb dL_areJobs_214 (by decide) ?_
                refine lv_icmp_ne (tgt := 235) hx hb dL_areJobs_215 (by decide) (fun cx => absurd cx (by decide)) (fun cx => ?_)
                refine lv_aload_n hx hb dL_areJobs_218 rfl (lv_at hl 5 rfl) ?_
                refine lv_iload hx hb dL_areJobs_219 (lv_at hl 2 rfl) ?_
                refine fw_ask (fw_xrunV (As := [.int (nI k)]) (rest := []) C hz hcx hw (c_X8_doneAt l G _ _ x lc lt lo lm lw dr (nI T) oa tr ml f nJ nO (nI k) hl9 hX hO1 hK.2.2.1) (fw_cwV hT wd_560 yVX8_doneAt rfl rfl ⟨Nat.le_of_ble_eq_true rfl, Nat.le_of_ble_eq_true rfl⟩) (fw_rec hz hw hX (q := vwCl[9]) rfl) rfl hl.1 rfl (Nat.le_of_ble_eq_true rfl) dL_areJobs_221 ⟨by show 30 + 5 * k + 2 + 1 ≤ 100; omega, by show 180 + 30 * k + 12 + 6 ≤ 600; omega⟩) hw (fun E h9 => absurd h9.2 (by rw [rf_ix_of (show nO ≤ 100 by omega) (show k < nO by omega)]; decide)) (fun r F1 H locs hw hp => ?_)
                refine W.widen (k := 30 + 5 * k + 3) (n := 180 + 30 * k + 18) (by omega) (by omega) ?_
                obtain ⟨hF1, j9, hj9, ej9, hr9⟩ := hp
                rw [hF1] at hw
                obtain rfl := nI_j (show k ≤ 1000 by omega) (by omega) ej9
                rw [hr9, et9]
                refine lv_aload_n hx hb dL_areJobs_224 rfl (lv_at hl 5 rfl) ?_
                refine fw_calli (fw_runV (As := []) (rest := [.int (-1)]) C hz hw (c_X8_time l G _ _ x lc lt lo lm lw dr (nI T) hX) (fw_cwV hT wd_556 yVX8_time rfl rfl ⟨Nat.le_of_ble_eq_true rfl, Nat.le_of_ble_eq_true rfl⟩) (fw_rec hz hw hX (q := vwCl[9]) rfl) rfl hl.1 rfl (Nat.le_of_ble_eq_true rfl) dL_areJobs_225 ⟨by show 30 + 5 * k + 3 + 0 ≤ 100; omega, by show 180 + 30 * k + 18 + 0 ≤ 600; omega⟩) hw (fun r F1 H locs hw hp => ?_)
                refine W.widen (k := 30 + 5 * k + 3) (n := 180 + 30 * k + 18) (by omega) (by omega) ?_
                obtain ⟨hF1, hr9⟩ := hp
                rw [hF1] at hw
                rw [hr9]
                refine lv_icmp_gt (tgt := 235) hx hb dL_areJobs_228 (by decide) (fun cx => absurd cx (p4_nlt (by omega))) (fun cx => ?_)
                refine lv_iconst (v := (nI 1)) hx hb dL_areJobs_231 (by decide) ?_
                refine lv_goto (tgt := 236) hx hb dL_areJobs_232 (by decide) ?_
                refine lv_istore (lv' := [(5, .int (nI 1)), (3, .int (nI (rf_sl f nJ (k + 1)))), (7, .int (nI (rf_left f (nI k) nJ))), (6, .int (nI k)), (4, .int (nI (rf_bs f 3))), (0, .ref x), (1, .int (nI nO)), (2, .int (nI nC))]) hx hb dL_areJobs_236 hl (by decide) rfl (fun ls hl => ?_)
                refine lv_iinc (v := (nI (k + 1))) (lv' := [(6, .int (nI (k + 1))), (5, .int (nI 1)), (3, .int (nI (rf_sl f nJ (k + 1)))), (7, .int (nI (rf_left f (nI k) nJ))), (4, .int (nI (rf_bs f 3))), (0, .ref x), (1, .int (nI nO)), (2, .int (nI nC))]) hx hb dL_areJobs_238 hl (k := 3) rfl (nI_1 _) (by decide) rfl (fun ls hl => ?_)
                refine lv_goto (tgt := 155) hx hb dL_areJobs_241 (by decide) ?_
                refine W.widen (k := 30 + 5 * (k + 1)) (n := 180 + 30 * (k + 1)) (by omega) (by omega) ?_
                exact ih (k + 1)  (by omega)   _ _ _ hw (lv_sub hl [0, 1, 4, 2, 5, 6, 7] rfl)
              · have d4 := (nI_eq (a := rf_left f (nI k) nJ) (b := 0) (by omega) (by omega)).mp d4
                omega
  | succ d ih =>
    intro m9  hk  H locs ls hw hl
    have ih1 := ih
    have hm3 : m9 < 3 := by omega
    obtain ⟨g1, g2, g3⟩ := hM m9 hm3
    have hbs3 := rf_bs_le f m9
    refine lv_iload hx hb dL_areJobs_11 (lv_at hl 0 rfl) ?_
    refine lv_iconst (v := (nI 3)) hx hb dL_areJobs_13 (by decide) ?_
    refine lv_icmp_ge (tgt := 152) hx hb dL_areJobs_14 (by decide) (fun d => ?_) (fun d => ?_)
    · have d := (nI_leI (a := 3) (b := m9) (by omega) (by omega)).mp d
      omega
    · have d : ¬ 3 ≤ m9 := fun h9 => d ((nI_leI (a := 3) (b := m9) (by omega) (by omega)).mpr h9)
      have hcs : (f 22 m9 = -1 ∧ f 23 m9 = -1) ∨ (∃ c9, c9 < nC ∧ f 22 m9 = nI c9 ∧ f 23 m9 = -1) ∨ ∃ c9 L, c9 < nC ∧ f 22 m9 = nI c9 ∧ L ≤ 62 ∧ ¬ f 23 m9 = -1 ∧ f 24 m9 = nI (L + 1) := by
        rcases g2 with g2 | ⟨i, hi, e23, e20, ⟨c9, hc9, e22⟩, L, hL, e24⟩
        · rcases g1 with g1 | ⟨c9, hc9, e22⟩
          · exact Or.inl ⟨g1, g2⟩
          · exact Or.inr (Or.inl ⟨c9, hc9, e22, g2⟩)
        · exact Or.inr (Or.inr ⟨c9, L, hc9, e22, hL, by rw [e23]; exact nI_neg1 (by omega), e24⟩)
      rcases hcs with ⟨e22, e23⟩ | ⟨c9, hc9, e22, e23⟩ | ⟨c9, L, hc9, e22, hL, e23, e24⟩
      · have elf : cl_lf f m9 = (nI 0) := by rw [cl_lf, if_pos e23]
        have ebs : rf_bs f (m9 + 1) = rf_bs f m9 + 0 := by rw [rf_bs, if_pos e23]
        refine lv_iload hx hb dL_areJobs_17 (lv_at hl 1 rfl) ?_
        refine lv_if_eq (tgt := 152) hx hb dL_areJobs_19 (by decide) (fun cx => absurd cx (by decide)) (fun cx => ?_)
        refine lv_aload_n hx hb dL_areJobs_22 rfl (lv_at hl 4 rfl) ?_
        refine lv_iload hx hb dL_areJobs_23 (lv_at hl 0 rfl) ?_
        refine fw_ask (fw_xrunV (As := [.int (nI m9)]) (rest := []) C hz hcx hw (c_X8_cutterOn l G _ _ x lc lt lo lm lw dr (nI T) ma f (cl_jb ja f) (cl_lf f) (nI m9) hl9 hX hK.1) (fw_cwV hT wd_608 yVX8_cutterOn rfl rfl ⟨Nat.le_of_ble_eq_true rfl, Nat.le_of_ble_eq_true rfl⟩) (fw_rec hz hw hX (q := vwCl[9]) rfl) rfl hl.1 rfl (Nat.le_of_ble_eq_true rfl) dL_areJobs_25 ⟨by show 10 * m9 + 0 + 1 ≤ 100; omega, by show 60 * m9 + 0 + 6 ≤ 600; omega⟩) hw (fun E h9 => absurd h9.2 (by rw [rf_ix_of (show 3 ≤ 100 by decide) (show m9 < 3 by omega)]; decide)) (fun r F1 H locs hw hp => ?_)
        refine W.widen (k := 10 * m9 + 1) (n := 60 * m9 + 6) (by omega) (by omega) ?_
        obtain ⟨hF1, j9, hj9, ej9, hr9⟩ := hp
        rw [hF1] at hw
        obtain rfl := nI_j (show m9 ≤ 1000 by omega) (by omega) ej9
        rw [hr9, e22]
        refine lv_istore (lv' := [(7, .int (-1)), (6, .int (nI m9)), (5, .int (nI 1)), (4, .int (nI (rf_bs f m9))), (3, .int (nI 0)), (0, .ref x), (1, .int (nI nO)), (2, .int (nI nC))]) hx hb dL_areJobs_28 hl (by decide) rfl (fun ls hl => ?_)
        refine lv_iload hx hb dL_areJobs_30 (lv_at hl 3 rfl) ?_
        refine lv_aload_n hx hb dL_areJobs_32 rfl (lv_at hl 5 rfl) ?_
        refine lv_iload hx hb dL_areJobs_33 (lv_at hl 1 rfl) ?_
        refine fw_ask (fw_xrunV (As := [.int (nI m9)]) (rest := [.int (nI (rf_bs f m9))]) C hz hcx hw (c_X8_ticksLeft l G _ _ x lc lt lo lm lw dr (nI T) ma f (cl_jb ja f) (cl_lf f) (nI m9) hl9 hX hK.1) (fw_cwV hT wd_617 yVX8_ticksLeft rfl rfl ⟨Nat.le_of_ble_eq_true rfl, Nat.le_of_ble_eq_true rfl⟩) (fw_rec hz hw hX (q := vwCl[9]) rfl) rfl hl.1 rfl (Nat.le_of_ble_eq_true rfl) dL_areJobs_35 ⟨by show 10 * m9 + 1 + 1 ≤ 100; omega, by show 60 * m9 + 6 + 6 ≤ 600; omega⟩) hw (fun E h9 => absurd h9.2 (by rw [rf_ix_of (show 3 ≤ 100 by decide) (show m9 < 3 by omega)]; decide)) (fun r F1 H locs hw hp => ?_)
        refine W.widen (k := 10 * m9 + 2) (n := 60 * m9 + 12) (by omega) (by omega) ?_
        obtain ⟨hF1, j9, hj9, ej9, hr9⟩ := hp
        rw [hF1] at hw
        obtain rfl := nI_j (show m9 ≤ 1000 by omega) (by omega) ej9
        rw [hr9, elf]
        refine lv_if_le (tgt := 45) hx hb dL_areJobs_38 (by decide) (fun cx => ?_) (fun cx => absurd cx (by decide))
        refine lv_iconst (v := (nI 0)) hx hb dL_areJobs_45 (by decide) ?_
        refine lv_iadd hx hb dL_areJobs_46 ?_
        refine fw_top (nI_add _ _) ?_
        refine fw_top (x' := (nI (rf_bs f (m9 + 1)))) (by rw [ebs]) ?_
        refine lv_istore (lv' := [(4, .int (nI (rf_bs f (m9 + 1)))), (7, .int (-1)), (6, .int (nI m9)), (5, .int (nI 1)), (3, .int (nI 0)), (0, .ref x), (1, .int (nI nO)), (2, .int (nI nC))]) hx hb dL_areJobs_47 hl (by decide) rfl (fun ls hl => ?_)
        refine lv_iload hx hb dL_areJobs_49 (lv_at hl 1 rfl) ?_
        refine lv_iconst (v := (-1)) hx hb dL_areJobs_51 (by decide) ?_
        refine lv_icmp_lt (tgt := 99) hx hb dL_areJobs_52 (by decide) (fun cx => absurd cx (by decide)) (fun cx => ?_)
        refine lv_iload hx hb dL_areJobs_55 (lv_at hl 1 rfl) ?_
        refine lv_iload_n hx hb dL_areJobs_57 rfl (lv_at hl 7 rfl) ?_
        refine lv_icmp_ge (tgt := 99) hx hb dL_areJobs_58 (by decide) (fun cx => absurd cx (p4_nle (by omega))) (fun cx => ?_)
        refine lv_aload_n hx hb dL_areJobs_61 rfl (lv_at hl 5 rfl) ?_
        refine lv_iload hx hb dL_areJobs_62 (lv_at hl 2 rfl) ?_
        refine fw_ask (fw_xrunV (As := [.int (nI m9)]) (rest := []) C hz hcx hw (c_X8_ticksLeft l G _ _ x lc lt lo lm lw dr (nI T) ma f (cl_jb ja f) (cl_lf f) (nI m9) hl9 hX hK.1) (fw_cwV hT wd_617 yVX8_ticksLeft rfl rfl ⟨Nat.le_of_ble_eq_true rfl, Nat.le_of_ble_eq_true rfl⟩) (fw_rec hz hw hX (q := vwCl[9]) rfl) rfl hl.1 rfl (Nat.le_of_ble_eq_true rfl) dL_areJobs_64 ⟨by show 10 * m9 + 2 + 1 ≤ 100; omega, by show 60 * m9 + 12 + 6 ≤ 600; omega⟩) hw (fun E h9 => absurd h9.2 (by rw [rf_ix_of (show 3 ≤ 100 by decide) (show m9 < 3 by omega)]; decide)) (fun r F1 H locs hw hp => ?_)
        refine W.widen (k := 10 * m9 + 3) (n := 60 * m9 + 18) (by omega) (by omega) ?_
        obtain ⟨hF1, j9, hj9, ej9, hr9⟩ := hp
        rw [hF1] at hw
        obtain rfl := nI_j (show m9 ≤ 1000 by omega) (by omega) ej9
        rw [hr9, elf]
        refine lv_if_lt (tgt := 99) hx hb dL_areJobs_67 (by decide) (fun cx => absurd cx (by decide)) (fun cx => ?_)
        refine lv_aload_n hx hb dL_areJobs_70 rfl (lv_at hl 5 rfl) ?_
        refine lv_iload hx hb dL_areJobs_71 (lv_at hl 2 rfl) ?_
        refine fw_ask (fw_xrunV (As := [.int (nI m9)]) (rest := []) C hz hcx hw (c_X8_ticksLeft l G _ _ x lc lt lo lm lw dr (nI T) ma f (cl_jb ja f) (cl_lf f) (nI m9) hl9 hX hK.1) (fw_cwV hT wd_617 yVX8_ticksLeft rfl rfl ⟨Nat.le_of_ble_eq_true rfl, Nat.le_of_ble_eq_true rfl⟩) (fw_rec hz hw hX (q := vwCl[9]) rfl) rfl hl.1 rfl (Nat.le_of_ble_eq_true rfl) dL_areJobs_73 ⟨by show 10 * m9 + 3 + 1 ≤ 100; omega, by show 60 * m9 + 18 + 6 ≤ 600; omega⟩) hw (fun E h9 => absurd h9.2 (by rw [rf_ix_of (show 3 ≤ 100 by decide) (show m9 < 3 by omega)]; decide)) (fun r F1 H locs hw hp => ?_)
        refine W.widen (k := 10 * m9 + 4) (n := 60 * m9 + 24) (by omega) (by omega) ?_
        obtain ⟨hF1, j9, hj9, ej9, hr9⟩ := hp
        rw [hF1] at hw
        obtain rfl := nI_j (show m9 ≤ 1000 by omega) (by omega) ej9
        rw [hr9, elf]
        refine lv_bipush (v := (nI 63)) hx hb dL_areJobs_76 (by decide) ?_
        refine lv_icmp_gt (tgt := 99) hx hb dL_areJobs_78 (by decide) (fun cx => absurd cx (by decide)) (fun cx => ?_)
        refine lv_iload hx hb dL_areJobs_81 (lv_at hl 1 rfl) ?_
        refine lv_if_ge (tgt := 95) hx hb dL_areJobs_83 (by decide) (fun cx => absurd cx (by decide)) (fun cx => ?_)
        refine lv_aload_n hx hb dL_areJobs_86 rfl (lv_at hl 5 rfl) ?_
        refine lv_iload hx hb dL_areJobs_87 (lv_at hl 2 rfl) ?_
        refine fw_ask (fw_xrunV (As := [.int (nI m9)]) (rest := []) C hz hcx hw (c_X8_ticksLeft l G _ _ x lc lt lo lm lw dr (nI T) ma f (cl_jb ja f) (cl_lf f) (nI m9) hl9 hX hK.1) (fw_cwV hT wd_617 yVX8_ticksLeft rfl rfl ⟨Nat.le_of_ble_eq_true rfl, Nat.le_of_ble_eq_true rfl⟩) (fw_rec hz hw hX (q := vwCl[9]) rfl) rfl hl.1 rfl (Nat.le_of_ble_eq_true rfl) dL_areJobs_89 ⟨by show 10 * m9 + 4 + 1 ≤ 100; omega, by show 60 * m9 + 24 + 6 ≤ 600; omega⟩) hw (fun E h9 => absurd h9.2 (by rw [rf_ix_of (show 3 ≤ 100 by decide) (show m9 < 3 by omega)]; decide)) (fun r F1 H locs hw hp => ?_)
        refine W.widen (k := 10 * m9 + 5) (n := 60 * m9 + 30) (by omega) (by omega) ?_
        obtain ⟨hF1, j9, hj9, ej9, hr9⟩ := hp
        rw [hF1] at hw
        obtain rfl := nI_j (show m9 ≤ 1000 by omega) (by omega) ej9
        rw [hr9, elf]
        refine lv_if_ne (tgt := 99) hx hb dL_areJobs_92 (by decide) (fun cx => absurd cx (by decide)) (fun cx => ?_)
        refine lv_iconst (v := (nI 1)) hx hb dL_areJobs_95 (by decide) ?_
        refine lv_goto (tgt := 100) hx hb dL_areJobs_96 (by decide) ?_
        refine lv_istore (lv' := [(5, .int (nI 1)), (4, .int (nI (rf_bs f (m9 + 1)))), (7, .int (-1)), (6, .int (nI m9)), (3, .int (nI 0)), (0, .ref x), (1, .int (nI nO)), (2, .int (nI nC))]) hx hb dL_areJobs_100 hl (by decide) rfl (fun ls hl => ?_)
        refine lv_iconst (v := (nI 0)) hx hb dL_areJobs_102 (by decide) ?_
        refine lv_istore (lv' := [(8, .int (nI 0)), (5, .int (nI 1)), (4, .int (nI (rf_bs f (m9 + 1)))), (7, .int (-1)), (6, .int (nI m9)), (3, .int (nI 0)), (0, .ref x), (1, .int (nI nO)), (2, .int (nI nC))]) hx hb dL_areJobs_103 hl (by decide) rfl (fun ls hl => ?_)
        refine W.widen (k := 10 * m9 + 5) (n := 60 * m9 + 30) (by omega) (by omega) ?_
        suffices hlp : ∀ (d k : Nat), k + d = m9 →  ∀ (H : Heap) (locs : List Loc) (ls : Array Slot), fw_S G A s F H locs → lv_has ls 9 [(8, .int (nI k)), (7, .int (-1)), (6, .int (nI m9)), (5, .int (nI 1)), (4, .int (nI (rf_bs f (m9 + 1)))), (3, .int (nI 0)), (0, .ref x), (1, .int (nI nO)), (2, .int (nI nC))] → W p l e { frames := 9, cells := 100, slots := 600, locals := 162 } s m ([.ref x, .int (nI nO), .int (nI nC)] : List Value).toArray below meth c H locs (10 * m9 + 5 + k) (60 * m9 + 30 + 6 * k) (MQ below (va_Qi (fun r F1 => F1 = F ∧ (fun r => r = nI 1) r) (fw_B G A) A) ([.ref x, .int (nI nO), .int (nI nC)] : List Value).toArray s 100 600 A) (F0 m 105 ls []) by
          exact hlp m9 0  (Nat.zero_add _)   _ _ _ hw (lv_sub hl [0, 3, 4, 1, 2, 5, 6, 7, 8] rfl)
        intro d
        induction d with
        | zero =>
          intro k  hk  H locs ls hw hl
          obtain rfl : k = m9 := by omega
          refine lv_iload hx hb dL_areJobs_105 (lv_at hl 0 rfl) ?_
          refine lv_iload hx hb dL_areJobs_107 (lv_at hl 2 rfl) ?_
          refine lv_icmp_ge (tgt := 146) hx hb dL_areJobs_109 (by decide) (fun d => ?_) (fun d => ?_)
          · have d := (nI_leI (a := k) (b := k) (by omega) (by omega)).mp d
            refine lv_iinc (v := (nI (k + 1))) (lv' := [(6, .int (nI (k + 1))), (8, .int (nI k)), (7, .int (-1)), (5, .int (nI 1)), (4, .int (nI (rf_bs f (k + 1)))), (3, .int (nI 0)), (0, .ref x), (1, .int (nI nO)), (2, .int (nI nC))]) hx hb dL_areJobs_146 hl (k := 2) rfl (nI_1 _) (by decide) rfl (fun ls hl => ?_)
            refine lv_goto (tgt := 11) hx hb dL_areJobs_149 (by decide) ?_
            refine W.widen (k := 10 * (k + 1)) (n := 60 * (k + 1)) (by omega) (by omega) ?_
            exact ih1 (k + 1) (by omega) _ _ _ hw (lv_sub hl [0, 3, 4, 5, 6, 7, 8] rfl)
          · have d : ¬ k ≤ k := fun h9 => d ((nI_leI (a := k) (b := k) (by omega) (by omega)).mpr h9)
            omega
        | succ d ih =>
          intro k  hk  H locs ls hw hl
          refine lv_iload hx hb dL_areJobs_105 (lv_at hl 0 rfl) ?_
          refine lv_iload hx hb dL_areJobs_107 (lv_at hl 2 rfl) ?_
          refine lv_icmp_ge (tgt := 146) hx hb dL_areJobs_109 (by decide) (fun d => ?_) (fun d => ?_)
          · have d := (nI_leI (a := m9) (b := k) (by omega) (by omega)).mp d
            omega
          · have d : ¬ m9 ≤ k := fun h9 => d ((nI_leI (a := m9) (b := k) (by omega) (by omega)).mpr h9)
            refine lv_iload hx hb dL_areJobs_112 (lv_at hl 3 rfl) ?_
            refine lv_if_eq (tgt := 146) hx hb dL_areJobs_114 (by decide) (fun cx => absurd cx (by decide)) (fun cx => ?_)
            refine lv_iload hx hb dL_areJobs_117 (lv_at hl 1 rfl) ?_
            refine lv_if_lt (tgt := 133) hx hb dL_areJobs_119 (by decide) (fun cx => ?_) (fun cx => absurd cx (by decide))
            refine lv_iconst (v := (nI 1)) hx hb dL_areJobs_133 (by decide) ?_
            refine lv_goto (tgt := 138) hx hb dL_areJobs_134 (by decide) ?_
            refine lv_istore (lv' := [(5, .int (nI 1)), (8, .int (nI k)), (7, .int (-1)), (6, .int (nI m9)), (4, .int (nI (rf_bs f (m9 + 1)))), (3, .int (nI 0)), (0, .ref x), (1, .int (nI nO)), (2, .int (nI nC))]) hx hb dL_areJobs_138 hl (by decide) rfl (fun ls hl => ?_)
            refine lv_iinc (v := (nI (k + 1))) (lv' := [(8, .int (nI (k + 1))), (5, .int (nI 1)), (7, .int (-1)), (6, .int (nI m9)), (4, .int (nI (rf_bs f (m9 + 1)))), (3, .int (nI 0)), (0, .ref x), (1, .int (nI nO)), (2, .int (nI nC))]) hx hb dL_areJobs_140 hl (k := 1) rfl (nI_1 _) (by decide) rfl (fun ls hl => ?_)
            refine lv_goto (tgt := 105) hx hb dL_areJobs_143 (by decide) ?_
            refine W.widen (k := 10 * m9 + 5 + (k + 1)) (n := 60 * m9 + 30 + 6 * (k + 1)) (by omega) (by omega) ?_
            exact ih (k + 1)  (by omega)   _ _ _ hw (lv_sub hl [0, 2, 3, 1, 4, 5, 6, 7, 8] rfl)
      · have elf : cl_lf f m9 = (nI 0) := by rw [cl_lf, if_pos e23]
        have ebs : rf_bs f (m9 + 1) = rf_bs f m9 + 0 := by rw [rf_bs, if_pos e23]
        refine lv_iload hx hb dL_areJobs_17 (lv_at hl 1 rfl) ?_
        refine lv_if_eq (tgt := 152) hx hb dL_areJobs_19 (by decide) (fun cx => absurd cx (by decide)) (fun cx => ?_)
        refine lv_aload_n hx hb dL_areJobs_22 rfl (lv_at hl 4 rfl) ?_
        refine lv_iload hx hb dL_areJobs_23 (lv_at hl 0 rfl) ?_
        refine fw_ask (fw_xrunV (As := [.int (nI m9)]) (rest := []) C hz hcx hw (c_X8_cutterOn l G _ _ x lc lt lo lm lw dr (nI T) ma f (cl_jb ja f) (cl_lf f) (nI m9) hl9 hX hK.1) (fw_cwV hT wd_608 yVX8_cutterOn rfl rfl ⟨Nat.le_of_ble_eq_true rfl, Nat.le_of_ble_eq_true rfl⟩) (fw_rec hz hw hX (q := vwCl[9]) rfl) rfl hl.1 rfl (Nat.le_of_ble_eq_true rfl) dL_areJobs_25 ⟨by show 10 * m9 + 0 + 1 ≤ 100; omega, by show 60 * m9 + 0 + 6 ≤ 600; omega⟩) hw (fun E h9 => absurd h9.2 (by rw [rf_ix_of (show 3 ≤ 100 by decide) (show m9 < 3 by omega)]; decide)) (fun r F1 H locs hw hp => ?_)
        refine W.widen (k := 10 * m9 + 1) (n := 60 * m9 + 6) (by omega) (by omega) ?_
        obtain ⟨hF1, j9, hj9, ej9, hr9⟩ := hp
        rw [hF1] at hw
        obtain rfl := nI_j (show m9 ≤ 1000 by omega) (by omega) ej9
        rw [hr9, e22]
        refine lv_istore (lv' := [(7, .int (nI c9)), (6, .int (nI m9)), (5, .int (nI 1)), (4, .int (nI (rf_bs f m9))), (3, .int (nI 0)), (0, .ref x), (1, .int (nI nO)), (2, .int (nI nC))]) hx hb dL_areJobs_28 hl (by decide) rfl (fun ls hl => ?_)
        refine lv_iload hx hb dL_areJobs_30 (lv_at hl 3 rfl) ?_
        refine lv_aload_n hx hb dL_areJobs_32 rfl (lv_at hl 5 rfl) ?_
        refine lv_iload hx hb dL_areJobs_33 (lv_at hl 1 rfl) ?_
        refine fw_ask (fw_xrunV (As := [.int (nI m9)]) (rest := [.int (nI (rf_bs f m9))]) C hz hcx hw (c_X8_ticksLeft l G _ _ x lc lt lo lm lw dr (nI T) ma f (cl_jb ja f) (cl_lf f) (nI m9) hl9 hX hK.1) (fw_cwV hT wd_617 yVX8_ticksLeft rfl rfl ⟨Nat.le_of_ble_eq_true rfl, Nat.le_of_ble_eq_true rfl⟩) (fw_rec hz hw hX (q := vwCl[9]) rfl) rfl hl.1 rfl (Nat.le_of_ble_eq_true rfl) dL_areJobs_35 ⟨by show 10 * m9 + 1 + 1 ≤ 100; omega, by show 60 * m9 + 6 + 6 ≤ 600; omega⟩) hw (fun E h9 => absurd h9.2 (by rw [rf_ix_of (show 3 ≤ 100 by decide) (show m9 < 3 by omega)]; decide)) (fun r F1 H locs hw hp => ?_)
        refine W.widen (k := 10 * m9 + 2) (n := 60 * m9 + 12) (by omega) (by omega) ?_
        obtain ⟨hF1, j9, hj9, ej9, hr9⟩ := hp
        rw [hF1] at hw
        obtain rfl := nI_j (show m9 ≤ 1000 by omega) (by omega) ej9
        rw [hr9, elf]
        refine lv_if_le (tgt := 45) hx hb dL_areJobs_38 (by decide) (fun cx => ?_) (fun cx => absurd cx (by decide))
        refine lv_iconst (v := (nI 0)) hx hb dL_areJobs_45 (by decide) ?_
        refine lv_iadd hx hb dL_areJobs_46 ?_
        refine fw_top (nI_add _ _) ?_
        refine fw_top (x' := (nI (rf_bs f (m9 + 1)))) (by rw [ebs]) ?_
        refine lv_istore (lv' := [(4, .int (nI (rf_bs f (m9 + 1)))), (7, .int (nI c9)), (6, .int (nI m9)), (5, .int (nI 1)), (3, .int (nI 0)), (0, .ref x), (1, .int (nI nO)), (2, .int (nI nC))]) hx hb dL_areJobs_47 hl (by decide) rfl (fun ls hl => ?_)
        refine lv_iload hx hb dL_areJobs_49 (lv_at hl 1 rfl) ?_
        refine lv_iconst (v := (-1)) hx hb dL_areJobs_51 (by decide) ?_
        refine lv_icmp_lt (tgt := 99) hx hb dL_areJobs_52 (by decide) (fun cx => absurd cx (p4_nlt (by omega))) (fun cx => ?_)
        refine lv_iload hx hb dL_areJobs_55 (lv_at hl 1 rfl) ?_
        refine lv_iload_n hx hb dL_areJobs_57 rfl (lv_at hl 7 rfl) ?_
        refine lv_icmp_ge (tgt := 99) hx hb dL_areJobs_58 (by decide) (fun d2 => ?_) (fun d2 => ?_)
        · have d2 := (nI_leI (a := nC) (b := c9) (by omega) (by omega)).mp d2
          omega
        · have d2 : ¬ nC ≤ c9 := fun h9 => d2 ((nI_leI (a := nC) (b := c9) (by omega) (by omega)).mpr h9)
          refine lv_aload_n hx hb dL_areJobs_61 rfl (lv_at hl 5 rfl) ?_
          refine lv_iload hx hb dL_areJobs_62 (lv_at hl 2 rfl) ?_
          refine fw_ask (fw_xrunV (As := [.int (nI m9)]) (rest := []) C hz hcx hw (c_X8_ticksLeft l G _ _ x lc lt lo lm lw dr (nI T) ma f (cl_jb ja f) (cl_lf f) (nI m9) hl9 hX hK.1) (fw_cwV hT wd_617 yVX8_ticksLeft rfl rfl ⟨Nat.le_of_ble_eq_true rfl, Nat.le_of_ble_eq_true rfl⟩) (fw_rec hz hw hX (q := vwCl[9]) rfl) rfl hl.1 rfl (Nat.le_of_ble_eq_true rfl) dL_areJobs_64 ⟨by show 10 * m9 + 2 + 1 ≤ 100; omega, by show 60 * m9 + 12 + 6 ≤ 600; omega⟩) hw (fun E h9 => absurd h9.2 (by rw [rf_ix_of (show 3 ≤ 100 by decide) (show m9 < 3 by omega)]; decide)) (fun r F1 H locs hw hp => ?_)
          refine W.widen (k := 10 * m9 + 3) (n := 60 * m9 + 18) (by omega) (by omega) ?_
          obtain ⟨hF1, j9, hj9, ej9, hr9⟩ := hp
          rw [hF1] at hw
          obtain rfl := nI_j (show m9 ≤ 1000 by omega) (by omega) ej9
          rw [hr9, elf]
          refine lv_if_lt (tgt := 99) hx hb dL_areJobs_67 (by decide) (fun cx => absurd cx (by decide)) (fun cx => ?_)
          refine lv_aload_n hx hb dL_areJobs_70 rfl (lv_at hl 5 rfl) ?_
          refine lv_iload hx hb dL_areJobs_71 (lv_at hl 2 rfl) ?_
          refine fw_ask (fw_xrunV (As := [.int (nI m9)]) (rest := []) C hz hcx hw (c_X8_ticksLeft l G _ _ x lc lt lo lm lw dr (nI T) ma f (cl_jb ja f) (cl_lf f) (nI m9) hl9 hX hK.1) (fw_cwV hT wd_617 yVX8_ticksLeft rfl rfl ⟨Nat.le_of_ble_eq_true rfl, Nat.le_of_ble_eq_true rfl⟩) (fw_rec hz hw hX (q := vwCl[9]) rfl) rfl hl.1 rfl (Nat.le_of_ble_eq_true rfl) dL_areJobs_73 ⟨by show 10 * m9 + 3 + 1 ≤ 100; omega, by show 60 * m9 + 18 + 6 ≤ 600; omega⟩) hw (fun E h9 => absurd h9.2 (by rw [rf_ix_of (show 3 ≤ 100 by decide) (show m9 < 3 by omega)]; decide)) (fun r F1 H locs hw hp => ?_)
          refine W.widen (k := 10 * m9 + 4) (n := 60 * m9 + 24) (by omega) (by omega) ?_
          obtain ⟨hF1, j9, hj9, ej9, hr9⟩ := hp
          rw [hF1] at hw
          obtain rfl := nI_j (show m9 ≤ 1000 by omega) (by omega) ej9
          rw [hr9, elf]
          refine lv_bipush (v := (nI 63)) hx hb dL_areJobs_76 (by decide) ?_
          refine lv_icmp_gt (tgt := 99) hx hb dL_areJobs_78 (by decide) (fun cx => absurd cx (by decide)) (fun cx => ?_)
          refine lv_iload hx hb dL_areJobs_81 (lv_at hl 1 rfl) ?_
          refine lv_if_ge (tgt := 95) hx hb dL_areJobs_83 (by decide) (fun d5 => ?_) (fun d5 => ?_)
          · have d5 := (nI_leI (a := 0) (b := c9) (by omega) (by omega)).mp d5
            refine lv_iconst (v := (nI 1)) hx hb dL_areJobs_95 (by decide) ?_
            refine lv_goto (tgt := 100) hx hb dL_areJobs_96 (by decide) ?_
            refine lv_istore (lv' := [(5, .int (nI 1)), (4, .int (nI (rf_bs f (m9 + 1)))), (7, .int (nI c9)), (6, .int (nI m9)), (3, .int (nI 0)), (0, .ref x), (1, .int (nI nO)), (2, .int (nI nC))]) hx hb dL_areJobs_100 hl (by decide) rfl (fun ls hl => ?_)
            refine lv_iconst (v := (nI 0)) hx hb dL_areJobs_102 (by decide) ?_
            refine lv_istore (lv' := [(8, .int (nI 0)), (5, .int (nI 1)), (4, .int (nI (rf_bs f (m9 + 1)))), (7, .int (nI c9)), (6, .int (nI m9)), (3, .int (nI 0)), (0, .ref x), (1, .int (nI nO)), (2, .int (nI nC))]) hx hb dL_areJobs_103 hl (by decide) rfl (fun ls hl => ?_)
            refine W.widen (k := 10 * m9 + 5) (n := 60 * m9 + 30) (by omega) (by omega) ?_
            suffices hlp : ∀ (d k : Nat), k + d = m9 →  ∀ (H : Heap) (locs : List Loc) (ls : Array Slot), fw_S G A s F H locs → lv_has ls 9 [(8, .int (nI k)), (7, .int (nI c9)), (6, .int (nI m9)), (5, .int (nI 1)), (4, .int (nI (rf_bs f (m9 + 1)))), (3, .int (nI 0)), (0, .ref x), (1, .int (nI nO)), (2, .int (nI nC))] → W p l e { frames := 9, cells := 100, slots := 600, locals := 162 } s m ([.ref x, .int (nI nO), .int (nI nC)] : List Value).toArray below meth c H locs (10 * m9 + 5 + k) (60 * m9 + 30 + 6 * k) (MQ below (va_Qi (fun r F1 => F1 = F ∧ (fun r => r = nI 1) r) (fw_B G A) A) ([.ref x, .int (nI nO), .int (nI nC)] : List Value).toArray s 100 600 A) (F0 m 105 ls []) by
              exact hlp m9 0  (Nat.zero_add _)   _ _ _ hw (lv_sub hl [0, 3, 4, 1, 2, 5, 6, 7, 8] rfl)
            intro d
            induction d with
            | zero =>
              intro k  hk  H locs ls hw hl
              obtain rfl : k = m9 := by omega
              refine lv_iload hx hb dL_areJobs_105 (lv_at hl 0 rfl) ?_
              refine lv_iload hx hb dL_areJobs_107 (lv_at hl 2 rfl) ?_
              refine lv_icmp_ge (tgt := 146) hx hb dL_areJobs_109 (by decide) (fun d => ?_) (fun d => ?_)
              · have d := (nI_leI (a := k) (b := k) (by omega) (by omega)).mp d
                refine lv_iinc (v := (nI (k + 1))) (lv' := [(6, .int (nI (k + 1))), (8, .int (nI k)), (7, .int (nI c9)), (5, .int (nI 1)), (4, .int (nI (rf_bs f (k + 1)))), (3, .int (nI 0)), (0, .ref x), (1, .int (nI nO)), (2, .int (nI nC))]) hx hb dL_areJobs_146 hl (k := 2) rfl (nI_1 _) (by decide) rfl (fun ls hl => ?_)
                refine lv_goto (tgt := 11) hx hb dL_areJobs_149 (by decide) ?_
                refine W.widen (k := 10 * (k + 1)) (n := 60 * (k + 1)) (by omega) (by omega) ?_
                exact ih1 (k + 1) (by omega) _ _ _ hw (lv_sub hl [0, 3, 4, 5, 6, 7, 8] rfl)
              · have d : ¬ k ≤ k := fun h9 => d ((nI_leI (a := k) (b := k) (by omega) (by omega)).mpr h9)
                omega
            | succ d ih =>
              intro k  hk  H locs ls hw hl
              refine lv_iload hx hb dL_areJobs_105 (lv_at hl 0 rfl) ?_
              refine lv_iload hx hb dL_areJobs_107 (lv_at hl 2 rfl) ?_
              refine lv_icmp_ge (tgt := 146) hx hb dL_areJobs_109 (by decide) (fun d => ?_) (fun d => ?_)
              · have d := (nI_leI (a := m9) (b := k) (by omega) (by omega)).mp d
                omega
              · have d : ¬ m9 ≤ k := fun h9 => d ((nI_leI (a := m9) (b := k) (by omega) (by omega)).mpr h9)
                refine lv_iload hx hb dL_areJobs_112 (lv_at hl 3 rfl) ?_
                refine lv_if_eq (tgt := 146) hx hb dL_areJobs_114 (by decide) (fun cx => absurd cx (by decide)) (fun cx => ?_)
                refine lv_iload hx hb dL_areJobs_117 (lv_at hl 1 rfl) ?_
                refine lv_if_lt (tgt := 133) hx hb dL_areJobs_119 (by decide) (fun d6 => ?_) (fun d6 => ?_)
                · have d6 := (nI_ltI (a := c9) (b := 0) (by omega) (by omega)).mp d6
                  omega
                · have d6 : ¬ c9 < 0 := fun h9 => d6 ((nI_ltI (a := c9) (b := 0) (by omega) (by omega)).mpr h9)
                  refine lv_aload_n hx hb dL_areJobs_122 rfl (lv_at hl 6 rfl) ?_
                  refine lv_iload hx hb dL_areJobs_123 (lv_at hl 0 rfl) ?_
                  refine fw_ask (fw_xrunV (As := [.int (nI k)]) (rest := []) C hz hcx hw (c_X8_cutterOn l G _ _ x lc lt lo lm lw dr (nI T) ma f (cl_jb ja f) (cl_lf f) (nI k) hl9 hX hK.1) (fw_cwV hT wd_608 yVX8_cutterOn rfl rfl ⟨Nat.le_of_ble_eq_true rfl, Nat.le_of_ble_eq_true rfl⟩) (fw_rec hz hw hX (q := vwCl[9]) rfl) rfl hl.1 rfl (Nat.le_of_ble_eq_true rfl) dL_areJobs_125 ⟨by show 10 * m9 + 5 + k + 0 + 1 ≤ 100; omega, by show 60 * m9 + 30 + 6 * k + 0 + 6 ≤ 600; omega⟩) hw (fun E h9 => absurd h9.2 (by rw [rf_ix_of (show 3 ≤ 100 by decide) (show k < 3 by omega)]; decide)) (fun r F1 H locs hw hp => ?_)
                  refine W.widen (k := 10 * m9 + 5 + k + 1) (n := 60 * m9 + 30 + 6 * k + 6) (by omega) (by omega) ?_
                  obtain ⟨hF1, j9, hj9, ej9, hr9⟩ := hp
                  rw [hF1] at hw
                  obtain rfl := nI_j (show k ≤ 1000 by omega) (by omega) ej9
                  rw [hr9]
                  refine lv_iload hx hb dL_areJobs_128 (lv_at hl 1 rfl) ?_
                  refine lv_icmp_eq (tgt := 137) hx hb dL_areJobs_130 (by decide) (fun cx => absurd cx (fun q9 => nI_neg1 (by omega) (e22.symm.trans (g3 k (by omega) (by omega) (e22.trans (Eq.symm q9)))))) (fun cx => ?_)
                  refine lv_iconst (v := (nI 1)) hx hb dL_areJobs_133 (by decide) ?_
                  refine lv_goto (tgt := 138) hx hb dL_areJobs_134 (by decide) ?_
                  refine lv_istore (lv' := [(5, .int (nI 1)), (8, .int (nI k)), (7, .int (nI c9)), (6, .int (nI m9)), (4, .int (nI (rf_bs f (m9 + 1)))), (3, .int (nI 0)), (0, .ref x), (1, .int (nI nO)), (2, .int (nI nC))]) hx hb dL_areJobs_138 hl (by decide) rfl (fun ls hl => ?_)
                  refine lv_iinc (v := (nI (k + 1))) (lv' := [(8, .int (nI (k + 1))), (5, .int (nI 1)), (7, .int (nI c9)), (6, .int (nI m9)), (4, .int (nI (rf_bs f (m9 + 1)))), (3, .int (nI 0)), (0, .ref x), (1, .int (nI nO)), (2, .int (nI nC))]) hx hb dL_areJobs_140 hl (k := 1) rfl (nI_1 _) (by decide) rfl (fun ls hl => ?_)
                  refine lv_goto (tgt := 105) hx hb dL_areJobs_143 (by decide) ?_
                  refine W.widen (k := 10 * m9 + 5 + (k + 1)) (n := 60 * m9 + 30 + 6 * (k + 1)) (by omega) (by omega) ?_
                  exact ih (k + 1)  (by omega)   _ _ _ hw (lv_sub hl [0, 2, 3, 1, 4, 5, 6, 7, 8] rfl)
          · have d5 : ¬ 0 ≤ c9 := fun h9 => d5 ((nI_leI (a := 0) (b := c9) (by omega) (by omega)).mpr h9)
            omega
      · have elf : cl_lf f m9 = (nI (L + 1)) := by rw [cl_lf, if_neg e23, e24]
        have ebs : rf_bs f (m9 + 1) = rf_bs f m9 + 1 := by rw [rf_bs, if_neg e23]
        refine lv_iload hx hb dL_areJobs_17 (lv_at hl 1 rfl) ?_
        refine lv_if_eq (tgt := 152) hx hb dL_areJobs_19 (by decide) (fun cx => absurd cx (by decide)) (fun cx => ?_)
        refine lv_aload_n hx hb dL_areJobs_22 rfl (lv_at hl 4 rfl) ?_
        refine lv_iload hx hb dL_areJobs_23 (lv_at hl 0 rfl) ?_
        refine fw_ask (fw_xrunV (As := [.int (nI m9)]) (rest := []) C hz hcx hw (c_X8_cutterOn l G _ _ x lc lt lo lm lw dr (nI T) ma f (cl_jb ja f) (cl_lf f) (nI m9) hl9 hX hK.1) (fw_cwV hT wd_608 yVX8_cutterOn rfl rfl ⟨Nat.le_of_ble_eq_true rfl, Nat.le_of_ble_eq_true rfl⟩) (fw_rec hz hw hX (q := vwCl[9]) rfl) rfl hl.1 rfl (Nat.le_of_ble_eq_true rfl) dL_areJobs_25 ⟨by show 10 * m9 + 0 + 1 ≤ 100; omega, by show 60 * m9 + 0 + 6 ≤ 600; omega⟩) hw (fun E h9 => absurd h9.2 (by rw [rf_ix_of (show 3 ≤ 100 by decide) (show m9 < 3 by omega)]; decide)) (fun r F1 H locs hw hp => ?_)
        refine W.widen (k := 10 * m9 + 1) (n := 60 * m9 + 6) (by omega) (by omega) ?_
        obtain ⟨hF1, j9, hj9, ej9, hr9⟩ := hp
        rw [hF1] at hw
        obtain rfl := nI_j (show m9 ≤ 1000 by omega) (by omega) ej9
        rw [hr9, e22]
        refine lv_istore (lv' := [(7, .int (nI c9)), (6, .int (nI m9)), (5, .int (nI 1)), (4, .int (nI (rf_bs f m9))), (3, .int (nI 0)), (0, .ref x), (1, .int (nI nO)), (2, .int (nI nC))]) hx hb dL_areJobs_28 hl (by decide) rfl (fun ls hl => ?_)
        refine lv_iload hx hb dL_areJobs_30 (lv_at hl 3 rfl) ?_
        refine lv_aload_n hx hb dL_areJobs_32 rfl (lv_at hl 5 rfl) ?_
        refine lv_iload hx hb dL_areJobs_33 (lv_at hl 1 rfl) ?_
        refine fw_ask (fw_xrunV (As := [.int (nI m9)]) (rest := [.int (nI (rf_bs f m9))]) C hz hcx hw (c_X8_ticksLeft l G _ _ x lc lt lo lm lw dr (nI T) ma f (cl_jb ja f) (cl_lf f) (nI m9) hl9 hX hK.1) (fw_cwV hT wd_617 yVX8_ticksLeft rfl rfl ⟨Nat.le_of_ble_eq_true rfl, Nat.le_of_ble_eq_true rfl⟩) (fw_rec hz hw hX (q := vwCl[9]) rfl) rfl hl.1 rfl (Nat.le_of_ble_eq_true rfl) dL_areJobs_35 ⟨by show 10 * m9 + 1 + 1 ≤ 100; omega, by show 60 * m9 + 6 + 6 ≤ 600; omega⟩) hw (fun E h9 => absurd h9.2 (by rw [rf_ix_of (show 3 ≤ 100 by decide) (show m9 < 3 by omega)]; decide)) (fun r F1 H locs hw hp => ?_)
        refine W.widen (k := 10 * m9 + 2) (n := 60 * m9 + 12) (by omega) (by omega) ?_
        obtain ⟨hF1, j9, hj9, ej9, hr9⟩ := hp
        rw [hF1] at hw
        obtain rfl := nI_j (show m9 ≤ 1000 by omega) (by omega) ej9
        rw [hr9, elf]
        refine lv_if_le (tgt := 45) hx hb dL_areJobs_38 (by decide) (fun d1 => ?_) (fun d1 => ?_)
        · have d1 := (nI_leI (a := L + 1) (b := 0) (by omega) (by omega)).mp d1
          omega
        · have d1 : ¬ (L + 1) ≤ 0 := fun h9 => d1 ((nI_leI (a := L + 1) (b := 0) (by omega) (by omega)).mpr h9)
          refine lv_iconst (v := (nI 1)) hx hb dL_areJobs_41 (by decide) ?_
          refine lv_goto (tgt := 46) hx hb dL_areJobs_42 (by decide) ?_
          refine lv_iadd hx hb dL_areJobs_46 ?_
          refine fw_top (nI_add _ _) ?_
          refine fw_top (x' := (nI (rf_bs f (m9 + 1)))) (by rw [ebs]) ?_
          refine lv_istore (lv' := [(4, .int (nI (rf_bs f (m9 + 1)))), (7, .int (nI c9)), (6, .int (nI m9)), (5, .int (nI 1)), (3, .int (nI 0)), (0, .ref x), (1, .int (nI nO)), (2, .int (nI nC))]) hx hb dL_areJobs_47 hl (by decide) rfl (fun ls hl => ?_)
          refine lv_iload hx hb dL_areJobs_49 (lv_at hl 1 rfl) ?_
          refine lv_iconst (v := (-1)) hx hb dL_areJobs_51 (by decide) ?_
          refine lv_icmp_lt (tgt := 99) hx hb dL_areJobs_52 (by decide) (fun cx => absurd cx (p4_nlt (by omega))) (fun cx => ?_)
          refine lv_iload hx hb dL_areJobs_55 (lv_at hl 1 rfl) ?_
          refine lv_iload_n hx hb dL_areJobs_57 rfl (lv_at hl 7 rfl) ?_
          refine lv_icmp_ge (tgt := 99) hx hb dL_areJobs_58 (by decide) (fun d2 => ?_) (fun d2 => ?_)
          · have d2 := (nI_leI (a := nC) (b := c9) (by omega) (by omega)).mp d2
            omega
          · have d2 : ¬ nC ≤ c9 := fun h9 => d2 ((nI_leI (a := nC) (b := c9) (by omega) (by omega)).mpr h9)
            refine lv_aload_n hx hb dL_areJobs_61 rfl (lv_at hl 5 rfl) ?_
            refine lv_iload hx hb dL_areJobs_62 (lv_at hl 2 rfl) ?_
            refine fw_ask (fw_xrunV (As := [.int (nI m9)]) (rest := []) C hz hcx hw (c_X8_ticksLeft l G _ _ x lc lt lo lm lw dr (nI T) ma f (cl_jb ja f) (cl_lf f) (nI m9) hl9 hX hK.1) (fw_cwV hT wd_617 yVX8_ticksLeft rfl rfl ⟨Nat.le_of_ble_eq_true rfl, Nat.le_of_ble_eq_true rfl⟩) (fw_rec hz hw hX (q := vwCl[9]) rfl) rfl hl.1 rfl (Nat.le_of_ble_eq_true rfl) dL_areJobs_64 ⟨by show 10 * m9 + 2 + 1 ≤ 100; omega, by show 60 * m9 + 12 + 6 ≤ 600; omega⟩) hw (fun E h9 => absurd h9.2 (by rw [rf_ix_of (show 3 ≤ 100 by decide) (show m9 < 3 by omega)]; decide)) (fun r F1 H locs hw hp => ?_)
            refine W.widen (k := 10 * m9 + 3) (n := 60 * m9 + 18) (by omega) (by omega) ?_
            obtain ⟨hF1, j9, hj9, ej9, hr9⟩ := hp
            rw [hF1] at hw
            obtain rfl := nI_j (show m9 ≤ 1000 by omega) (by omega) ej9
            rw [hr9, elf]
            refine lv_if_lt (tgt := 99) hx hb dL_areJobs_67 (by decide) (fun d3 => ?_) (fun d3 => ?_)
            · have d3 := (nI_ltI (a := L + 1) (b := 0) (by omega) (by omega)).mp d3
              omega
            · have d3 : ¬ (L + 1) < 0 := fun h9 => d3 ((nI_ltI (a := L + 1) (b := 0) (by omega) (by omega)).mpr h9)
              refine lv_aload_n hx hb dL_areJobs_70 rfl (lv_at hl 5 rfl) ?_
              refine lv_iload hx hb dL_areJobs_71 (lv_at hl 2 rfl) ?_
              refine fw_ask (fw_xrunV (As := [.int (nI m9)]) (rest := []) C hz hcx hw (c_X8_ticksLeft l G _ _ x lc lt lo lm lw dr (nI T) ma f (cl_jb ja f) (cl_lf f) (nI m9) hl9 hX hK.1) (fw_cwV hT wd_617 yVX8_ticksLeft rfl rfl ⟨Nat.le_of_ble_eq_true rfl, Nat.le_of_ble_eq_true rfl⟩) (fw_rec hz hw hX (q := vwCl[9]) rfl) rfl hl.1 rfl (Nat.le_of_ble_eq_true rfl) dL_areJobs_73 ⟨by show 10 * m9 + 3 + 1 ≤ 100; omega, by show 60 * m9 + 18 + 6 ≤ 600; omega⟩) hw (fun E h9 => absurd h9.2 (by rw [rf_ix_of (show 3 ≤ 100 by decide) (show m9 < 3 by omega)]; decide)) (fun r F1 H locs hw hp => ?_)
              refine W.widen (k := 10 * m9 + 4) (n := 60 * m9 + 24) (by omega) (by omega) ?_
              obtain ⟨hF1, j9, hj9, ej9, hr9⟩ := hp
              rw [hF1] at hw
              obtain rfl := nI_j (show m9 ≤ 1000 by omega) (by omega) ej9
              rw [hr9, elf]
              refine lv_bipush (v := (nI 63)) hx hb dL_areJobs_76 (by decide) ?_
              refine lv_icmp_gt (tgt := 99) hx hb dL_areJobs_78 (by decide) (fun d4 => ?_) (fun d4 => ?_)
              · have d4 := (nI_ltI (a := 63) (b := L + 1) (by omega) (by omega)).mp d4
                omega
              · have d4 : ¬ 63 < (L + 1) := fun h9 => d4 ((nI_ltI (a := 63) (b := L + 1) (by omega) (by omega)).mpr h9)
                refine lv_iload hx hb dL_areJobs_81 (lv_at hl 1 rfl) ?_
                refine lv_if_ge (tgt := 95) hx hb dL_areJobs_83 (by decide) (fun d5 => ?_) (fun d5 => ?_)
                · have d5 := (nI_leI (a := 0) (b := c9) (by omega) (by omega)).mp d5
                  refine lv_iconst (v := (nI 1)) hx hb dL_areJobs_95 (by decide) ?_
                  refine lv_goto (tgt := 100) hx hb dL_areJobs_96 (by decide) ?_
                  refine lv_istore (lv' := [(5, .int (nI 1)), (4, .int (nI (rf_bs f (m9 + 1)))), (7, .int (nI c9)), (6, .int (nI m9)), (3, .int (nI 0)), (0, .ref x), (1, .int (nI nO)), (2, .int (nI nC))]) hx hb dL_areJobs_100 hl (by decide) rfl (fun ls hl => ?_)
                  refine lv_iconst (v := (nI 0)) hx hb dL_areJobs_102 (by decide) ?_
                  refine lv_istore (lv' := [(8, .int (nI 0)), (5, .int (nI 1)), (4, .int (nI (rf_bs f (m9 + 1)))), (7, .int (nI c9)), (6, .int (nI m9)), (3, .int (nI 0)), (0, .ref x), (1, .int (nI nO)), (2, .int (nI nC))]) hx hb dL_areJobs_103 hl (by decide) rfl (fun ls hl => ?_)
                  refine W.widen (k := 10 * m9 + 5) (n := 60 * m9 + 30) (by omega) (by omega) ?_
                  suffices hlp : ∀ (d k : Nat), k + d = m9 →  ∀ (H : Heap) (locs : List Loc) (ls : Array Slot), fw_S G A s F H locs → lv_has ls 9 [(8, .int (nI k)), (7, .int (nI c9)), (6, .int (nI m9)), (5, .int (nI 1)), (4, .int (nI (rf_bs f (m9 + 1)))), (3, .int (nI 0)), (0, .ref x), (1, .int (nI nO)), (2, .int (nI nC))] → W p l e { frames := 9, cells := 100, slots := 600, locals := 162 } s m ([.ref x, .int (nI nO), .int (nI nC)] : List Value).toArray below meth c H locs (10 * m9 + 5 + k) (60 * m9 + 30 + 6 * k) (MQ below (va_Qi (fun r F1 => F1 = F ∧ (fun r => r = nI 1) r) (fw_B G A) A) ([.ref x, .int (nI nO), .int (nI nC)] : List Value).toArray s 100 600 A) (F0 m 105 ls []) by
                    exact hlp m9 0  (Nat.zero_add _)   _ _ _ hw (lv_sub hl [0, 3, 4, 1, 2, 5, 6, 7, 8] rfl)
                  intro d
                  induction d with
                  | zero =>
                    intro k  hk  H locs ls hw hl
                    obtain rfl : k = m9 := by omega
                    refine lv_iload hx hb dL_areJobs_105 (lv_at hl 0 rfl) ?_
                    refine lv_iload hx hb dL_areJobs_107 (lv_at hl 2 rfl) ?_
                    refine lv_icmp_ge (tgt := 146) hx hb dL_areJobs_109 (by decide) (fun d => ?_) (fun d => ?_)
                    · have d := (nI_leI (a := k) (b := k) (by omega) (by omega)).mp d
                      refine lv_iinc (v := (nI (k + 1))) (lv' := [(6, .int (nI (k + 1))), (8, .int (nI k)), (7, .int (nI c9)), (5, .int (nI 1)), (4, .int (nI (rf_bs f (k + 1)))), (3, .int (nI 0)), (0, .ref x), (1, .int (nI nO)), (2, .int (nI nC))]) hx hb dL_areJobs_146 hl (k := 2) rfl (nI_1 _) (by decide) rfl (fun ls hl => ?_)
                      refine lv_goto (tgt := 11) hx hb dL_areJobs_149 (by decide) ?_
                      refine W.widen (k := 10 * (k + 1)) (n := 60 * (k + 1)) (by omega) (by omega) ?_
                      exact ih1 (k + 1) (by omega) _ _ _ hw (lv_sub hl [0, 3, 4, 5, 6, 7, 8] rfl)
                    · have d : ¬ k ≤ k := fun h9 => d ((nI_leI (a := k) (b := k) (by omega) (by omega)).mpr h9)
                      omega
                  | succ d ih =>
                    intro k  hk  H locs ls hw hl
                    refine lv_iload hx hb dL_areJobs_105 (lv_at hl 0 rfl) ?_
                    refine lv_iload hx hb dL_areJobs_107 (lv_at hl 2 rfl) ?_
                    refine lv_icmp_ge (tgt := 146) hx hb dL_areJobs_109 (by decide) (fun d => ?_) (fun d => ?_)
                    · have d := (nI_leI (a := m9) (b := k) (by omega) (by omega)).mp d
                      omega
                    · have d : ¬ m9 ≤ k := fun h9 => d ((nI_leI (a := m9) (b := k) (by omega) (by omega)).mpr h9)
                      refine lv_iload hx hb dL_areJobs_112 (lv_at hl 3 rfl) ?_
                      refine lv_if_eq (tgt := 146) hx hb dL_areJobs_114 (by decide) (fun cx => absurd cx (by decide)) (fun cx => ?_)
                      refine lv_iload hx hb dL_areJobs_117 (lv_at hl 1 rfl) ?_
                      refine lv_if_lt (tgt := 133) hx hb dL_areJobs_119 (by decide) (fun d6 => ?_) (fun d6 => ?_)
                      · have d6 := (nI_ltI (a := c9) (b := 0) (by omega) (by omega)).mp d6
                        omega
                      · have d6 : ¬ c9 < 0 := fun h9 => d6 ((nI_ltI (a := c9) (b := 0) (by omega) (by omega)).mpr h9)
                        refine lv_aload_n hx hb dL_areJobs_122 rfl (lv_at hl 6 rfl) ?_
                        refine lv_iload hx hb dL_areJobs_123 (lv_at hl 0 rfl) ?_
                        refine fw_ask (fw_xrunV (As := [.int (nI k)]) (rest := []) C hz hcx hw (c_X8_cutterOn l G _ _ x lc lt lo lm lw dr (nI T) ma f (cl_jb ja f) (cl_lf f) (nI k) hl9 hX hK.1) (fw_cwV hT wd_608 yVX8_cutterOn rfl rfl ⟨Nat.le_of_ble_eq_true rfl, Nat.le_of_ble_eq_true rfl⟩) (fw_rec hz hw hX (q := vwCl[9]) rfl) rfl hl.1 rfl (Nat.le_of_ble_eq_true rfl) dL_areJobs_125 ⟨by show 10 * m9 + 5 + k + 0 + 1 ≤ 100; omega, by show 60 * m9 + 30 + 6 * k + 0 + 6 ≤ 600; omega⟩) hw (fun E h9 => absurd h9.2 (by rw [rf_ix_of (show 3 ≤ 100 by decide) (show k < 3 by omega)]; decide)) (fun r F1 H locs hw hp => ?_)
                        refine W.widen (k := 10 * m9 + 5 + k + 1) (n := 60 * m9 + 30 + 6 * k + 6) (by omega) (by omega) ?_
                        obtain ⟨hF1, j9, hj9, ej9, hr9⟩ := hp
                        rw [hF1] at hw
                        obtain rfl := nI_j (show k ≤ 1000 by omega) (by omega) ej9
                        rw [hr9]
                        refine lv_iload hx hb dL_areJobs_128 (lv_at hl 1 rfl) ?_
                        refine lv_icmp_eq (tgt := 137) hx hb dL_areJobs_130 (by decide) (fun cx => absurd cx (fun q9 => nI_neg1 (by omega) (e22.symm.trans (g3 k (by omega) (by omega) (e22.trans (Eq.symm q9)))))) (fun cx => ?_)
                        refine lv_iconst (v := (nI 1)) hx hb dL_areJobs_133 (by decide) ?_
                        refine lv_goto (tgt := 138) hx hb dL_areJobs_134 (by decide) ?_
                        refine lv_istore (lv' := [(5, .int (nI 1)), (8, .int (nI k)), (7, .int (nI c9)), (6, .int (nI m9)), (4, .int (nI (rf_bs f (m9 + 1)))), (3, .int (nI 0)), (0, .ref x), (1, .int (nI nO)), (2, .int (nI nC))]) hx hb dL_areJobs_138 hl (by decide) rfl (fun ls hl => ?_)
                        refine lv_iinc (v := (nI (k + 1))) (lv' := [(8, .int (nI (k + 1))), (5, .int (nI 1)), (7, .int (nI c9)), (6, .int (nI m9)), (4, .int (nI (rf_bs f (m9 + 1)))), (3, .int (nI 0)), (0, .ref x), (1, .int (nI nO)), (2, .int (nI nC))]) hx hb dL_areJobs_140 hl (k := 1) rfl (nI_1 _) (by decide) rfl (fun ls hl => ?_)
                        refine lv_goto (tgt := 105) hx hb dL_areJobs_143 (by decide) ?_
                        refine W.widen (k := 10 * m9 + 5 + (k + 1)) (n := 60 * m9 + 30 + 6 * (k + 1)) (by omega) (by omega) ?_
                        exact ih (k + 1)  (by omega)   _ _ _ hw (lv_sub hl [0, 2, 3, 1, 4, 5, 6, 7, 8] rfl)
                · have d5 : ¬ 0 ≤ c9 := fun h9 => d5 ((nI_leI (a := 0) (b := c9) (by omega) (by omega)).mpr h9)
                  omega
