/-! The law's second helper: a train's ratio and its turns are as they must be. -/
set_option maxHeartbeats 4000000 in
set_option maxRecDepth 100000 in
theorem c_L_isTrain (l : Launch) (G : fw_G) (F : fw_F) (sz : Nat) (x nC nT nO nJ nD T t q : Nat) (f : mm_A) (hl9 : l.stackTraces = false) (hCL : CL F x f nC nT nO nJ nD (nI T)) (hPU : PU f nT nO nJ nD) (ht : t < nT) (hq : q ≤ 600000) : Met l yL_isTrain (fw_ws yL_isTrain cL_isTrain 9 (some (.boolean))) { frames := 9, cells := 11, slots := 54, locals := 166 } (va_Pc [.ref x, .int (nI t), .int (nI (rf_P f t 2)), .int (nI (rf_P f t 1)), .int (nI q)] (fw_PreX G F sz)) (va_Qi (fun r F1 => r = nI 1 ∧ fw_kp F F1 (fun u => u.1 = 40)) (fw_B G (fw_W G F sz)) (fw_W G F sz)) 11 54 (fw_W G F sz) := by
  have hCL0 := hCL
  obtain ⟨lc, lt, lo, lm, lw, dr, ds, dfr, ca, ta, sl, fr, oa, tr, ml, ma, ja, da, wj, sa, ms, nW, hX, hC, hT1, hTr, hO1, hK, hI, hZ, hD, htr⟩ := hCL
  have ht8 := hT1.1
  have htk := hPU.1 t ht
  have k2 := rf_P_ok htk (w := 2) (Or.inr rfl)
  have k1 := rf_P_ok htk (w := 1) (Or.inl rfl)
  have htn := pv_turns htk hq
  obtain ⟨la, lb, lab, lno, lqd⟩ := pv_low (p := rf_P f t 2) (q := rf_P f t 1) k2.2.1 k1.2.1
  have ea : rf_P f t 2 / cr_g f t ≤ rf_P f t 2 := Nat.div_le_self _ _
  have eb : rf_P f t 1 / cr_g f t ≤ rf_P f t 1 := Nat.div_le_self _ _
  obtain ⟨a9, ha9⟩ : ∃ z, z = rf_P f t 2 / cr_g f t := ⟨_, rfl⟩
  obtain ⟨b9, hb9⟩ : ∃ z, z = rf_P f t 1 / cr_g f t := ⟨_, rfl⟩
  rw [← ha9] at ea
  rw [← hb9] at eb
  have la : 1 ≤ a9 := by rw [ha9]; exact la
  have lb : 1 ≤ b9 := by rw [hb9]; exact lb
  have lab : a9 * rf_P f t 1 = b9 * rf_P f t 2 := by rw [ha9, hb9]; exact lab
  have lno : ∀ k, 2 ≤ k → ¬ (a9 % k = 0 ∧ b9 % k = 0) := by rw [ha9, hb9]; exact lno
  have lqd : q * b9 / a9 = q * rf_P f t 1 / rf_P f t 2 := by rw [ha9, hb9]; exact lqd q
  have lqm : q * b9 ≤ 600000 * 12960000 := Nat.mul_le_mul hq (by omega)
  have hCL := hCL0
  refine fw_metP (lv := [(0, .ref x), (1, .int (nI t)), (2, .int (nI (rf_P f t 2))), (3, .int (nI (rf_P f t 1))), (4, .int (nI q))]) (by decide +kernel) (Nat.le_of_ble_eq_true rfl) rfl ?_
  intro A hA p e s m below meth c ls hx hb hml hown hT hr hlk hcx hz hsz hw hAn hl
  rw [← hA]
  have hown : s.vm.findClass RL = some m.cls := hown
  have C : CallFix p m c cL_isTrain 9 s _ fw_tb RL := ⟨hx, hb, hml, hown, hT⟩
  refine lv_aload_n hx hb dL_isTrain_0 rfl (lv_at hl 0 rfl) ?_
  refine lv_iload_n hx hb dL_isTrain_1 rfl (lv_at hl 1 rfl) ?_
  refine fw_ask (fw_xrunV (As := [.int (nI t)]) (rest := []) C hz hcx hw (c_X8_numerator l G _ _ x lc lt lo lm lw dr (nI T) ta sl fr sa f nT (nI t) hl9 hX hT1 hTr) (fw_cwV hT wd_632 yVX8_numerator rfl rfl ⟨Nat.le_of_ble_eq_true rfl, Nat.le_of_ble_eq_true rfl⟩) (fw_rec hz hw hX (q := vwCl[9]) rfl) rfl hl.1 rfl (Nat.le_of_ble_eq_true rfl) dL_isTrain_2 ⟨Nat.le_of_ble_eq_true rfl, Nat.le_of_ble_eq_true rfl⟩) hw (fun E h9 => absurd h9.2 (by rw [rf_ix_of (show nT ≤ 100 by omega) ht]; decide)) (fun r F1 H locs hw hp => ?_)
  refine W.widen (k := 1) (n := 6) (Nat.le_of_ble_eq_true rfl) (Nat.le_of_ble_eq_true rfl) ?_
  obtain ⟨hF1, j9, hj9, ej9, hr9⟩ := hp
  rw [hF1] at hw
  obtain rfl := nI_j (show t ≤ 1000 by omega) (by omega) ej9
  rw [hr9, ← ha9]
  refine lv_istore (lv' := [(5, .int (nI a9)), (0, .ref x), (1, .int (nI t)), (2, .int (nI (rf_P f t 2))), (3, .int (nI (rf_P f t 1))), (4, .int (nI q))]) hx hb dL_isTrain_5 hl (by decide) rfl (fun ls hl => ?_)
  refine lv_aload_n hx hb dL_isTrain_7 rfl (lv_at hl 1 rfl) ?_
  refine lv_iload_n hx hb dL_isTrain_8 rfl (lv_at hl 2 rfl) ?_
  refine fw_ask (fw_xrunV (As := [.int (nI t)]) (rest := []) C hz hcx hw (c_X8_denominator l G _ _ x lc lt lo lm lw dr (nI T) ta sl fr sa f nT (nI t) hl9 hX hT1 hTr) (fw_cwV hT wd_636 yVX8_denominator rfl rfl ⟨Nat.le_of_ble_eq_true rfl, Nat.le_of_ble_eq_true rfl⟩) (fw_rec hz hw hX (q := vwCl[9]) rfl) rfl hl.1 rfl (Nat.le_of_ble_eq_true rfl) dL_isTrain_9 ⟨Nat.le_of_ble_eq_true rfl, Nat.le_of_ble_eq_true rfl⟩) hw (fun E h9 => absurd h9.2 (by rw [rf_ix_of (show nT ≤ 100 by omega) ht]; decide)) (fun r F1 H locs hw hp => ?_)
  refine W.widen (k := 2) (n := 12) (Nat.le_of_ble_eq_true rfl) (Nat.le_of_ble_eq_true rfl) ?_
  obtain ⟨hF1, j9, hj9, ej9, hr9⟩ := hp
  rw [hF1] at hw
  obtain rfl := nI_j (show t ≤ 1000 by omega) (by omega) ej9
  rw [hr9, ← hb9]
  refine lv_istore (lv' := [(6, .int (nI b9)), (5, .int (nI a9)), (0, .ref x), (1, .int (nI t)), (2, .int (nI (rf_P f t 2))), (3, .int (nI (rf_P f t 1))), (4, .int (nI q))]) hx hb dL_isTrain_12 hl (by decide) rfl (fun ls hl => ?_)
  refine lv_iload hx hb dL_isTrain_14 (lv_at hl 1 rfl) ?_
  refine lv_iconst (v := (nI 1)) hx hb dL_isTrain_16 (by decide) ?_
  refine lv_icmp_lt (tgt := 46) hx hb dL_isTrain_17 (by decide) (fun d1 => ?_) (fun d1 => ?_)
  · have d1 := (nI_ltI (a := a9) (b := 1) (by omega) (by omega)).mp d1
    omega
  · have d1 : ¬ a9 < 1 := fun h9 => d1 ((nI_ltI (a := a9) (b := 1) (by omega) (by omega)).mpr h9)
    refine lv_iload hx hb dL_isTrain_20 (lv_at hl 0 rfl) ?_
    refine lv_iconst (v := (nI 1)) hx hb dL_isTrain_22 (by decide) ?_
    refine lv_icmp_lt (tgt := 46) hx hb dL_isTrain_23 (by decide) (fun d2 => ?_) (fun d2 => ?_)
    · have d2 := (nI_ltI (a := b9) (b := 1) (by omega) (by omega)).mp d2
      omega
    · have d2 : ¬ b9 < 1 := fun h9 => d2 ((nI_ltI (a := b9) (b := 1) (by omega) (by omega)).mpr h9)
      refine lv_iload hx hb dL_isTrain_26 (lv_at hl 1 rfl) ?_
      refine lv_i2l (v := lN a9) hx hb dL_isTrain_28 (nI_l (by omega)) ?_
      refine lv_iload_n hx hb dL_isTrain_29 rfl (lv_at hl 5 rfl) ?_
      refine lv_i2l (v := lN (rf_P f t 1)) hx hb dL_isTrain_30 (nI_l (by omega)) ?_
      refine lv_lmul hx hb dL_isTrain_31 ?_
      refine fw_topL (lN_mul _ _) ?_
      refine lv_iload hx hb dL_isTrain_32 (lv_at hl 0 rfl) ?_
      refine lv_i2l (v := lN b9) hx hb dL_isTrain_34 (nI_l (by omega)) ?_
      refine lv_iload_n hx hb dL_isTrain_35 rfl (lv_at hl 4 rfl) ?_
      refine lv_i2l (v := lN (rf_P f t 2)) hx hb dL_isTrain_36 (nI_l (by omega)) ?_
      refine lv_lmul hx hb dL_isTrain_37 ?_
      refine fw_topL (lN_mul _ _) ?_
      rw [lab]
      refine W.lcmp hx hb dL_isTrain_38 ?_
      rw [lg_cmp_self]
      refine lv_if_ne (tgt := 46) hx hb dL_isTrain_39 (by decide) (fun cx => absurd cx (fun h => h rfl)) (fun cx => ?_)
      refine lv_iconst (v := (nI 1)) hx hb dL_isTrain_42 (by decide) ?_
      refine lv_goto (tgt := 47) hx hb dL_isTrain_43 (by decide) ?_
      refine lv_istore (lv' := [(7, .int (nI 1)), (6, .int (nI b9)), (5, .int (nI a9)), (0, .ref x), (1, .int (nI t)), (2, .int (nI (rf_P f t 2))), (3, .int (nI (rf_P f t 1))), (4, .int (nI q))]) hx hb dL_isTrain_47 hl (by decide) rfl (fun ls hl => ?_)
      refine lv_iconst (v := (nI 2)) hx hb dL_isTrain_49 (by decide) ?_
      refine lv_istore (lv' := [(8, .int (nI 2)), (7, .int (nI 1)), (6, .int (nI b9)), (5, .int (nI a9)), (0, .ref x), (1, .int (nI t)), (2, .int (nI (rf_P f t 2))), (3, .int (nI (rf_P f t 1))), (4, .int (nI q))]) hx hb dL_isTrain_50 hl (by decide) rfl (fun ls hl => ?_)
      suffices hlp : ∀ (d k : Nat), k + d = 59 →  ∀ (H : Heap) (locs : List Loc) (ls : Array Slot), fw_S G A s F H locs → lv_has ls 9 [(8, .int (nI (2 + k))), (7, .int (nI 1)), (5, .int (nI a9)), (6, .int (nI b9)), (0, .ref x), (1, .int (nI t)), (2, .int (nI (rf_P f t 2))), (3, .int (nI (rf_P f t 1))), (4, .int (nI q))] → W p l e { frames := 9, cells := 11, slots := 54, locals := 166 } s m ([.ref x, .int (nI t), .int (nI (rf_P f t 2)), .int (nI (rf_P f t 1)), .int (nI q)] : List Value).toArray below meth c H locs (2) (12) (MQ below (va_Qi (fun r F1 => r = nI 1 ∧ fw_kp F F1 (fun u => u.1 = 40)) (fw_B G A) A) ([.ref x, .int (nI t), .int (nI (rf_P f t 2)), .int (nI (rf_P f t 1)), .int (nI q)] : List Value).toArray s 11 54 A) (F0 m 52 ls []) by
        exact hlp 59 0  (Nat.zero_add _)   _ _ _ hw (lv_sub hl [0, 1, 3, 2, 4, 5, 6, 7, 8] rfl)
      intro d
      induction d with
      | zero =>
        intro k  hk  H locs ls hw hl
        have hk9 : k = 59 := by omega
        refine lv_iload hx hb dL_isTrain_52 (lv_at hl 0 rfl) ?_
        refine lv_bipush (v := (nI 60)) hx hb dL_isTrain_54 (by decide) ?_
        refine lv_icmp_gt (tgt := 93) hx hb dL_isTrain_56 (by decide) (fun d => ?_) (fun d => ?_)
        · have d := (nI_ltI (a := 60) (b := 2 + k) (by omega) (by omega)).mp d
          refine lv_iload hx hb dL_isTrain_93 (lv_at hl 1 rfl) ?_
          refine lv_if_eq (tgt := 142) hx hb dL_isTrain_95 (by decide) (fun cx => absurd cx (by decide)) (fun cx => ?_)
          refine lv_aload_n hx hb dL_isTrain_98 rfl (lv_at hl 4 rfl) ?_
          refine lv_iload_n hx hb dL_isTrain_99 rfl (lv_at hl 5 rfl) ?_
          refine lv_iload hx hb dL_isTrain_100 (lv_at hl 8 rfl) ?_
          refine fw_ask (fw_xrunV (As := [.int (nI t), .int (nI q)]) (rest := []) C hz hcx hw (c_X8_turned l G _ _ x lc lt lo lm lw dr (nI T) ta sl fr sa f nT (nI t) (nI q) hl9 hX hT1 hTr hPU.1) (fw_cwV hT wd_640 yVX8_turned rfl rfl ⟨Nat.le_of_ble_eq_true rfl, Nat.le_of_ble_eq_true rfl⟩) (fw_rec hz hw hX (q := vwCl[9]) rfl) rfl hl.1 rfl (Nat.le_of_ble_eq_true rfl) dL_isTrain_102 ⟨Nat.le_of_ble_eq_true rfl, Nat.le_of_ble_eq_true rfl⟩) hw (fun E h9 => by
              rcases h9 with ⟨-, h9⟩ | ⟨-, -, h9⟩
              · rw [rf_ix_of (show nT ≤ 100 by omega) ht] at h9; cases h9
              · rw [rf_in_t.mpr ⟨nI_le (Nat.zero_le q) (by omega), nI_le hq (by decide)⟩] at h9; cases h9) (fun r F1 H locs hw hp => ?_)
          refine W.widen (k := 5) (n := 26) (Nat.le_of_ble_eq_true rfl) (Nat.le_of_ble_eq_true rfl) ?_
          obtain ⟨⟨j9, i9, hj9, ej9, hi9, ei9, hr9⟩, hk40⟩ := hp
          obtain rfl := nI_j (show t ≤ 1000 by omega) (by omega) ej9
          obtain rfl := (nI_eq (a := q) (b := i9) (by omega) (by omega)).mp ei9
          rw [hr9]
          have hkp1 : fw_kp F F1 (fun u => u.1 = 40) := hk40
          have hCL := hCL0.kp (hkp1.wk (fun t z => Or.inr z))
          obtain ⟨lc, lt, lo, lm, lw, dr, ds, dfr, ca, ta, sl, fr, oa, tr, ml, ma, ja, da, wj, sa, ms, nW, hX, hC, hT1, hTr, hO1, hK, hI, hZ, hD, htr⟩ := hCL
          refine lv_aload_n hx hb dL_isTrain_105 rfl (lv_at hl 4 rfl) ?_
          refine lv_iload_n hx hb dL_isTrain_106 rfl (lv_at hl 5 rfl) ?_
          refine lv_iload hx hb dL_isTrain_107 (lv_at hl 8 rfl) ?_
          refine fw_ask (fw_xrunV (As := [.int (nI t), .int (nI q)]) (rest := [.int (nI (q * rf_P f t 1 / rf_P f t 2))]) C hz hcx hw (c_X8_turnedByWalk l G _ _ x lc lt lo lm lw dr (nI T) ta sl fr sa f nT (nI t) (nI q) hl9 hX hT1 hTr hPU.1) (fw_cwV hT wd_656 yVX8_turnedByWalk rfl rfl ⟨Nat.le_of_ble_eq_true rfl, Nat.le_of_ble_eq_true rfl⟩) (fw_rec hz hw hX (q := vwCl[9]) rfl) rfl hl.1 rfl (Nat.le_of_ble_eq_true rfl) dL_isTrain_109 ⟨Nat.le_of_ble_eq_true rfl, Nat.le_of_ble_eq_true rfl⟩) hw (fun E h9 => by
              rcases h9 with ⟨-, h9⟩ | ⟨-, -, h9⟩
              · rw [rf_ix_of (show nT ≤ 100 by omega) ht] at h9; cases h9
              · rw [rf_in_t.mpr ⟨nI_le (Nat.zero_le q) (by omega), nI_le hq (by decide)⟩] at h9; cases h9) (fun r F2 H locs hw hp => ?_)
          refine W.widen (k := 8) (n := 40) (Nat.le_of_ble_eq_true rfl) (Nat.le_of_ble_eq_true rfl) ?_
          obtain ⟨⟨j9, i9, hj9, ej9, hi9, ei9, hr9⟩, hk40⟩ := hp
          obtain rfl := nI_j (show t ≤ 1000 by omega) (by omega) ej9
          obtain rfl := (nI_eq (a := q) (b := i9) (by omega) (by omega)).mp ei9
          rw [hr9]
          have hkp2 : fw_kp F F2 (fun u => u.1 = 40) := hkp1.tr1 hk40
          have hCL := hCL0.kp (hkp2.wk (fun t z => Or.inr z))
          obtain ⟨lc, lt, lo, lm, lw, dr, ds, dfr, ca, ta, sl, fr, oa, tr, ml, ma, ja, da, wj, sa, ms, nW, hX, hC, hT1, hTr, hO1, hK, hI, hZ, hD, htr⟩ := hCL
          refine lv_icmp_ne (tgt := 142) hx hb dL_isTrain_112 (by decide) (fun d3 => ?_) (fun d3 => ?_)
          · have d3 : ¬ (q * rf_P f t 1 / rf_P f t 2) = (q * rf_P f t 1 / rf_P f t 2) := fun h9 => d3 ((nI_eq (a := q * rf_P f t 1 / rf_P f t 2) (b := q * rf_P f t 1 / rf_P f t 2) (by omega) (by omega)).mpr h9)
            exact absurd rfl d3
          · have d3 := (nI_eq (a := q * rf_P f t 1 / rf_P f t 2) (b := q * rf_P f t 1 / rf_P f t 2) (by omega) (by omega)).mp d3
            refine lv_aload_n hx hb dL_isTrain_115 rfl (lv_at hl 4 rfl) ?_
            refine lv_iload_n hx hb dL_isTrain_116 rfl (lv_at hl 5 rfl) ?_
            refine lv_iload hx hb dL_isTrain_117 (lv_at hl 8 rfl) ?_
            refine fw_ask (fw_xrunV (As := [.int (nI t), .int (nI q)]) (rest := []) C hz hcx hw (c_X8_turned l G _ _ x lc lt lo lm lw dr (nI T) ta sl fr sa f nT (nI t) (nI q) hl9 hX hT1 hTr hPU.1) (fw_cwV hT wd_640 yVX8_turned rfl rfl ⟨Nat.le_of_ble_eq_true rfl, Nat.le_of_ble_eq_true rfl⟩) (fw_rec hz hw hX (q := vwCl[9]) rfl) rfl hl.1 rfl (Nat.le_of_ble_eq_true rfl) dL_isTrain_119 ⟨Nat.le_of_ble_eq_true rfl, Nat.le_of_ble_eq_true rfl⟩) hw (fun E h9 => by
                rcases h9 with ⟨-, h9⟩ | ⟨-, -, h9⟩
                · rw [rf_ix_of (show nT ≤ 100 by omega) ht] at h9; cases h9
                · rw [rf_in_t.mpr ⟨nI_le (Nat.zero_le q) (by omega), nI_le hq (by decide)⟩] at h9; cases h9) (fun r F3 H locs hw hp => ?_)
            refine W.widen (k := 11) (n := 54) (Nat.le_of_ble_eq_true rfl) (Nat.le_of_ble_eq_true rfl) ?_
            obtain ⟨⟨j9, i9, hj9, ej9, hi9, ei9, hr9⟩, hk40⟩ := hp
            obtain rfl := nI_j (show t ≤ 1000 by omega) (by omega) ej9
            obtain rfl := (nI_eq (a := q) (b := i9) (by omega) (by omega)).mp ei9
            rw [hr9]
            have hkp3 : fw_kp F F3 (fun u => u.1 = 40) := hkp2.tr1 hk40
            have hCL := hCL0.kp (hkp3.wk (fun t z => Or.inr z))
            obtain ⟨lc, lt, lo, lm, lw, dr, ds, dfr, ca, ta, sl, fr, oa, tr, ml, ma, ja, da, wj, sa, ms, nW, hX, hC, hT1, hTr, hO1, hK, hI, hZ, hD, htr⟩ := hCL
            refine lv_i2l (v := lN (q * rf_P f t 1 / rf_P f t 2)) hx hb dL_isTrain_122 (nI_l (by omega)) ?_
            refine lv_iload hx hb dL_isTrain_123 (lv_at hl 8 rfl) ?_
            refine lv_i2l (v := lN q) hx hb dL_isTrain_125 (nI_l (by omega)) ?_
            refine lv_iload hx hb dL_isTrain_126 (lv_at hl 3 rfl) ?_
            refine lv_i2l (v := lN b9) hx hb dL_isTrain_128 (nI_l (by omega)) ?_
            refine lv_lmul hx hb dL_isTrain_129 ?_
            refine fw_topL (lN_mul _ _) ?_
            refine lv_iload hx hb dL_isTrain_130 (lv_at hl 2 rfl) ?_
            refine lv_i2l (v := lN a9) hx hb dL_isTrain_132 (nI_l (by omega)) ?_
            have kz : ¬ lN a9 = 0 := fun h => absurd ((pk_lEQ (a := a9) (b := 0) (by omega) (by omega)).mp h) (by omega)
            refine lv_ldiv hx hb dL_isTrain_133 kz ?_
            refine fw_topL (pk_lDiv (by omega) (by omega) (by omega)) ?_
            rw [lqd]
            refine W.lcmp hx hb dL_isTrain_134 ?_
            rw [lg_cmp_self]
            refine lv_if_ne (tgt := 142) hx hb dL_isTrain_135 (by decide) (fun cx => absurd cx (fun h => h rfl)) (fun cx => ?_)
            refine lv_iconst (v := (nI 1)) hx hb dL_isTrain_138 (by decide) ?_
            refine lv_goto (tgt := 143) hx hb dL_isTrain_139 (by decide) ?_
            exact fw_zret hx hb hr (by decide) hlk (Nat.le_of_ble_eq_true rfl) (Nat.le_of_ble_eq_true rfl) hw dL_isTrain_143 (⟨rfl, hkp3⟩)
        · have d : ¬ 60 < (2 + k) := fun h9 => d ((nI_ltI (a := 60) (b := 2 + k) (by omega) (by omega)).mpr h9)
          omega
      | succ d ih =>
        intro k  hk  H locs ls hw hl
        have hk9 : k < 59 := by omega
        have hm1 := Nat.mod_lt a9 (show 0 < 2 + k by omega)
        have hm2 := Nat.mod_lt b9 (show 0 < 2 + k by omega)
        refine lv_iload hx hb dL_isTrain_52 (lv_at hl 0 rfl) ?_
        refine lv_bipush (v := (nI 60)) hx hb dL_isTrain_54 (by decide) ?_
        refine lv_icmp_gt (tgt := 93) hx hb dL_isTrain_56 (by decide) (fun d => ?_) (fun d => ?_)
        · have d := (nI_ltI (a := 60) (b := 2 + k) (by omega) (by omega)).mp d
          omega
        · have d : ¬ 60 < (2 + k) := fun h9 => d ((nI_ltI (a := 60) (b := 2 + k) (by omega) (by omega)).mpr h9)
          refine lv_iload hx hb dL_isTrain_59 (lv_at hl 1 rfl) ?_
          refine lv_if_eq (tgt := 93) hx hb dL_isTrain_61 (by decide) (fun cx => absurd cx (by decide)) (fun cx => ?_)
          refine lv_iload hx hb dL_isTrain_64 (lv_at hl 2 rfl) ?_
          refine lv_iload hx hb dL_isTrain_66 (lv_at hl 0 rfl) ?_
          refine lv_irem hx hb dL_isTrain_68 (nI_ne0 (by omega) (by omega)) ?_
          refine fw_top (x' := (nI (a9 % (2 + k)))) (pk_rem (by omega) (by omega) (by omega)) ?_
          refine lv_if_ne (tgt := 80) hx hb dL_isTrain_69 (by decide) (fun d4 => ?_) (fun d4 => ?_)
          · have d4 : ¬ (a9 % (2 + k)) = 0 := fun h9 => d4 ((nI_eq (a := a9 % (2 + k)) (b := 0) (by omega) (by omega)).mpr h9)
            refine lv_iconst (v := (nI 1)) hx hb dL_isTrain_80 (by decide) ?_
            refine lv_goto (tgt := 85) hx hb dL_isTrain_81 (by decide) ?_
            refine lv_istore (lv' := [(7, .int (nI 1)), (8, .int (nI (2 + k))), (5, .int (nI a9)), (6, .int (nI b9)), (0, .ref x), (1, .int (nI t)), (2, .int (nI (rf_P f t 2))), (3, .int (nI (rf_P f t 1))), (4, .int (nI q))]) hx hb dL_isTrain_85 hl (by decide) rfl (fun ls hl => ?_)
            refine lv_iinc (v := (nI (2 + k + 1))) (lv' := [(8, .int (nI (2 + k + 1))), (7, .int (nI 1)), (5, .int (nI a9)), (6, .int (nI b9)), (0, .ref x), (1, .int (nI t)), (2, .int (nI (rf_P f t 2))), (3, .int (nI (rf_P f t 1))), (4, .int (nI q))]) hx hb dL_isTrain_87 hl (k := 1) rfl (nI_1 _) (by decide) rfl (fun ls hl => ?_)
            refine lv_goto (tgt := 52) hx hb dL_isTrain_90 (by decide) ?_
            exact ih (k + 1)  (by omega)   _ _ _ hw (lv_sub hl [0, 1, 2, 3, 4, 5, 6, 7, 8] rfl)
          · have d4 := (nI_eq (a := a9 % (2 + k)) (b := 0) (by omega) (by omega)).mp d4
            refine lv_iload hx hb dL_isTrain_72 (lv_at hl 3 rfl) ?_
            refine lv_iload hx hb dL_isTrain_74 (lv_at hl 0 rfl) ?_
            refine lv_irem hx hb dL_isTrain_76 (nI_ne0 (by omega) (by omega)) ?_
            refine fw_top (x' := (nI (b9 % (2 + k)))) (pk_rem (by omega) (by omega) (by omega)) ?_
            refine lv_if_eq (tgt := 84) hx hb dL_isTrain_77 (by decide) (fun d5 => ?_) (fun d5 => ?_)
            · have d5 := (nI_eq (a := b9 % (2 + k)) (b := 0) (by omega) (by omega)).mp d5
              exact absurd ⟨d4, d5⟩ (lno (2 + k) (by omega))
            · have d5 : ¬ (b9 % (2 + k)) = 0 := fun h9 => d5 ((nI_eq (a := b9 % (2 + k)) (b := 0) (by omega) (by omega)).mpr h9)
              refine lv_iconst (v := (nI 1)) hx hb dL_isTrain_80 (by decide) ?_
              refine lv_goto (tgt := 85) hx hb dL_isTrain_81 (by decide) ?_
              refine lv_istore (lv' := [(7, .int (nI 1)), (8, .int (nI (2 + k))), (5, .int (nI a9)), (6, .int (nI b9)), (0, .ref x), (1, .int (nI t)), (2, .int (nI (rf_P f t 2))), (3, .int (nI (rf_P f t 1))), (4, .int (nI q))]) hx hb dL_isTrain_85 hl (by decide) rfl (fun ls hl => ?_)
              refine lv_iinc (v := (nI (2 + k + 1))) (lv' := [(8, .int (nI (2 + k + 1))), (7, .int (nI 1)), (5, .int (nI a9)), (6, .int (nI b9)), (0, .ref x), (1, .int (nI t)), (2, .int (nI (rf_P f t 2))), (3, .int (nI (rf_P f t 1))), (4, .int (nI q))]) hx hb dL_isTrain_87 hl (k := 1) rfl (nI_1 _) (by decide) rfl (fun ls hl => ?_)
              refine lv_goto (tgt := 52) hx hb dL_isTrain_90 (by decide) ?_
              exact ih (k + 1)  (by omega)   _ _ _ hw (lv_sub hl [0, 1, 2, 3, 4, 5, 6, 7, 8] rfl)
