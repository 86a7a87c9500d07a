/-! The class: the designs. -/
def cl_in (un : Int32) (ab be one : Nat) (z : Int32) : Nat → Int32
  | 0 => z
  | k + 1 => if one * (one + k) * ab % be = 0 then cl_les (cl_in un ab be one z k) (cl_lw (cl_bit one ||| cl_bit (one + k)) un (one * (one + k) * ab / be) 13) else cl_in un ab be one z k
def cl_out (un : Int32) (ab be : Nat) : Nat → Int32
  | 0 => -1
  | k + 1 => cl_in un ab be (8 + k) (cl_out un ab be k) (13 - k)
set_option maxHeartbeats 4000000 in
set_option maxRecDepth 100000 in
theorem c_X8_leastNew (l : Launch) (G : fw_G) (F : fw_F) (sz : Nat) (x lc lt lo lm lw dr : Nat) (tm : Int32) (ca : Nat → Nat) (f : mm_A) (nC : Nat) (mo u v : Int32) (hl9 : l.stackTraces = false) (hX : cr_X F x lc lt lo lm lw dr tm) (hC : cr_C F lc ca f nC) : vx_Met l yX8_leastNew (fw_ws yX8_leastNew cX8_leastNew 10 (some (.int))) { frames := 7, cells := 1, slots := 6, locals := 120 } (va_Pc [.ref x, .int mo, .int u, .int v] (fw_PreX G F sz)) (va_Qi (fun r F1 => F1 = F ∧ (fun r => ∃ j1 j2, rf_okL mo u v = true ∧ u = nI j1 ∧ v = nI j2 ∧ 1 ≤ j1 ∧ j1 ≤ 400 ∧ 1 ≤ j2 ∧ j2 ≤ 400 ∧ r = cl_out (cl_tw f nC mo 13) j1 j2 13) r) (fw_B G (fw_W G F sz)) (fw_W G F sz)) (fw_xc G (fw_W G F sz) F (fun E => E = "java/lang/IllegalArgumentException" ∧ rf_okL mo u v = false)) 1 6 (fw_W G F sz) := by
  refine fw_metX (lv := [(0, .ref x), (1, .int mo), (2, .int u), (3, .int v)]) (by decide +kernel) (Nat.le_of_ble_eq_true rfl) rfl ?_
  intro A hA p e s m below meth c ls hx hb hml hown hT hr hlk hno hcx hz hsz hw hAn hl
  rw [← hA]
  have hown : s.vm.findClass RX8 = some m.cls := hown
  have C : CallFix p m c cX8_leastNew 10 s _ fw_tb RX8 := ⟨hx, hb, hml, hown, hT⟩
  refine lv_iload_n hx hb dX8_leastNew_0 rfl (lv_at hl 1 rfl) ?_
  refine fw_calli (fw_runS (As := [.int mo]) (rest := []) C hz hw (c_X8_isNoModule l G _ _ mo) (fw_cwS hT wd_225 ySX8_isNoModule rfl rfl ⟨Nat.le_of_ble_eq_true rfl, Nat.le_of_ble_eq_true rfl⟩) rfl hl.1 rfl (Nat.le_of_ble_eq_true rfl) dX8_leastNew_1 ⟨Nat.le_of_ble_eq_true rfl, Nat.le_of_ble_eq_true rfl⟩) hw (fun r F1 H locs hw hp => ?_)
  obtain ⟨hp0, hp⟩ := hp
  rw [hp0] at hw
  refine W.widen (k := 0) (n := 0) (Nat.le_of_ble_eq_true rfl) (Nat.le_of_ble_eq_true rfl) ?_
  subst hp
  refine lv_if_ne (tgt := 31) hx hb dX8_leastNew_4 (by decide) (fun d => ?_) (fun d => ?_)
  · have d := fw_b1 d
    have d : rf_in mo (nI 1) (nI 4) = false := by simpa using d
    exact fw_throw (ik := 57) (is := 230) (ic := 61) hx hb hl9 hown (by decide +kernel) wd_234 wd_16 hT (fw_atA hT hcx) fw_otA hz hw (List.mem_of_getElem? (i := 18) rfl) (hl.1.trans hml.symm) dX8_leastNew_31 dX8_leastNew_34 dX8_leastNew_35 dX8_leastNew_37 dX8_leastNew_40 hno ⟨Nat.le_of_ble_eq_true rfl, Nat.le_of_ble_eq_true rfl, Nat.le_of_ble_eq_true rfl, Nat.le_of_ble_eq_true rfl⟩ hlk (⟨rfl, by rw [rf_okL, d]; simp⟩) (Nat.le_of_ble_eq_true rfl) (Nat.le_of_ble_eq_true rfl)
  · have d := fw_b0 d
    have d : rf_in mo (nI 1) (nI 4) = true := by simpa using d
    refine lv_iload_n hx hb dX8_leastNew_7 rfl (lv_at hl 2 rfl) ?_
    refine lv_iconst (v := (nI 1)) hx hb dX8_leastNew_8 (by decide) ?_
    refine lv_icmp_lt (tgt := 31) hx hb dX8_leastNew_9 (by decide) (fun d1 => ?_) (fun d1 => ?_)
    · have d1 : u < nI 1 := d1
      exact fw_throw (ik := 57) (is := 230) (ic := 61) hx hb hl9 hown (by decide +kernel) wd_234 wd_16 hT (fw_atA hT hcx) fw_otA hz hw (List.mem_of_getElem? (i := 18) rfl) (hl.1.trans hml.symm) dX8_leastNew_31 dX8_leastNew_34 dX8_leastNew_35 dX8_leastNew_37 dX8_leastNew_40 hno ⟨Nat.le_of_ble_eq_true rfl, Nat.le_of_ble_eq_true rfl, Nat.le_of_ble_eq_true rfl, Nat.le_of_ble_eq_true rfl⟩ hlk (⟨rfl, by rw [rf_okL, rf_in_f1 d1]; simp⟩) (Nat.le_of_ble_eq_true rfl) (Nat.le_of_ble_eq_true rfl)
    · have d1 : ¬ u < nI 1 := d1
      refine lv_iload_n hx hb dX8_leastNew_12 rfl (lv_at hl 2 rfl) ?_
      refine lv_sipush (v := (nI 400)) hx hb dX8_leastNew_13 (by decide) ?_
      refine lv_icmp_gt (tgt := 31) hx hb dX8_leastNew_16 (by decide) (fun d2 => ?_) (fun d2 => ?_)
      · have d2 : nI 400 < u := d2
        exact fw_throw (ik := 57) (is := 230) (ic := 61) hx hb hl9 hown (by decide +kernel) wd_234 wd_16 hT (fw_atA hT hcx) fw_otA hz hw (List.mem_of_getElem? (i := 18) rfl) (hl.1.trans hml.symm) dX8_leastNew_31 dX8_leastNew_34 dX8_leastNew_35 dX8_leastNew_37 dX8_leastNew_40 hno ⟨Nat.le_of_ble_eq_true rfl, Nat.le_of_ble_eq_true rfl, Nat.le_of_ble_eq_true rfl, Nat.le_of_ble_eq_true rfl⟩ hlk (⟨rfl, by rw [rf_okL, rf_in_f2 d2]; simp⟩) (Nat.le_of_ble_eq_true rfl) (Nat.le_of_ble_eq_true rfl)
      · have d2 : ¬ nI 400 < u := d2
        refine lv_iload_n hx hb dX8_leastNew_19 rfl (lv_at hl 3 rfl) ?_
        refine lv_iconst (v := (nI 1)) hx hb dX8_leastNew_20 (by decide) ?_
        refine lv_icmp_lt (tgt := 31) hx hb dX8_leastNew_21 (by decide) (fun d3 => ?_) (fun d3 => ?_)
        · have d3 : v < nI 1 := d3
          exact fw_throw (ik := 57) (is := 230) (ic := 61) hx hb hl9 hown (by decide +kernel) wd_234 wd_16 hT (fw_atA hT hcx) fw_otA hz hw (List.mem_of_getElem? (i := 18) rfl) (hl.1.trans hml.symm) dX8_leastNew_31 dX8_leastNew_34 dX8_leastNew_35 dX8_leastNew_37 dX8_leastNew_40 hno ⟨Nat.le_of_ble_eq_true rfl, Nat.le_of_ble_eq_true rfl, Nat.le_of_ble_eq_true rfl, Nat.le_of_ble_eq_true rfl⟩ hlk (⟨rfl, by rw [rf_okL, rf_in_f1 d3]; simp⟩) (Nat.le_of_ble_eq_true rfl) (Nat.le_of_ble_eq_true rfl)
        · have d3 : ¬ v < nI 1 := d3
          refine lv_iload_n hx hb dX8_leastNew_24 rfl (lv_at hl 3 rfl) ?_
          refine lv_sipush (v := (nI 400)) hx hb dX8_leastNew_25 (by decide) ?_
          refine lv_icmp_le (tgt := 41) hx hb dX8_leastNew_28 (by decide) (fun d4 => ?_) (fun d4 => ?_)
          · have d4 : v ≤ nI 400 := d4
            have r1 : rf_in u (nI 1) (nI 400) = true := rf_in_t.mpr ⟨Int32.not_lt.mp d1, Int32.not_lt.mp d2⟩
            have r2 : rf_in v (nI 1) (nI 400) = true := rf_in_t.mpr ⟨Int32.not_lt.mp d3, d4⟩
            have hok : rf_okL mo u v = true := by rw [rf_okL, d, r1, r2]; rfl
            obtain ⟨i1, a1, a2, rfl⟩ := rf_in_n (by decide) r1
            obtain ⟨i2, b1, b2, rfl⟩ := rf_in_n (by decide) r2
            refine lv_aload_n hx hb dX8_leastNew_41 rfl (lv_at hl 0 rfl) ?_
            refine lv_iload_n hx hb dX8_leastNew_42 rfl (lv_at hl 1 rfl) ?_
            refine fw_calli (fw_runV (As := [.int mo]) (rest := []) C hz hw (c_X8_teethWithoutCutter l G _ _ x lc lt lo lm lw dr tm ca f nC mo hX hC) (fw_cwV hT wd_712 yVX8_teethWithoutCutter rfl rfl ⟨Nat.le_of_ble_eq_true rfl, Nat.le_of_ble_eq_true rfl⟩) (fw_rec hz hw hX (q := vwCl[9]) rfl) rfl hl.1 rfl (Nat.le_of_ble_eq_true rfl) dX8_leastNew_43 ⟨Nat.le_of_ble_eq_true rfl, Nat.le_of_ble_eq_true rfl⟩) hw (fun r F1 H locs hw hp => ?_)
            obtain ⟨hp0, hp⟩ := hp
            rw [hp0] at hw
            refine W.widen (k := 0) (n := 0) (Nat.le_of_ble_eq_true rfl) (Nat.le_of_ble_eq_true rfl) ?_
            subst hp
            refine lv_istore (lv' := [(4, .int (cl_tw f nC mo 13)), (0, .ref x), (1, .int mo), (2, .int (nI i1)), (3, .int (nI i2))]) hx hb dX8_leastNew_46 hl (by decide) rfl (fun ls hl => ?_)
            refine lv_iconst (v := (-1)) hx hb dX8_leastNew_48 (by decide) ?_
            refine lv_istore (lv' := [(5, .int (-1)), (4, .int (cl_tw f nC mo 13)), (0, .ref x), (1, .int mo), (2, .int (nI i1)), (3, .int (nI i2))]) hx hb dX8_leastNew_49 hl (by decide) rfl (fun ls hl => ?_)
            refine lv_bipush (v := (nI 8)) hx hb dX8_leastNew_51 (by decide) ?_
            refine lv_istore (lv' := [(6, .int (nI 8)), (5, .int (-1)), (4, .int (cl_tw f nC mo 13)), (0, .ref x), (1, .int mo), (2, .int (nI i1)), (3, .int (nI i2))]) hx hb dX8_leastNew_53 hl (by decide) rfl (fun ls hl => ?_)
            suffices hlp : ∀ (d k : Nat), k + d = 13 →  ∀ (H : Heap) (locs : List Loc) (ls : Array Slot), fw_S G A s F H locs → lv_has ls 10 [(6, .int (nI (8 + k))), (5, .int (cl_out (cl_tw f nC mo 13) i1 i2 k)), (4, .int (cl_tw f nC mo 13)), (0, .ref x), (1, .int mo), (2, .int (nI i1)), (3, .int (nI i2))] → W p l e { frames := 7, cells := 1, slots := 6, locals := 120 } s m ([.ref x, .int mo, .int (nI i1), .int (nI i2)] : List Value).toArray below meth c H locs 0 0 (vx_MQ below (va_Qi (fun r F1 => F1 = F ∧ (fun r => ∃ j1 j2, rf_okL mo (nI i1) (nI i2) = true ∧ nI i1 = nI j1 ∧ nI i2 = nI j2 ∧ 1 ≤ j1 ∧ j1 ≤ 400 ∧ 1 ≤ j2 ∧ j2 ≤ 400 ∧ r = cl_out (cl_tw f nC mo 13) j1 j2 13) r) (fw_B G A) A) (fw_xc G A F (fun E => E = "java/lang/IllegalArgumentException" ∧ rf_okL mo (nI i1) (nI i2) = false)) ([.ref x, .int mo, .int (nI i1), .int (nI i2)] : List Value).toArray s 1 6 A) (F0 m 55 ls []) by
              exact hlp 13 0  (Nat.zero_add _)   _ _ _ hw (lv_sub hl [0, 1, 2, 3, 4, 5, 6] rfl)
            intro d
            induction d with
            | zero =>
              intro k  hk  H locs ls hw hl
              refine lv_iload hx hb dX8_leastNew_55 (lv_at hl 0 rfl) ?_
              refine lv_bipush (v := (nI 20)) hx hb dX8_leastNew_57 (by decide) ?_
              refine lv_icmp_gt (tgt := 130) hx hb dX8_leastNew_59 (by decide) (fun q => ?_) (fun q => ?_)
              · have q := (nI_ltI (a := 20) (b := 8 + k) (by omega) (by omega)).mp q
                obtain rfl : k = 13 := by omega
                refine lv_iload hx hb dX8_leastNew_130 (lv_at hl 1 rfl) ?_
                refine vx_ret ?_
                exact fw_iret hx hb hr hlk (Nat.le_of_ble_eq_true rfl) (Nat.le_of_ble_eq_true rfl) hw dX8_leastNew_132 (⟨rfl, ⟨i1, i2, hok, rfl, rfl, a1, a2, b1, b2, rfl⟩⟩)
              · have q : ¬ 20 < (8 + k) := fun h9 => q ((nI_ltI (a := 20) (b := 8 + k) (by omega) (by omega)).mpr h9)
                omega
            | succ d ih =>
              intro k  hk  H locs ls hw hl
              refine lv_iload hx hb dX8_leastNew_55 (lv_at hl 0 rfl) ?_
              refine lv_bipush (v := (nI 20)) hx hb dX8_leastNew_57 (by decide) ?_
              refine lv_icmp_gt (tgt := 130) hx hb dX8_leastNew_59 (by decide) (fun q => ?_) (fun q => ?_)
              · have q := (nI_ltI (a := 20) (b := 8 + k) (by omega) (by omega)).mp q
                omega
              · have q : ¬ 20 < (8 + k) := fun h9 => q ((nI_ltI (a := 20) (b := 8 + k) (by omega) (by omega)).mpr h9)
                have ihO := ih
                have hk9 : k < 13 := by omega
                refine lv_iload hx hb dX8_leastNew_62 (lv_at hl 0 rfl) ?_
                refine lv_istore (lv' := [(7, .int (nI (8 + k))), (6, .int (nI (8 + k))), (5, .int (cl_out (cl_tw f nC mo 13) i1 i2 k)), (4, .int (cl_tw f nC mo 13)), (0, .ref x), (1, .int mo), (2, .int (nI i1)), (3, .int (nI i2))]) hx hb dX8_leastNew_64 hl (by decide) rfl (fun ls hl => ?_)
                suffices hlp : ∀ (d k2 : Nat), k2 + d = 13 - k →  ∀ (H : Heap) (locs : List Loc) (ls : Array Slot), fw_S G A s F H locs → lv_has ls 10 [(7, .int (nI (8 + k + k2))), (6, .int (nI (8 + k))), (5, .int (cl_in (cl_tw f nC mo 13) i1 i2 (8 + k) (cl_out (cl_tw f nC mo 13) i1 i2 k) k2)), (4, .int (cl_tw f nC mo 13)), (0, .ref x), (1, .int mo), (2, .int (nI i1)), (3, .int (nI i2))] → W p l e { frames := 7, cells := 1, slots := 6, locals := 120 } s m ([.ref x, .int mo, .int (nI i1), .int (nI i2)] : List Value).toArray below meth c H locs 0 0 (vx_MQ below (va_Qi (fun r F1 => F1 = F ∧ (fun r => ∃ j1 j2, rf_okL mo (nI i1) (nI i2) = true ∧ nI i1 = nI j1 ∧ nI i2 = nI j2 ∧ 1 ≤ j1 ∧ j1 ≤ 400 ∧ 1 ≤ j2 ∧ j2 ≤ 400 ∧ r = cl_out (cl_tw f nC mo 13) j1 j2 13) r) (fw_B G A) A) (fw_xc G A F (fun E => E = "java/lang/IllegalArgumentException" ∧ rf_okL mo (nI i1) (nI i2) = false)) ([.ref x, .int mo, .int (nI i1), .int (nI i2)] : List Value).toArray s 1 6 A) (F0 m 66 ls []) by
                  exact hlp (13 - k) 0  (Nat.zero_add _)   _ _ _ hw (lv_sub hl [0, 1, 2, 3, 4, 5, 6, 7] rfl)
                intro d
                induction d with
                | zero =>
                  intro k2  hk  H locs ls hw hl
                  have hk2 : k2 = 13 - k := by omega
                  refine lv_iload hx hb dX8_leastNew_66 (lv_at hl 0 rfl) ?_
                  refine lv_bipush (v := (nI 20)) hx hb dX8_leastNew_68 (by decide) ?_
                  refine lv_icmp_gt (tgt := 124) hx hb dX8_leastNew_70 (by decide) (fun q2 => ?_) (fun q2 => ?_)
                  · have q2 := (nI_ltI (a := 20) (b := 8 + k + k2) (by omega) (by omega)).mp q2
                    have e9 : cl_out (cl_tw f nC mo 13) i1 i2 (k + 1) = cl_in (cl_tw f nC mo 13) i1 i2 (8 + k) (cl_out (cl_tw f nC mo 13) i1 i2 k) k2 := by rw [hk2]; rfl
                    rw [← e9] at hl
                    refine lv_iinc (v := (nI (8 + k + 1))) (lv' := [(6, .int (nI (8 + k + 1))), (7, .int (nI (8 + k + k2))), (5, .int (cl_out (cl_tw f nC mo 13) i1 i2 (k + 1))), (4, .int (cl_tw f nC mo 13)), (0, .ref x), (1, .int mo), (2, .int (nI i1)), (3, .int (nI i2))]) hx hb dX8_leastNew_124 hl (k := 1) rfl (nI_1 _) (by decide) rfl (fun ls hl => ?_)
                    refine lv_goto (tgt := 55) hx hb dX8_leastNew_127 (by decide) ?_
                    exact ihO (k + 1) (by omega) _ _ _ hw (lv_sub hl [0, 2, 3, 4, 5, 6, 7] rfl)
                  · have q2 : ¬ 20 < (8 + k + k2) := fun h9 => q2 ((nI_ltI (a := 20) (b := 8 + k + k2) (by omega) (by omega)).mpr h9)
                    omega
                | succ d ih =>
                  intro k2  hk  H locs ls hw hl
                  have hk8 : k2 < 13 - k := by omega
                  refine lv_iload hx hb dX8_leastNew_66 (lv_at hl 0 rfl) ?_
                  refine lv_bipush (v := (nI 20)) hx hb dX8_leastNew_68 (by decide) ?_
                  refine lv_icmp_gt (tgt := 124) hx hb dX8_leastNew_70 (by decide) (fun q2 => ?_) (fun q2 => ?_)
                  · have q2 := (nI_ltI (a := 20) (b := 8 + k + k2) (by omega) (by omega)).mp q2
                    omega
                  · have q2 : ¬ 20 < (8 + k + k2) := fun h9 => q2 ((nI_ltI (a := 20) (b := 8 + k + k2) (by omega) (by omega)).mpr h9)
                    have hnd : (8 + k) * (8 + k + k2) * i1 ≤ 20 * 20 * 400 := Nat.mul_le_mul (Nat.mul_le_mul (by omega) (by omega)) a2
                    have hmd := Nat.mod_lt ((8 + k) * (8 + k + k2) * i1) (show 0 < i2 by omega)
                    have hdv := Nat.div_le_self ((8 + k) * (8 + k + k2) * i1) i2
                    refine lv_iload hx hb dX8_leastNew_73 (lv_at hl 1 rfl) ?_
                    refine lv_iload hx hb dX8_leastNew_75 (lv_at hl 0 rfl) ?_
                    refine lv_imul hx hb dX8_leastNew_77 ?_
                    refine fw_top (pk_mul _ _) ?_
                    refine lv_iload_n hx hb dX8_leastNew_78 rfl (lv_at hl 6 rfl) ?_
                    refine lv_imul hx hb dX8_leastNew_79 ?_
                    refine fw_top (pk_mul _ _) ?_
                    refine lv_istore (lv' := [(8, .int (nI (((8 + k) * (8 + k + k2)) * i1))), (7, .int (nI (8 + k + k2))), (6, .int (nI (8 + k))), (5, .int (cl_in (cl_tw f nC mo 13) i1 i2 (8 + k) (cl_out (cl_tw f nC mo 13) i1 i2 k) k2)), (4, .int (cl_tw f nC mo 13)), (0, .ref x), (1, .int mo), (2, .int (nI i1)), (3, .int (nI i2))]) hx hb dX8_leastNew_80 hl (by decide) rfl (fun ls hl => ?_)
                    refine lv_iload hx hb dX8_leastNew_82 (lv_at hl 0 rfl) ?_
                    refine lv_iload_n hx hb dX8_leastNew_84 rfl (lv_at hl 8 rfl) ?_
                    refine lv_irem hx hb dX8_leastNew_85 (nI_ne0 (by omega) (by omega)) ?_
                    refine fw_top (x' := (nI ((8 + k) * (8 + k + k2) * i1 % i2))) (pk_rem (by omega) (by omega) (by omega)) ?_
                    refine lv_if_ne (tgt := 118) hx hb dX8_leastNew_86 (by decide) (fun q3 => ?_) (fun q3 => ?_)
                    · have q3 : ¬ ((8 + k) * (8 + k + k2) * i1 % i2) = 0 := fun h9 => q3 ((nI_eq (a := (8 + k) * (8 + k + k2) * i1 % i2) (b := 0) (by omega) (by omega)).mpr h9)
                      have hy9 : cl_in (cl_tw f nC mo 13) i1 i2 (8 + k) (cl_out (cl_tw f nC mo 13) i1 i2 k) (k2 + 1) = cl_in (cl_tw f nC mo 13) i1 i2 (8 + k) (cl_out (cl_tw f nC mo 13) i1 i2 k) k2 := by rw [cl_in, if_neg q3]
                      rw [← hy9] at hl
                      refine lv_iinc (v := (nI (8 + k + k2 + 1))) (lv' := [(7, .int (nI (8 + k + k2 + 1))), (8, .int (nI (((8 + k) * (8 + k + k2)) * i1))), (6, .int (nI (8 + k))), (5, .int (cl_in (cl_tw f nC mo 13) i1 i2 (8 + k) (cl_out (cl_tw f nC mo 13) i1 i2 k) (k2 + 1))), (4, .int (cl_tw f nC mo 13)), (0, .ref x), (1, .int mo), (2, .int (nI i1)), (3, .int (nI i2))]) hx hb dX8_leastNew_118 hl (k := 1) rfl (nI_1 _) (by decide) rfl (fun ls hl => ?_)
                      refine lv_goto (tgt := 66) hx hb dX8_leastNew_121 (by decide) ?_
                      exact ih (k2 + 1)  (by omega)   _ _ _ hw (lv_sub hl [0, 2, 3, 4, 5, 6, 7, 8] rfl)
                    · have q3 := (nI_eq (a := (8 + k) * (8 + k + k2) * i1 % i2) (b := 0) (by omega) (by omega)).mp q3
                      refine lv_iconst (v := (nI 1)) hx hb dX8_leastNew_89 (by decide) ?_
                      refine lv_iload hx hb dX8_leastNew_90 (lv_at hl 2 rfl) ?_
                      refine lv_ishl hx hb dX8_leastNew_92 ?_
                      refine fw_top (x' := cl_bit (8 + k)) rfl ?_
                      refine lv_iconst (v := (nI 1)) hx hb dX8_leastNew_93 (by decide) ?_
                      refine lv_iload hx hb dX8_leastNew_94 (lv_at hl 1 rfl) ?_
                      refine lv_ishl hx hb dX8_leastNew_96 ?_
                      refine fw_top (x' := cl_bit (8 + k + k2)) rfl ?_
                      refine lv_ior hx hb dX8_leastNew_97 ?_
                      refine lv_istore (lv' := [(9, .int ((cl_bit (8 + k)) ||| (cl_bit (8 + k + k2)))), (8, .int (nI (((8 + k) * (8 + k + k2)) * i1))), (7, .int (nI (8 + k + k2))), (6, .int (nI (8 + k))), (5, .int (cl_in (cl_tw f nC mo 13) i1 i2 (8 + k) (cl_out (cl_tw f nC mo 13) i1 i2 k) k2)), (4, .int (cl_tw f nC mo 13)), (0, .ref x), (1, .int mo), (2, .int (nI i1)), (3, .int (nI i2))]) hx hb dX8_leastNew_98 hl (by decide) rfl (fun ls hl => ?_)
                      refine lv_iload hx hb dX8_leastNew_100 (lv_at hl 4 rfl) ?_
                      refine lv_iload hx hb dX8_leastNew_102 (lv_at hl 0 rfl) ?_
                      refine lv_iload hx hb dX8_leastNew_104 (lv_at hl 1 rfl) ?_
                      refine lv_iload_n hx hb dX8_leastNew_106 rfl (lv_at hl 9 rfl) ?_
                      refine lv_idiv hx hb dX8_leastNew_107 (nI_ne0 (by omega) (by omega)) ?_
                      refine fw_top (x' := (nI ((8 + k) * (8 + k + k2) * i1 / i2))) (pk_div (by omega) (by omega) (by omega)) ?_
                      refine lv_iload hx hb dX8_leastNew_108 (lv_at hl 5 rfl) ?_
                      refine fw_calli (fw_runS (As := [.int ((cl_bit (8 + k)) ||| (cl_bit (8 + k + k2))), .int (nI ((8 + k) * (8 + k + k2) * i1 / i2)), .int (cl_tw f nC mo 13)]) (rest := [.int (cl_in (cl_tw f nC mo 13) i1 i2 (8 + k) (cl_out (cl_tw f nC mo 13) i1 i2 k) k2)]) C hz hw (c_X8_leastWithDrivers l G _ _ (cl_bit (8 + k) ||| cl_bit (8 + k + k2)) (cl_tw f nC mo 13) ((8 + k) * (8 + k + k2) * i1 / i2) (by omega)) (fw_cwS hT wd_716 ySX8_leastWithDrivers rfl rfl ⟨Nat.le_of_ble_eq_true rfl, Nat.le_of_ble_eq_true rfl⟩) rfl hl.1 rfl (Nat.le_of_ble_eq_true rfl) dX8_leastNew_110 ⟨Nat.le_of_ble_eq_true rfl, Nat.le_of_ble_eq_true rfl⟩) hw (fun r F1 H locs hw hp => ?_)
                      obtain ⟨hp0, hp⟩ := hp
                      rw [hp0] at hw
                      refine W.widen (k := 0) (n := 0) (Nat.le_of_ble_eq_true rfl) (Nat.le_of_ble_eq_true rfl) ?_
                      subst hp
                      refine fw_calli (fw_runS (As := [.int (cl_in (cl_tw f nC mo 13) i1 i2 (8 + k) (cl_out (cl_tw f nC mo 13) i1 i2 k) k2), .int (cl_lw (cl_bit (8 + k) ||| cl_bit (8 + k + k2)) (cl_tw f nC mo 13) ((8 + k) * (8 + k + k2) * i1 / i2) 13)]) (rest := []) C hz hw (c_X8_lesser l G _ _ (cl_in (cl_tw f nC mo 13) i1 i2 (8 + k) (cl_out (cl_tw f nC mo 13) i1 i2 k) k2) (cl_lw (cl_bit (8 + k) ||| cl_bit (8 + k + k2)) (cl_tw f nC mo 13) ((8 + k) * (8 + k + k2) * i1 / i2) 13)) (fw_cwS hT wd_725 ySX8_lesser rfl rfl ⟨Nat.le_of_ble_eq_true rfl, Nat.le_of_ble_eq_true rfl⟩) rfl hl.1 rfl (Nat.le_of_ble_eq_true rfl) dX8_leastNew_113 ⟨Nat.le_of_ble_eq_true rfl, Nat.le_of_ble_eq_true rfl⟩) hw (fun r F1 H locs hw hp => ?_)
                      obtain ⟨hp0, hp⟩ := hp
                      rw [hp0] at hw
                      refine W.widen (k := 0) (n := 0) (Nat.le_of_ble_eq_true rfl) (Nat.le_of_ble_eq_true rfl) ?_
                      subst hp
                      refine fw_top (x' := (cl_in (cl_tw f nC mo 13) i1 i2 (8 + k) (cl_out (cl_tw f nC mo 13) i1 i2 k) (k2 + 1))) (by rw [cl_in, if_pos q3]) ?_
                      refine lv_istore (lv' := [(5, .int (cl_in (cl_tw f nC mo 13) i1 i2 (8 + k) (cl_out (cl_tw f nC mo 13) i1 i2 k) (k2 + 1))), (9, .int ((cl_bit (8 + k)) ||| (cl_bit (8 + k + k2)))), (8, .int (nI (((8 + k) * (8 + k + k2)) * i1))), (7, .int (nI (8 + k + k2))), (6, .int (nI (8 + k))), (4, .int (cl_tw f nC mo 13)), (0, .ref x), (1, .int mo), (2, .int (nI i1)), (3, .int (nI i2))]) hx hb dX8_leastNew_116 hl (by decide) rfl (fun ls hl => ?_)
                      refine lv_iinc (v := (nI (8 + k + k2 + 1))) (lv' := [(7, .int (nI (8 + k + k2 + 1))), (5, .int (cl_in (cl_tw f nC mo 13) i1 i2 (8 + k) (cl_out (cl_tw f nC mo 13) i1 i2 k) (k2 + 1))), (9, .int ((cl_bit (8 + k)) ||| (cl_bit (8 + k + k2)))), (8, .int (nI (((8 + k) * (8 + k + k2)) * i1))), (6, .int (nI (8 + k))), (4, .int (cl_tw f nC mo 13)), (0, .ref x), (1, .int mo), (2, .int (nI i1)), (3, .int (nI i2))]) hx hb dX8_leastNew_118 hl (k := 3) rfl (nI_1 _) (by decide) rfl (fun ls hl => ?_)
                      refine lv_goto (tgt := 66) hx hb dX8_leastNew_121 (by decide) ?_
                      exact ih (k2 + 1)  (by omega)   _ _ _ hw (lv_sub hl [0, 4, 1, 5, 6, 7, 8, 9] rfl)
          · have d4 : nI 400 < v := Int32.not_le.mp d4
            exact fw_throw (ik := 57) (is := 230) (ic := 61) hx hb hl9 hown (by decide +kernel) wd_234 wd_16 hT (fw_atA hT hcx) fw_otA hz hw (List.mem_of_getElem? (i := 18) rfl) (hl.1.trans hml.symm) dX8_leastNew_31 dX8_leastNew_34 dX8_leastNew_35 dX8_leastNew_37 dX8_leastNew_40 hno ⟨Nat.le_of_ble_eq_true rfl, Nat.le_of_ble_eq_true rfl, Nat.le_of_ble_eq_true rfl, Nat.le_of_ble_eq_true rfl⟩ hlk (⟨rfl, by rw [rf_okL, rf_in_f2 d4]; simp⟩) (Nat.le_of_ble_eq_true rfl) (Nat.le_of_ble_eq_true rfl)
