/-! The two made: a new Cogwright, a new reference. -/
set_option maxHeartbeats 4000000 in
set_option maxRecDepth 100000 in
theorem c_X8_init (l : Launch) (G : fw_G) (F : fw_F) (sz : Nat) (x : Nat) (hF : F x = some ((50, 0, 0), fw_obj 9 [.null, .null, .null, .null, .null, .null, .int (nI 0)])) : Met l yX8_init (fw_ws yX8_init cX8_init 2 none) { frames := 7, cells := 14, slots := 752, locals := 171 } (va_Pc [.ref x] (fw_Pre G F sz)) (va_Qv (fun F1 => ∃ lc lt lo lm lw dr ds dfr am ma, cr_X F1 x lc lt lo lm lw dr (nI 0) ∧ F1 lc = some ((1, 0, 0), fw_ls (fw_ea G) 0 (fun _ => 0)) ∧ F1 lt = some ((1, 1, 0), fw_ls (fw_ea G) 0 (fun _ => 0)) ∧ F1 lo = some ((1, 2, 0), fw_ls (fw_ea G) 0 (fun _ => 0)) ∧ F1 lm = some ((1, 3, 0), fw_ls am 3 ma) ∧ F1 lw = some ((1, 4, 0), fw_ls (fw_ea G) 0 (fun _ => 0)) ∧ (∀ k, k < 3 → F1 (ma k) = some ((9, k, 0), fw_obj 4 [.int (-1), .null, .int (nI 0)])) ∧ F1 dr = some ((3, 0, 0), fw_obj 8 [.ref ds, .ref dfr, .int (nI 0)]) ∧ F1 ds = some ((13, 0, 0), fw_ls (fw_ea G) 0 (fun _ => 0)) ∧ F1 dfr = some ((33, 0, 0), fw_obj 2 [.long (lN 1), .long (lN 1)])) (fw_B G (fw_W G F sz)) (fw_W G F sz)) 14 752 (fw_W G F sz) := by
  refine fw_met (lv := [(0, .ref x)]) (by decide +kernel) (Nat.le_of_ble_eq_true rfl) rfl ?_
  intro A hA p e s m below meth c ls hx hb hml hown hT hr hlk hin hz hsz hw hAn hl
  rw [← hA]
  have hown : s.vm.findClass RX8 = some m.cls := hown
  have C : CallFix p m c cX8_init 2 s _ fw_tb RX8 := ⟨hx, hb, hml, hown, hT⟩
  refine lv_aload_n hx hb dX8_init_0 rfl (lv_at hl 0 rfl) ?_
  refine W.objInit hx hb hown (hT _ wd_30) (hT _ wd_31) (hT _ wd_32) rfl (hl.1.trans hml.symm) rfl dX8_init_1 (Nat.le_of_ble_eq_true rfl) (Nat.le_of_ble_eq_true rfl) ?_
  refine W.eq (g2 := F0 m 4 ls []) rfl ?_
  refine lv_aload_n hx hb dX8_init_4 rfl (lv_at hl 0 rfl) ?_
  have hPq0 := hw.1
  refine fw_new (1, 0, 0) (ci := 0) (fs := [.int (nI 0), .null, .int (nI 0)]) hx hb hT fi_RJx4a65c tyJx4a65c tyJx4a65c_ok hown (hT _ wd_33) (hT _ wd_34) (hT _ wd_4) hz hw hAn rfl (by intro j hj; rcases (show j = 0 ∨ j = 1 ∨ j = 2 by omega) with rfl | rfl | rfl <;> rfl) (Nat.le_of_ble_eq_true rfl) (Nat.le_of_ble_eq_true rfl) dX8_init_5 (fun lc H hqlc hw => ?_)
  refine W.widen (k := 1) (n := 3) (Nat.le_of_ble_eq_true rfl) (Nat.le_of_ble_eq_true rfl) ?_
  obtain ⟨W1, hFW1⟩ : ∃ z, z = va_up F lc (some ((1, 0, 0), fw_obj 0 [.int (nI 0), .null, .int (nI 0)])) := ⟨_, rfl⟩
  rw [← hFW1] at hw
  have k1_0 : W1 x = some ((50, 0, 0), fw_obj 9 [.null, .null, .null, .null, .null, .null, .int (nI 0)]) := by rw [hFW1]; exact fw_up_new hF hqlc
  have k1_s : W1 lc = some ((1, 0, 0), fw_obj 0 [.int (nI 0), .null, .int (nI 0)]) := by rw [hFW1]; exact fw_up_self
  refine lv_dup hx hb dX8_init_8 rfl ?_
  refine fw_callv (fw_runI (As := []) (rest := [.ref lc, .ref x]) C hz hw (c_Jx4a65c_init_da8c8 l G _ _ lc (1, 0, 0) (show 1 < 900 by decide) k1_s (by rw [hFW1]; exact fw_nb hPq0 hqlc (fun t arr n f h => by cases h))) (fw_cwI hT wd_35 yIJx4a65c_init_da8c8 rfl rfl ⟨Nat.le_of_ble_eq_true rfl, Nat.le_of_ble_eq_true rfl⟩) rfl hl.1 rfl (Nat.le_of_ble_eq_true rfl) dX8_init_9 ⟨Nat.le_of_ble_eq_true rfl, Nat.le_of_ble_eq_true rfl⟩) hw (fun F1 H locs hw hp => ?_)
  refine W.widen (k := 1) (n := 3) (Nat.le_of_ble_eq_true rfl) (Nat.le_of_ble_eq_true rfl) ?_
  rw [hp] at hw
  obtain ⟨W2, hFW2⟩ : ∃ z, z = va_up W1 lc (some ((1, 0, 0), fw_ls (fw_ea G) 0 (fun _ => 0))) := ⟨_, rfl⟩
  rw [← hFW2] at hw
  have k2_0 : W2 x = some ((50, 0, 0), fw_obj 9 [.null, .null, .null, .null, .null, .null, .int (nI 0)]) := by rw [hFW2]; exact fw_up_tag k1_0 k1_s (by intro z; cases z)
  have k2_s : W2 lc = some ((1, 0, 0), fw_ls (fw_ea G) 0 (fun _ => 0)) := by rw [hFW2]; exact fw_up_self
  refine fw_putF (v := .ref lc) (fs' := [.ref lc, .null, .null, .null, .null, .null, .int (nI 0)]) hx hb hT fi_RX8 tyX8 tyX8_ok nmX8 hown hz hw k2_0 rfl 0 (by decide) (hT _ wd_175) (fun _ h9 => h9) rfl (hin rfl) rfl (ty := tyX8 0) (by decide +kernel) rfl rfl (Nat.le_of_ble_eq_true rfl) rfl dX8_init_12 (fun H locs hw => ?_)
  obtain ⟨W3, hFW3⟩ : ∃ z, z = va_up W2 x (some ((50, 0, 0), fw_obj 9 [.ref lc, .null, .null, .null, .null, .null, .int (nI 0)])) := ⟨_, rfl⟩
  rw [← hFW3] at hw
  have k3_0 : W3 lc = some ((1, 0, 0), fw_ls (fw_ea G) 0 (fun _ => 0)) := by rw [hFW3]; exact fw_up_tag k2_s k2_0 (by intro z; cases z)
  have k3_s : W3 x = some ((50, 0, 0), fw_obj 9 [.ref lc, .null, .null, .null, .null, .null, .int (nI 0)]) := by rw [hFW3]; exact fw_up_self
  refine lv_aload_n hx hb dX8_init_15 rfl (lv_at hl 0 rfl) ?_
  have hPq1 := hw.1
  refine fw_new (1, 1, 0) (ci := 0) (fs := [.int (nI 0), .null, .int (nI 0)]) hx hb hT fi_RJx4a65c tyJx4a65c tyJx4a65c_ok hown (hT _ wd_33) (hT _ wd_34) (hT _ wd_4) hz hw hAn rfl (by intro j hj; rcases (show j = 0 ∨ j = 1 ∨ j = 2 by omega) with rfl | rfl | rfl <;> rfl) (Nat.le_of_ble_eq_true rfl) (Nat.le_of_ble_eq_true rfl) dX8_init_16 (fun lt H hqlt hw => ?_)
  refine W.widen (k := 2) (n := 6) (Nat.le_of_ble_eq_true rfl) (Nat.le_of_ble_eq_true rfl) ?_
  obtain ⟨W4, hFW4⟩ : ∃ z, z = va_up W3 lt (some ((1, 1, 0), fw_obj 0 [.int (nI 0), .null, .int (nI 0)])) := ⟨_, rfl⟩
  rw [← hFW4] at hw
  have k4_0 : W4 lc = some ((1, 0, 0), fw_ls (fw_ea G) 0 (fun _ => 0)) := by rw [hFW4]; exact fw_up_new k3_0 hqlt
  have k4_1 : W4 x = some ((50, 0, 0), fw_obj 9 [.ref lc, .null, .null, .null, .null, .null, .int (nI 0)]) := by rw [hFW4]; exact fw_up_new k3_s hqlt
  have k4_s : W4 lt = some ((1, 1, 0), fw_obj 0 [.int (nI 0), .null, .int (nI 0)]) := by rw [hFW4]; exact fw_up_self
  refine lv_dup hx hb dX8_init_19 rfl ?_
  refine fw_callv (fw_runI (As := []) (rest := [.ref lt, .ref x]) C hz hw (c_Jx4a65c_init_da8c8 l G _ _ lt (1, 1, 0) (show 1 < 900 by decide) k4_s (by rw [hFW4]; exact fw_nb hPq1 hqlt (fun t arr n f h => by cases h))) (fw_cwI hT wd_35 yIJx4a65c_init_da8c8 rfl rfl ⟨Nat.le_of_ble_eq_true rfl, Nat.le_of_ble_eq_true rfl⟩) rfl hl.1 rfl (Nat.le_of_ble_eq_true rfl) dX8_init_20 ⟨Nat.le_of_ble_eq_true rfl, Nat.le_of_ble_eq_true rfl⟩) hw (fun F1 H locs hw hp => ?_)
  refine W.widen (k := 2) (n := 6) (Nat.le_of_ble_eq_true rfl) (Nat.le_of_ble_eq_true rfl) ?_
  rw [hp] at hw
  obtain ⟨W5, hFW5⟩ : ∃ z, z = va_up W4 lt (some ((1, 1, 0), fw_ls (fw_ea G) 0 (fun _ => 0))) := ⟨_, rfl⟩
  rw [← hFW5] at hw
  have k5_0 : W5 lc = some ((1, 0, 0), fw_ls (fw_ea G) 0 (fun _ => 0)) := by rw [hFW5]; exact fw_up_tag k4_0 k4_s (by intro z; cases z)
  have k5_1 : W5 x = some ((50, 0, 0), fw_obj 9 [.ref lc, .null, .null, .null, .null, .null, .int (nI 0)]) := by rw [hFW5]; exact fw_up_tag k4_1 k4_s (by intro z; cases z)
  have k5_s : W5 lt = some ((1, 1, 0), fw_ls (fw_ea G) 0 (fun _ => 0)) := by rw [hFW5]; exact fw_up_self
  refine fw_putF (v := .ref lt) (fs' := [.ref lc, .ref lt, .null, .null, .null, .null, .int (nI 0)]) hx hb hT fi_RX8 tyX8 tyX8_ok nmX8 hown hz hw k5_1 rfl 1 (by decide) (hT _ wd_176) (fun _ h9 => h9) rfl (hin rfl) rfl (ty := tyX8 1) (by decide +kernel) rfl rfl (Nat.le_of_ble_eq_true rfl) rfl dX8_init_23 (fun H locs hw => ?_)
  obtain ⟨W6, hFW6⟩ : ∃ z, z = va_up W5 x (some ((50, 0, 0), fw_obj 9 [.ref lc, .ref lt, .null, .null, .null, .null, .int (nI 0)])) := ⟨_, rfl⟩
  rw [← hFW6] at hw
  have k6_0 : W6 lc = some ((1, 0, 0), fw_ls (fw_ea G) 0 (fun _ => 0)) := by rw [hFW6]; exact fw_up_tag k5_0 k5_1 (by intro z; cases z)
  have k6_1 : W6 lt = some ((1, 1, 0), fw_ls (fw_ea G) 0 (fun _ => 0)) := by rw [hFW6]; exact fw_up_tag k5_s k5_1 (by intro z; cases z)
  have k6_s : W6 x = some ((50, 0, 0), fw_obj 9 [.ref lc, .ref lt, .null, .null, .null, .null, .int (nI 0)]) := by rw [hFW6]; exact fw_up_self
  refine lv_aload_n hx hb dX8_init_26 rfl (lv_at hl 0 rfl) ?_
  have hPq2 := hw.1
  refine fw_new (1, 2, 0) (ci := 0) (fs := [.int (nI 0), .null, .int (nI 0)]) hx hb hT fi_RJx4a65c tyJx4a65c tyJx4a65c_ok hown (hT _ wd_33) (hT _ wd_34) (hT _ wd_4) hz hw hAn rfl (by intro j hj; rcases (show j = 0 ∨ j = 1 ∨ j = 2 by omega) with rfl | rfl | rfl <;> rfl) (Nat.le_of_ble_eq_true rfl) (Nat.le_of_ble_eq_true rfl) dX8_init_27 (fun lo H hqlo hw => ?_)
  refine W.widen (k := 3) (n := 9) (Nat.le_of_ble_eq_true rfl) (Nat.le_of_ble_eq_true rfl) ?_
  obtain ⟨W7, hFW7⟩ : ∃ z, z = va_up W6 lo (some ((1, 2, 0), fw_obj 0 [.int (nI 0), .null, .int (nI 0)])) := ⟨_, rfl⟩
  rw [← hFW7] at hw
  have k7_0 : W7 lc = some ((1, 0, 0), fw_ls (fw_ea G) 0 (fun _ => 0)) := by rw [hFW7]; exact fw_up_new k6_0 hqlo
  have k7_1 : W7 lt = some ((1, 1, 0), fw_ls (fw_ea G) 0 (fun _ => 0)) := by rw [hFW7]; exact fw_up_new k6_1 hqlo
  have k7_2 : W7 x = some ((50, 0, 0), fw_obj 9 [.ref lc, .ref lt, .null, .null, .null, .null, .int (nI 0)]) := by rw [hFW7]; exact fw_up_new k6_s hqlo
  have k7_s : W7 lo = some ((1, 2, 0), fw_obj 0 [.int (nI 0), .null, .int (nI 0)]) := by rw [hFW7]; exact fw_up_self
  refine lv_dup hx hb dX8_init_30 rfl ?_
  refine fw_callv (fw_runI (As := []) (rest := [.ref lo, .ref x]) C hz hw (c_Jx4a65c_init_da8c8 l G _ _ lo (1, 2, 0) (show 1 < 900 by decide) k7_s (by rw [hFW7]; exact fw_nb hPq2 hqlo (fun t arr n f h => by cases h))) (fw_cwI hT wd_35 yIJx4a65c_init_da8c8 rfl rfl ⟨Nat.le_of_ble_eq_true rfl, Nat.le_of_ble_eq_true rfl⟩) rfl hl.1 rfl (Nat.le_of_ble_eq_true rfl) dX8_init_31 ⟨Nat.le_of_ble_eq_true rfl, Nat.le_of_ble_eq_true rfl⟩) hw (fun F1 H locs hw hp => ?_)
  refine W.widen (k := 3) (n := 9) (Nat.le_of_ble_eq_true rfl) (Nat.le_of_ble_eq_true rfl) ?_
  rw [hp] at hw
  obtain ⟨W8, hFW8⟩ : ∃ z, z = va_up W7 lo (some ((1, 2, 0), fw_ls (fw_ea G) 0 (fun _ => 0))) := ⟨_, rfl⟩
  rw [← hFW8] at hw
  have k8_0 : W8 lc = some ((1, 0, 0), fw_ls (fw_ea G) 0 (fun _ => 0)) := by rw [hFW8]; exact fw_up_tag k7_0 k7_s (by intro z; cases z)
  have k8_1 : W8 lt = some ((1, 1, 0), fw_ls (fw_ea G) 0 (fun _ => 0)) := by rw [hFW8]; exact fw_up_tag k7_1 k7_s (by intro z; cases z)
  have k8_2 : W8 x = some ((50, 0, 0), fw_obj 9 [.ref lc, .ref lt, .null, .null, .null, .null, .int (nI 0)]) := by rw [hFW8]; exact fw_up_tag k7_2 k7_s (by intro z; cases z)
  have k8_s : W8 lo = some ((1, 2, 0), fw_ls (fw_ea G) 0 (fun _ => 0)) := by rw [hFW8]; exact fw_up_self
  refine fw_putF (v := .ref lo) (fs' := [.ref lc, .ref lt, .ref lo, .null, .null, .null, .int (nI 0)]) hx hb hT fi_RX8 tyX8 tyX8_ok nmX8 hown hz hw k8_2 rfl 2 (by decide) (hT _ wd_177) (fun _ h9 => h9) rfl (hin rfl) rfl (ty := tyX8 2) (by decide +kernel) rfl rfl (Nat.le_of_ble_eq_true rfl) rfl dX8_init_34 (fun H locs hw => ?_)
  obtain ⟨W9, hFW9⟩ : ∃ z, z = va_up W8 x (some ((50, 0, 0), fw_obj 9 [.ref lc, .ref lt, .ref lo, .null, .null, .null, .int (nI 0)])) := ⟨_, rfl⟩
  rw [← hFW9] at hw
  have k9_0 : W9 lc = some ((1, 0, 0), fw_ls (fw_ea G) 0 (fun _ => 0)) := by rw [hFW9]; exact fw_up_tag k8_0 k8_2 (by intro z; cases z)
  have k9_1 : W9 lt = some ((1, 1, 0), fw_ls (fw_ea G) 0 (fun _ => 0)) := by rw [hFW9]; exact fw_up_tag k8_1 k8_2 (by intro z; cases z)
  have k9_2 : W9 lo = some ((1, 2, 0), fw_ls (fw_ea G) 0 (fun _ => 0)) := by rw [hFW9]; exact fw_up_tag k8_s k8_2 (by intro z; cases z)
  have k9_s : W9 x = some ((50, 0, 0), fw_obj 9 [.ref lc, .ref lt, .ref lo, .null, .null, .null, .int (nI 0)]) := by rw [hFW9]; exact fw_up_self
  refine lv_aload_n hx hb dX8_init_37 rfl (lv_at hl 0 rfl) ?_
  have hPq3 := hw.1
  refine fw_new (1, 3, 0) (ci := 0) (fs := [.int (nI 0), .null, .int (nI 0)]) hx hb hT fi_RJx4a65c tyJx4a65c tyJx4a65c_ok hown (hT _ wd_33) (hT _ wd_34) (hT _ wd_4) hz hw hAn rfl (by intro j hj; rcases (show j = 0 ∨ j = 1 ∨ j = 2 by omega) with rfl | rfl | rfl <;> rfl) (Nat.le_of_ble_eq_true rfl) (Nat.le_of_ble_eq_true rfl) dX8_init_38 (fun lm H hqlm hw => ?_)
  refine W.widen (k := 4) (n := 12) (Nat.le_of_ble_eq_true rfl) (Nat.le_of_ble_eq_true rfl) ?_
  obtain ⟨W10, hFW10⟩ : ∃ z, z = va_up W9 lm (some ((1, 3, 0), fw_obj 0 [.int (nI 0), .null, .int (nI 0)])) := ⟨_, rfl⟩
  rw [← hFW10] at hw
  have k10_0 : W10 lc = some ((1, 0, 0), fw_ls (fw_ea G) 0 (fun _ => 0)) := by rw [hFW10]; exact fw_up_new k9_0 hqlm
  have k10_1 : W10 lt = some ((1, 1, 0), fw_ls (fw_ea G) 0 (fun _ => 0)) := by rw [hFW10]; exact fw_up_new k9_1 hqlm
  have k10_2 : W10 lo = some ((1, 2, 0), fw_ls (fw_ea G) 0 (fun _ => 0)) := by rw [hFW10]; exact fw_up_new k9_2 hqlm
  have k10_3 : W10 x = some ((50, 0, 0), fw_obj 9 [.ref lc, .ref lt, .ref lo, .null, .null, .null, .int (nI 0)]) := by rw [hFW10]; exact fw_up_new k9_s hqlm
  have k10_s : W10 lm = some ((1, 3, 0), fw_obj 0 [.int (nI 0), .null, .int (nI 0)]) := by rw [hFW10]; exact fw_up_self
  refine lv_dup hx hb dX8_init_41 rfl ?_
  refine fw_callv (fw_runI (As := []) (rest := [.ref lm, .ref x]) C hz hw (c_Jx4a65c_init_da8c8 l G _ _ lm (1, 3, 0) (show 1 < 900 by decide) k10_s (by rw [hFW10]; exact fw_nb hPq3 hqlm (fun t arr n f h => by cases h))) (fw_cwI hT wd_35 yIJx4a65c_init_da8c8 rfl rfl ⟨Nat.le_of_ble_eq_true rfl, Nat.le_of_ble_eq_true rfl⟩) rfl hl.1 rfl (Nat.le_of_ble_eq_true rfl) dX8_init_42 ⟨Nat.le_of_ble_eq_true rfl, Nat.le_of_ble_eq_true rfl⟩) hw (fun F1 H locs hw hp => ?_)
  refine W.widen (k := 4) (n := 12) (Nat.le_of_ble_eq_true rfl) (Nat.le_of_ble_eq_true rfl) ?_
  rw [hp] at hw
  obtain ⟨W11, hFW11⟩ : ∃ z, z = va_up W10 lm (some ((1, 3, 0), fw_ls (fw_ea G) 0 (fun _ => 0))) := ⟨_, rfl⟩
  rw [← hFW11] at hw
  have k11_0 : W11 lc = some ((1, 0, 0), fw_ls (fw_ea G) 0 (fun _ => 0)) := by rw [hFW11]; exact fw_up_tag k10_0 k10_s (by intro z; cases z)
  have k11_1 : W11 lt = some ((1, 1, 0), fw_ls (fw_ea G) 0 (fun _ => 0)) := by rw [hFW11]; exact fw_up_tag k10_1 k10_s (by intro z; cases z)
  have k11_2 : W11 lo = some ((1, 2, 0), fw_ls (fw_ea G) 0 (fun _ => 0)) := by rw [hFW11]; exact fw_up_tag k10_2 k10_s (by intro z; cases z)
  have k11_3 : W11 x = some ((50, 0, 0), fw_obj 9 [.ref lc, .ref lt, .ref lo, .null, .null, .null, .int (nI 0)]) := by rw [hFW11]; exact fw_up_tag k10_3 k10_s (by intro z; cases z)
  have k11_s : W11 lm = some ((1, 3, 0), fw_ls (fw_ea G) 0 (fun _ => 0)) := by rw [hFW11]; exact fw_up_self
  refine fw_putF (v := .ref lm) (fs' := [.ref lc, .ref lt, .ref lo, .ref lm, .null, .null, .int (nI 0)]) hx hb hT fi_RX8 tyX8 tyX8_ok nmX8 hown hz hw k11_3 rfl 3 (by decide) (hT _ wd_178) (fun _ h9 => h9) rfl (hin rfl) rfl (ty := tyX8 3) (by decide +kernel) rfl rfl (Nat.le_of_ble_eq_true rfl) rfl dX8_init_45 (fun H locs hw => ?_)
  obtain ⟨W12, hFW12⟩ : ∃ z, z = va_up W11 x (some ((50, 0, 0), fw_obj 9 [.ref lc, .ref lt, .ref lo, .ref lm, .null, .null, .int (nI 0)])) := ⟨_, rfl⟩
  rw [← hFW12] at hw
  have k12_0 : W12 lc = some ((1, 0, 0), fw_ls (fw_ea G) 0 (fun _ => 0)) := by rw [hFW12]; exact fw_up_tag k11_0 k11_3 (by intro z; cases z)
  have k12_1 : W12 lt = some ((1, 1, 0), fw_ls (fw_ea G) 0 (fun _ => 0)) := by rw [hFW12]; exact fw_up_tag k11_1 k11_3 (by intro z; cases z)
  have k12_2 : W12 lo = some ((1, 2, 0), fw_ls (fw_ea G) 0 (fun _ => 0)) := by rw [hFW12]; exact fw_up_tag k11_2 k11_3 (by intro z; cases z)
  have k12_3 : W12 lm = some ((1, 3, 0), fw_ls (fw_ea G) 0 (fun _ => 0)) := by rw [hFW12]; exact fw_up_tag k11_s k11_3 (by intro z; cases z)
  have k12_s : W12 x = some ((50, 0, 0), fw_obj 9 [.ref lc, .ref lt, .ref lo, .ref lm, .null, .null, .int (nI 0)]) := by rw [hFW12]; exact fw_up_self
  refine lv_aload_n hx hb dX8_init_48 rfl (lv_at hl 0 rfl) ?_
  have hPq4 := hw.1
  refine fw_new (1, 4, 0) (ci := 0) (fs := [.int (nI 0), .null, .int (nI 0)]) hx hb hT fi_RJx4a65c tyJx4a65c tyJx4a65c_ok hown (hT _ wd_33) (hT _ wd_34) (hT _ wd_4) hz hw hAn rfl (by intro j hj; rcases (show j = 0 ∨ j = 1 ∨ j = 2 by omega) with rfl | rfl | rfl <;> rfl) (Nat.le_of_ble_eq_true rfl) (Nat.le_of_ble_eq_true rfl) dX8_init_49 (fun lw H hqlw hw => ?_)
  refine W.widen (k := 5) (n := 15) (Nat.le_of_ble_eq_true rfl) (Nat.le_of_ble_eq_true rfl) ?_
  obtain ⟨W13, hFW13⟩ : ∃ z, z = va_up W12 lw (some ((1, 4, 0), fw_obj 0 [.int (nI 0), .null, .int (nI 0)])) := ⟨_, rfl⟩
  rw [← hFW13] at hw
  have k13_0 : W13 lc = some ((1, 0, 0), fw_ls (fw_ea G) 0 (fun _ => 0)) := by rw [hFW13]; exact fw_up_new k12_0 hqlw
  have k13_1 : W13 lt = some ((1, 1, 0), fw_ls (fw_ea G) 0 (fun _ => 0)) := by rw [hFW13]; exact fw_up_new k12_1 hqlw
  have k13_2 : W13 lo = some ((1, 2, 0), fw_ls (fw_ea G) 0 (fun _ => 0)) := by rw [hFW13]; exact fw_up_new k12_2 hqlw
  have k13_3 : W13 lm = some ((1, 3, 0), fw_ls (fw_ea G) 0 (fun _ => 0)) := by rw [hFW13]; exact fw_up_new k12_3 hqlw
  have k13_4 : W13 x = some ((50, 0, 0), fw_obj 9 [.ref lc, .ref lt, .ref lo, .ref lm, .null, .null, .int (nI 0)]) := by rw [hFW13]; exact fw_up_new k12_s hqlw
  have k13_s : W13 lw = some ((1, 4, 0), fw_obj 0 [.int (nI 0), .null, .int (nI 0)]) := by rw [hFW13]; exact fw_up_self
  refine lv_dup hx hb dX8_init_52 rfl ?_
  refine fw_callv (fw_runI (As := []) (rest := [.ref lw, .ref x]) C hz hw (c_Jx4a65c_init_da8c8 l G _ _ lw (1, 4, 0) (show 1 < 900 by decide) k13_s (by rw [hFW13]; exact fw_nb hPq4 hqlw (fun t arr n f h => by cases h))) (fw_cwI hT wd_35 yIJx4a65c_init_da8c8 rfl rfl ⟨Nat.le_of_ble_eq_true rfl, Nat.le_of_ble_eq_true rfl⟩) rfl hl.1 rfl (Nat.le_of_ble_eq_true rfl) dX8_init_53 ⟨Nat.le_of_ble_eq_true rfl, Nat.le_of_ble_eq_true rfl⟩) hw (fun F1 H locs hw hp => ?_)
  refine W.widen (k := 5) (n := 15) (Nat.le_of_ble_eq_true rfl) (Nat.le_of_ble_eq_true rfl) ?_
  rw [hp] at hw
  obtain ⟨W14, hFW14⟩ : ∃ z, z = va_up W13 lw (some ((1, 4, 0), fw_ls (fw_ea G) 0 (fun _ => 0))) := ⟨_, rfl⟩
  rw [← hFW14] at hw
  have k14_0 : W14 lc = some ((1, 0, 0), fw_ls (fw_ea G) 0 (fun _ => 0)) := by rw [hFW14]; exact fw_up_tag k13_0 k13_s (by intro z; cases z)
  have k14_1 : W14 lt = some ((1, 1, 0), fw_ls (fw_ea G) 0 (fun _ => 0)) := by rw [hFW14]; exact fw_up_tag k13_1 k13_s (by intro z; cases z)
  have k14_2 : W14 lo = some ((1, 2, 0), fw_ls (fw_ea G) 0 (fun _ => 0)) := by rw [hFW14]; exact fw_up_tag k13_2 k13_s (by intro z; cases z)
  have k14_3 : W14 lm = some ((1, 3, 0), fw_ls (fw_ea G) 0 (fun _ => 0)) := by rw [hFW14]; exact fw_up_tag k13_3 k13_s (by intro z; cases z)
  have k14_4 : W14 x = some ((50, 0, 0), fw_obj 9 [.ref lc, .ref lt, .ref lo, .ref lm, .null, .null, .int (nI 0)]) := by rw [hFW14]; exact fw_up_tag k13_4 k13_s (by intro z; cases z)
  have k14_s : W14 lw = some ((1, 4, 0), fw_ls (fw_ea G) 0 (fun _ => 0)) := by rw [hFW14]; exact fw_up_self
  refine fw_putF (v := .ref lw) (fs' := [.ref lc, .ref lt, .ref lo, .ref lm, .ref lw, .null, .int (nI 0)]) hx hb hT fi_RX8 tyX8 tyX8_ok nmX8 hown hz hw k14_4 rfl 4 (by decide) (hT _ wd_179) (fun _ h9 => h9) rfl (hin rfl) rfl (ty := tyX8 4) (by decide +kernel) rfl rfl (Nat.le_of_ble_eq_true rfl) rfl dX8_init_56 (fun H locs hw => ?_)
  obtain ⟨W15, hFW15⟩ : ∃ z, z = va_up W14 x (some ((50, 0, 0), fw_obj 9 [.ref lc, .ref lt, .ref lo, .ref lm, .ref lw, .null, .int (nI 0)])) := ⟨_, rfl⟩
  rw [← hFW15] at hw
  have k15_0 : W15 lc = some ((1, 0, 0), fw_ls (fw_ea G) 0 (fun _ => 0)) := by rw [hFW15]; exact fw_up_tag k14_0 k14_4 (by intro z; cases z)
  have k15_1 : W15 lt = some ((1, 1, 0), fw_ls (fw_ea G) 0 (fun _ => 0)) := by rw [hFW15]; exact fw_up_tag k14_1 k14_4 (by intro z; cases z)
  have k15_2 : W15 lo = some ((1, 2, 0), fw_ls (fw_ea G) 0 (fun _ => 0)) := by rw [hFW15]; exact fw_up_tag k14_2 k14_4 (by intro z; cases z)
  have k15_3 : W15 lm = some ((1, 3, 0), fw_ls (fw_ea G) 0 (fun _ => 0)) := by rw [hFW15]; exact fw_up_tag k14_3 k14_4 (by intro z; cases z)
  have k15_4 : W15 lw = some ((1, 4, 0), fw_ls (fw_ea G) 0 (fun _ => 0)) := by rw [hFW15]; exact fw_up_tag k14_s k14_4 (by intro z; cases z)
  have k15_s : W15 x = some ((50, 0, 0), fw_obj 9 [.ref lc, .ref lt, .ref lo, .ref lm, .ref lw, .null, .int (nI 0)]) := by rw [hFW15]; exact fw_up_self
  refine lv_aload_n hx hb dX8_init_59 rfl (lv_at hl 0 rfl) ?_
  refine fw_new (3, 0, 0) (ci := 8) (fs := [.null, .null, .int (nI 0)]) hx hb hT fi_RX7 tyX7 tyX7_ok hown (hT _ wd_59) (hT _ wd_60) (hT _ wd_5) hz hw hAn rfl (by intro j hj; rcases (show j = 0 ∨ j = 1 ∨ j = 2 by omega) with rfl | rfl | rfl <;> rfl) (Nat.le_of_ble_eq_true rfl) (Nat.le_of_ble_eq_true rfl) dX8_init_60 (fun b9 H hqb9 hw => ?_)
  refine W.widen (k := 6) (n := 18) (Nat.le_of_ble_eq_true rfl) (Nat.le_of_ble_eq_true rfl) ?_
  obtain ⟨W16, hFW16⟩ : ∃ z, z = va_up W15 b9 (some ((3, 0, 0), fw_obj 8 [.null, .null, .int (nI 0)])) := ⟨_, rfl⟩
  rw [← hFW16] at hw
  have k16_0 : W16 lc = some ((1, 0, 0), fw_ls (fw_ea G) 0 (fun _ => 0)) := by rw [hFW16]; exact fw_up_new k15_0 hqb9
  have k16_1 : W16 lt = some ((1, 1, 0), fw_ls (fw_ea G) 0 (fun _ => 0)) := by rw [hFW16]; exact fw_up_new k15_1 hqb9
  have k16_2 : W16 lo = some ((1, 2, 0), fw_ls (fw_ea G) 0 (fun _ => 0)) := by rw [hFW16]; exact fw_up_new k15_2 hqb9
  have k16_3 : W16 lm = some ((1, 3, 0), fw_ls (fw_ea G) 0 (fun _ => 0)) := by rw [hFW16]; exact fw_up_new k15_3 hqb9
  have k16_4 : W16 lw = some ((1, 4, 0), fw_ls (fw_ea G) 0 (fun _ => 0)) := by rw [hFW16]; exact fw_up_new k15_4 hqb9
  have k16_5 : W16 x = some ((50, 0, 0), fw_obj 9 [.ref lc, .ref lt, .ref lo, .ref lm, .ref lw, .null, .int (nI 0)]) := by rw [hFW16]; exact fw_up_new k15_s hqb9
  have k16_s : W16 b9 = some ((3, 0, 0), fw_obj 8 [.null, .null, .int (nI 0)]) := by rw [hFW16]; exact fw_up_self
  refine lv_dup hx hb dX8_init_63 rfl ?_
  refine fw_callv (fw_runIN (As := []) (rest := [.ref b9, .ref x]) C hz hw (c_X7_init l G _ _ b9 0 (3, 0, 0) k16_s) (fw_cnI hT (hz.2.2.2.2.2.2.1 _ (List.mem_of_getElem? (i := 0) rfl)) yIX7_init rfl rfl ⟨Nat.le_of_ble_eq_true rfl, Nat.le_of_ble_eq_true rfl⟩) rfl hl.1 rfl (Nat.le_of_ble_eq_true rfl) dX8_init_64 ⟨Nat.le_of_ble_eq_true rfl, Nat.le_of_ble_eq_true rfl⟩) hw (fun F2 H locs hw hp => ?_)
  refine W.widen (k := 8) (n := 23) (Nat.le_of_ble_eq_true rfl) (Nat.le_of_ble_eq_true rfl) ?_
  obtain ⟨ds, dfr, hp1, hp2, hp3, hkq⟩ := hp
  have hq_0 := hkq _ _ _ k16_0 (by simp)
  have hq_1 := hkq _ _ _ k16_1 (by simp)
  have hq_2 := hkq _ _ _ k16_2 (by simp)
  have hq_3 := hkq _ _ _ k16_3 (by simp)
  have hq_4 := hkq _ _ _ k16_4 (by simp)
  have hq_5 := hkq _ _ _ k16_5 (by simp)
  refine fw_put (v := .ref b9) (fs' := [.ref lc, .ref lt, .ref lo, .ref lm, .ref lw, .ref b9, .int (nI 0)]) hx hb hT fi_RX8 tyX8 tyX8_ok nmX8 hown hz hw hq_5 rfl 5 (by decide) (hT _ wd_180) (fun _ h9 => h9) rfl (ty := tyX8 5) (by decide +kernel) rfl rfl (Nat.le_of_ble_eq_true rfl) rfl dX8_init_67 (fun H locs hw => ?_)
  obtain ⟨W17, hFW17⟩ : ∃ z, z = va_up F2 x (some ((50, 0, 0), fw_obj 9 [.ref lc, .ref lt, .ref lo, .ref lm, .ref lw, .ref b9, .int (nI 0)])) := ⟨_, rfl⟩
  rw [← hFW17] at hw
  have k17_0 : W17 lc = some ((1, 0, 0), fw_ls (fw_ea G) 0 (fun _ => 0)) := by rw [hFW17]; exact fw_up_tag hq_0 hq_5 (by intro z; cases z)
  have k17_1 : W17 lt = some ((1, 1, 0), fw_ls (fw_ea G) 0 (fun _ => 0)) := by rw [hFW17]; exact fw_up_tag hq_1 hq_5 (by intro z; cases z)
  have k17_2 : W17 lo = some ((1, 2, 0), fw_ls (fw_ea G) 0 (fun _ => 0)) := by rw [hFW17]; exact fw_up_tag hq_2 hq_5 (by intro z; cases z)
  have k17_3 : W17 lm = some ((1, 3, 0), fw_ls (fw_ea G) 0 (fun _ => 0)) := by rw [hFW17]; exact fw_up_tag hq_3 hq_5 (by intro z; cases z)
  have k17_4 : W17 lw = some ((1, 4, 0), fw_ls (fw_ea G) 0 (fun _ => 0)) := by rw [hFW17]; exact fw_up_tag hq_4 hq_5 (by intro z; cases z)
  have k17_5 : W17 b9 = some ((3, 0, 0), fw_obj 8 [.ref ds, .ref dfr, .int (nI 0)]) := by rw [hFW17]; exact fw_up_tag hp1 hq_5 (by intro z; cases z)
  have k17_6 : W17 ds = some ((13, 0, 0), fw_ls (fw_ea G) 0 (fun _ => 0)) := by rw [hFW17]; exact fw_up_tag hp2 hq_5 (by intro z; cases z)
  have k17_7 : W17 dfr = some ((33, 0, 0), fw_obj 2 [.long (lN 1), .long (lN 1)]) := by rw [hFW17]; exact fw_up_tag hp3 hq_5 (by intro z; cases z)
  have k17_s : W17 x = some ((50, 0, 0), fw_obj 9 [.ref lc, .ref lt, .ref lo, .ref lm, .ref lw, .ref b9, .int (nI 0)]) := by rw [hFW17]; exact fw_up_self
  refine lv_aload_n hx hb dX8_init_70 rfl (lv_at hl 0 rfl) ?_
  refine lv_iconst (v := (nI 0)) hx hb dX8_init_71 (by decide) ?_
  refine fw_put (v := .int (nI 0)) (fs' := [.ref lc, .ref lt, .ref lo, .ref lm, .ref lw, .ref b9, .int (nI 0)]) hx hb hT fi_RX8 tyX8 tyX8_ok nmX8 hown hz hw k17_s rfl 6 (by decide) (hT _ wd_181) (fun _ h9 => h9) rfl (ty := tyX8 6) (by decide +kernel) rfl rfl (Nat.le_of_ble_eq_true rfl) rfl dX8_init_72 (fun H locs hw => ?_)
  obtain ⟨W18, hFW18⟩ : ∃ z, z = va_up W17 x (some ((50, 0, 0), fw_obj 9 [.ref lc, .ref lt, .ref lo, .ref lm, .ref lw, .ref b9, .int (nI 0)])) := ⟨_, rfl⟩
  rw [← hFW18] at hw
  have k18_0 : W18 lc = some ((1, 0, 0), fw_ls (fw_ea G) 0 (fun _ => 0)) := by rw [hFW18]; exact fw_up_tag k17_0 k17_s (by intro z; cases z)
  have k18_1 : W18 lt = some ((1, 1, 0), fw_ls (fw_ea G) 0 (fun _ => 0)) := by rw [hFW18]; exact fw_up_tag k17_1 k17_s (by intro z; cases z)
  have k18_2 : W18 lo = some ((1, 2, 0), fw_ls (fw_ea G) 0 (fun _ => 0)) := by rw [hFW18]; exact fw_up_tag k17_2 k17_s (by intro z; cases z)
  have k18_3 : W18 lm = some ((1, 3, 0), fw_ls (fw_ea G) 0 (fun _ => 0)) := by rw [hFW18]; exact fw_up_tag k17_3 k17_s (by intro z; cases z)
  have k18_4 : W18 lw = some ((1, 4, 0), fw_ls (fw_ea G) 0 (fun _ => 0)) := by rw [hFW18]; exact fw_up_tag k17_4 k17_s (by intro z; cases z)
  have k18_5 : W18 b9 = some ((3, 0, 0), fw_obj 8 [.ref ds, .ref dfr, .int (nI 0)]) := by rw [hFW18]; exact fw_up_tag k17_5 k17_s (by intro z; cases z)
  have k18_6 : W18 ds = some ((13, 0, 0), fw_ls (fw_ea G) 0 (fun _ => 0)) := by rw [hFW18]; exact fw_up_tag k17_6 k17_s (by intro z; cases z)
  have k18_7 : W18 dfr = some ((33, 0, 0), fw_obj 2 [.long (lN 1), .long (lN 1)]) := by rw [hFW18]; exact fw_up_tag k17_7 k17_s (by intro z; cases z)
  have k18_s : W18 x = some ((50, 0, 0), fw_obj 9 [.ref lc, .ref lt, .ref lo, .ref lm, .ref lw, .ref b9, .int (nI 0)]) := by rw [hFW18]; exact fw_up_self
  refine lv_iconst (v := (nI 0)) hx hb dX8_init_75 (by decide) ?_
  refine lv_istore_n (lv' := [(1, .int (nI 0)), (0, .ref x)]) hx hb dX8_init_76 rfl hl (by decide) rfl (fun ls hl => ?_)
  refine lv_iload_n hx hb dX8_init_77 rfl (lv_at hl 0 rfl) ?_
  refine lv_iconst (v := (nI 3)) hx hb dX8_init_78 (by decide) ?_
  refine lv_icmp_ge (tgt := 103) hx hb dX8_init_79 (by decide) (fun cx => absurd cx (by decide)) (fun cx => ?_)
  refine lv_aload_n hx hb dX8_init_82 rfl (lv_at hl 1 rfl) ?_
  refine fw_get (v := .ref lm) hx hb hT fi_RX8 hown hz hw k18_s rfl 3 (by decide) (hT _ wd_178) (fun _ h9 => h9) rfl dX8_init_83 ?_
  refine fw_new (9, 0, 0) (ci := 4) (fs := [.int (nI 0), .null, .int (nI 0)]) hx hb hT fi_RX3 tyX3 tyX3_ok hown (hT _ wd_96) (hT _ wd_97) (hT _ wd_7) hz hw hAn rfl (by intro j hj; rcases (show j = 0 ∨ j = 1 ∨ j = 2 by omega) with rfl | rfl | rfl <;> rfl) (Nat.le_of_ble_eq_true rfl) (Nat.le_of_ble_eq_true rfl) dX8_init_86 (fun p0 H hqp0 hw => ?_)
  refine W.widen (k := 9) (n := 26) (Nat.le_of_ble_eq_true rfl) (Nat.le_of_ble_eq_true rfl) ?_
  obtain ⟨W19, hFW19⟩ : ∃ z, z = va_up W18 p0 (some ((9, 0, 0), fw_obj 4 [.int (nI 0), .null, .int (nI 0)])) := ⟨_, rfl⟩
  rw [← hFW19] at hw
  have k19_0 : W19 lc = some ((1, 0, 0), fw_ls (fw_ea G) 0 (fun _ => 0)) := by rw [hFW19]; exact fw_up_new k18_0 hqp0
  have k19_1 : W19 lt = some ((1, 1, 0), fw_ls (fw_ea G) 0 (fun _ => 0)) := by rw [hFW19]; exact fw_up_new k18_1 hqp0
  have k19_2 : W19 lo = some ((1, 2, 0), fw_ls (fw_ea G) 0 (fun _ => 0)) := by rw [hFW19]; exact fw_up_new k18_2 hqp0
  have k19_3 : W19 lm = some ((1, 3, 0), fw_ls (fw_ea G) 0 (fun _ => 0)) := by rw [hFW19]; exact fw_up_new k18_3 hqp0
  have k19_4 : W19 lw = some ((1, 4, 0), fw_ls (fw_ea G) 0 (fun _ => 0)) := by rw [hFW19]; exact fw_up_new k18_4 hqp0
  have k19_5 : W19 b9 = some ((3, 0, 0), fw_obj 8 [.ref ds, .ref dfr, .int (nI 0)]) := by rw [hFW19]; exact fw_up_new k18_5 hqp0
  have k19_6 : W19 ds = some ((13, 0, 0), fw_ls (fw_ea G) 0 (fun _ => 0)) := by rw [hFW19]; exact fw_up_new k18_6 hqp0
  have k19_7 : W19 dfr = some ((33, 0, 0), fw_obj 2 [.long (lN 1), .long (lN 1)]) := by rw [hFW19]; exact fw_up_new k18_7 hqp0
  have k19_8 : W19 x = some ((50, 0, 0), fw_obj 9 [.ref lc, .ref lt, .ref lo, .ref lm, .ref lw, .ref b9, .int (nI 0)]) := by rw [hFW19]; exact fw_up_new k18_s hqp0
  have k19_s : W19 p0 = some ((9, 0, 0), fw_obj 4 [.int (nI 0), .null, .int (nI 0)]) := by rw [hFW19]; exact fw_up_self
  refine lv_dup hx hb dX8_init_89 rfl ?_
  refine fw_callv (fw_runIN (As := []) (rest := [.ref p0, .ref lm]) C hz hw (c_X3_init l G _ _ p0 (9, 0, 0) k19_s) (fw_cnI hT (hz.2.2.2.2.2.2.1 _ (List.mem_of_getElem? (i := 1) rfl)) yIX3_init rfl rfl ⟨Nat.le_of_ble_eq_true rfl, Nat.le_of_ble_eq_true rfl⟩) rfl hl.1 rfl (Nat.le_of_ble_eq_true rfl) dX8_init_90 ⟨Nat.le_of_ble_eq_true rfl, Nat.le_of_ble_eq_true rfl⟩) hw (fun F1 H locs hw hp => ?_)
  refine W.widen (k := 9) (n := 26) (Nat.le_of_ble_eq_true rfl) (Nat.le_of_ble_eq_true rfl) ?_
  rw [hp] at hw
  obtain ⟨W20, hFW20⟩ : ∃ z, z = va_up W19 p0 (some ((9, 0, 0), fw_obj 4 [.int (-1), .null, .int (nI 0)])) := ⟨_, rfl⟩
  rw [← hFW20] at hw
  have k20_0 : W20 lc = some ((1, 0, 0), fw_ls (fw_ea G) 0 (fun _ => 0)) := by rw [hFW20]; exact fw_up_tag k19_0 k19_s (by intro z; cases z)
  have k20_1 : W20 lt = some ((1, 1, 0), fw_ls (fw_ea G) 0 (fun _ => 0)) := by rw [hFW20]; exact fw_up_tag k19_1 k19_s (by intro z; cases z)
  have k20_2 : W20 lo = some ((1, 2, 0), fw_ls (fw_ea G) 0 (fun _ => 0)) := by rw [hFW20]; exact fw_up_tag k19_2 k19_s (by intro z; cases z)
  have k20_3 : W20 lm = some ((1, 3, 0), fw_ls (fw_ea G) 0 (fun _ => 0)) := by rw [hFW20]; exact fw_up_tag k19_3 k19_s (by intro z; cases z)
  have k20_4 : W20 lw = some ((1, 4, 0), fw_ls (fw_ea G) 0 (fun _ => 0)) := by rw [hFW20]; exact fw_up_tag k19_4 k19_s (by intro z; cases z)
  have k20_5 : W20 b9 = some ((3, 0, 0), fw_obj 8 [.ref ds, .ref dfr, .int (nI 0)]) := by rw [hFW20]; exact fw_up_tag k19_5 k19_s (by intro z; cases z)
  have k20_6 : W20 ds = some ((13, 0, 0), fw_ls (fw_ea G) 0 (fun _ => 0)) := by rw [hFW20]; exact fw_up_tag k19_6 k19_s (by intro z; cases z)
  have k20_7 : W20 dfr = some ((33, 0, 0), fw_obj 2 [.long (lN 1), .long (lN 1)]) := by rw [hFW20]; exact fw_up_tag k19_7 k19_s (by intro z; cases z)
  have k20_8 : W20 x = some ((50, 0, 0), fw_obj 9 [.ref lc, .ref lt, .ref lo, .ref lm, .ref lw, .ref b9, .int (nI 0)]) := by rw [hFW20]; exact fw_up_tag k19_8 k19_s (by intro z; cases z)
  have k20_s : W20 p0 = some ((9, 0, 0), fw_obj 4 [.int (-1), .null, .int (nI 0)]) := by rw [hFW20]; exact fw_up_self
  refine fw_calli (fw_runV (As := [.ref p0]) (rest := []) C hz hw (c_Jx4a65c_add_9ea2d l G _ _ lm (fw_ea G) 0 (1, 3, 0) (fun _ => 0) p0 4 (9, 0, 0) _ (by decide) k20_3 (by decide) k20_s) (fw_cwV hT wd_115 yVJx4a65c_add_9ea2d rfl rfl ⟨Nat.le_of_ble_eq_true rfl, Nat.le_of_ble_eq_true rfl⟩) (fw_recL hz hw k20_3) rfl hl.1 rfl (Nat.le_of_ble_eq_true rfl) dX8_init_93 ⟨Nat.le_of_ble_eq_true rfl, Nat.le_of_ble_eq_true rfl⟩) hw (fun r F1 H locs hw hp => ?_)
  refine W.widen (k := 10) (n := 266) (Nat.le_of_ble_eq_true rfl) (Nat.le_of_ble_eq_true rfl) ?_
  obtain ⟨rfl, r0, hp⟩ := hp
  rw [hp] at hw
  obtain ⟨W21, hFW21⟩ : ∃ z, z = va_up W20 lm (some ((1, 3, 0), fw_ls r0 1 (va_up (fun _ => 0) 0 p0))) := ⟨_, rfl⟩
  rw [← hFW21] at hw
  have k21_0 : W21 lc = some ((1, 0, 0), fw_ls (fw_ea G) 0 (fun _ => 0)) := by rw [hFW21]; exact fw_up_tag k20_0 k20_3 (by intro z; cases z)
  have k21_1 : W21 lt = some ((1, 1, 0), fw_ls (fw_ea G) 0 (fun _ => 0)) := by rw [hFW21]; exact fw_up_tag k20_1 k20_3 (by intro z; cases z)
  have k21_2 : W21 lo = some ((1, 2, 0), fw_ls (fw_ea G) 0 (fun _ => 0)) := by rw [hFW21]; exact fw_up_tag k20_2 k20_3 (by intro z; cases z)
  have k21_3 : W21 lw = some ((1, 4, 0), fw_ls (fw_ea G) 0 (fun _ => 0)) := by rw [hFW21]; exact fw_up_tag k20_4 k20_3 (by intro z; cases z)
  have k21_4 : W21 b9 = some ((3, 0, 0), fw_obj 8 [.ref ds, .ref dfr, .int (nI 0)]) := by rw [hFW21]; exact fw_up_tag k20_5 k20_3 (by intro z; cases z)
  have k21_5 : W21 ds = some ((13, 0, 0), fw_ls (fw_ea G) 0 (fun _ => 0)) := by rw [hFW21]; exact fw_up_tag k20_6 k20_3 (by intro z; cases z)
  have k21_6 : W21 dfr = some ((33, 0, 0), fw_obj 2 [.long (lN 1), .long (lN 1)]) := by rw [hFW21]; exact fw_up_tag k20_7 k20_3 (by intro z; cases z)
  have k21_7 : W21 x = some ((50, 0, 0), fw_obj 9 [.ref lc, .ref lt, .ref lo, .ref lm, .ref lw, .ref b9, .int (nI 0)]) := by rw [hFW21]; exact fw_up_tag k20_8 k20_3 (by intro z; cases z)
  have k21_8 : W21 p0 = some ((9, 0, 0), fw_obj 4 [.int (-1), .null, .int (nI 0)]) := by rw [hFW21]; exact fw_up_tag k20_s k20_3 (by intro z; cases z)
  have k21_s : W21 lm = some ((1, 3, 0), fw_ls r0 1 (va_up (fun _ => 0) 0 p0)) := by rw [hFW21]; exact fw_up_self
  refine lv_pop hx hb dX8_init_96 rfl ?_
  refine lv_iinc (v := (nI (0 + 1))) (lv' := [(1, .int (nI (0 + 1))), (0, .ref x)]) hx hb dX8_init_97 hl (k := 0) rfl (nI_1 _) (by decide) rfl (fun ls hl => ?_)
  refine lv_goto (tgt := 77) hx hb dX8_init_100 (by decide) ?_
  refine lv_iload_n hx hb dX8_init_77 rfl (lv_at hl 0 rfl) ?_
  refine lv_iconst (v := (nI 3)) hx hb dX8_init_78 (by decide) ?_
  refine lv_icmp_ge (tgt := 103) hx hb dX8_init_79 (by decide) (fun cx => absurd cx (by decide)) (fun cx => ?_)
  refine lv_aload_n hx hb dX8_init_82 rfl (lv_at hl 1 rfl) ?_
  refine fw_get (v := .ref lm) hx hb hT fi_RX8 hown hz hw k21_7 rfl 3 (by decide) (hT _ wd_178) (fun _ h9 => h9) rfl dX8_init_83 ?_
  refine fw_new (9, 1, 0) (ci := 4) (fs := [.int (nI 0), .null, .int (nI 0)]) hx hb hT fi_RX3 tyX3 tyX3_ok hown (hT _ wd_96) (hT _ wd_97) (hT _ wd_7) hz hw hAn rfl (by intro j hj; rcases (show j = 0 ∨ j = 1 ∨ j = 2 by omega) with rfl | rfl | rfl <;> rfl) (Nat.le_of_ble_eq_true rfl) (Nat.le_of_ble_eq_true rfl) dX8_init_86 (fun p1 H hqp1 hw => ?_)
  refine W.widen (k := 11) (n := 269) (Nat.le_of_ble_eq_true rfl) (Nat.le_of_ble_eq_true rfl) ?_
  obtain ⟨W22, hFW22⟩ : ∃ z, z = va_up W21 p1 (some ((9, 1, 0), fw_obj 4 [.int (nI 0), .null, .int (nI 0)])) := ⟨_, rfl⟩
  rw [← hFW22] at hw
  have k22_0 : W22 lc = some ((1, 0, 0), fw_ls (fw_ea G) 0 (fun _ => 0)) := by rw [hFW22]; exact fw_up_new k21_0 hqp1
  have k22_1 : W22 lt = some ((1, 1, 0), fw_ls (fw_ea G) 0 (fun _ => 0)) := by rw [hFW22]; exact fw_up_new k21_1 hqp1
  have k22_2 : W22 lo = some ((1, 2, 0), fw_ls (fw_ea G) 0 (fun _ => 0)) := by rw [hFW22]; exact fw_up_new k21_2 hqp1
  have k22_3 : W22 lw = some ((1, 4, 0), fw_ls (fw_ea G) 0 (fun _ => 0)) := by rw [hFW22]; exact fw_up_new k21_3 hqp1
  have k22_4 : W22 b9 = some ((3, 0, 0), fw_obj 8 [.ref ds, .ref dfr, .int (nI 0)]) := by rw [hFW22]; exact fw_up_new k21_4 hqp1
  have k22_5 : W22 ds = some ((13, 0, 0), fw_ls (fw_ea G) 0 (fun _ => 0)) := by rw [hFW22]; exact fw_up_new k21_5 hqp1
  have k22_6 : W22 dfr = some ((33, 0, 0), fw_obj 2 [.long (lN 1), .long (lN 1)]) := by rw [hFW22]; exact fw_up_new k21_6 hqp1
  have k22_7 : W22 x = some ((50, 0, 0), fw_obj 9 [.ref lc, .ref lt, .ref lo, .ref lm, .ref lw, .ref b9, .int (nI 0)]) := by rw [hFW22]; exact fw_up_new k21_7 hqp1
  have k22_8 : W22 p0 = some ((9, 0, 0), fw_obj 4 [.int (-1), .null, .int (nI 0)]) := by rw [hFW22]; exact fw_up_new k21_8 hqp1
  have k22_9 : W22 lm = some ((1, 3, 0), fw_ls r0 1 (va_up (fun _ => 0) 0 p0)) := by rw [hFW22]; exact fw_up_new k21_s hqp1
  have k22_s : W22 p1 = some ((9, 1, 0), fw_obj 4 [.int (nI 0), .null, .int (nI 0)]) := by rw [hFW22]; exact fw_up_self
  refine lv_dup hx hb dX8_init_89 rfl ?_
  refine fw_callv (fw_runIN (As := []) (rest := [.ref p1, .ref lm]) C hz hw (c_X3_init l G _ _ p1 (9, 1, 0) k22_s) (fw_cnI hT (hz.2.2.2.2.2.2.1 _ (List.mem_of_getElem? (i := 1) rfl)) yIX3_init rfl rfl ⟨Nat.le_of_ble_eq_true rfl, Nat.le_of_ble_eq_true rfl⟩) rfl hl.1 rfl (Nat.le_of_ble_eq_true rfl) dX8_init_90 ⟨Nat.le_of_ble_eq_true rfl, Nat.le_of_ble_eq_true rfl⟩) hw (fun F1 H locs hw hp => ?_)
  refine W.widen (k := 11) (n := 269) (Nat.le_of_ble_eq_true rfl) (Nat.le_of_ble_eq_true rfl) ?_
  rw [hp] at hw
  obtain ⟨W23, hFW23⟩ : ∃ z, z = va_up W22 p1 (some ((9, 1, 0), fw_obj 4 [.int (-1), .null, .int (nI 0)])) := ⟨_, rfl⟩
  rw [← hFW23] at hw
  have k23_0 : W23 lc = some ((1, 0, 0), fw_ls (fw_ea G) 0 (fun _ => 0)) := by rw [hFW23]; exact fw_up_tag k22_0 k22_s (by intro z; cases z)
  have k23_1 : W23 lt = some ((1, 1, 0), fw_ls (fw_ea G) 0 (fun _ => 0)) := by rw [hFW23]; exact fw_up_tag k22_1 k22_s (by intro z; cases z)
  have k23_2 : W23 lo = some ((1, 2, 0), fw_ls (fw_ea G) 0 (fun _ => 0)) := by rw [hFW23]; exact fw_up_tag k22_2 k22_s (by intro z; cases z)
  have k23_3 : W23 lw = some ((1, 4, 0), fw_ls (fw_ea G) 0 (fun _ => 0)) := by rw [hFW23]; exact fw_up_tag k22_3 k22_s (by intro z; cases z)
  have k23_4 : W23 b9 = some ((3, 0, 0), fw_obj 8 [.ref ds, .ref dfr, .int (nI 0)]) := by rw [hFW23]; exact fw_up_tag k22_4 k22_s (by intro z; cases z)
  have k23_5 : W23 ds = some ((13, 0, 0), fw_ls (fw_ea G) 0 (fun _ => 0)) := by rw [hFW23]; exact fw_up_tag k22_5 k22_s (by intro z; cases z)
  have k23_6 : W23 dfr = some ((33, 0, 0), fw_obj 2 [.long (lN 1), .long (lN 1)]) := by rw [hFW23]; exact fw_up_tag k22_6 k22_s (by intro z; cases z)
  have k23_7 : W23 x = some ((50, 0, 0), fw_obj 9 [.ref lc, .ref lt, .ref lo, .ref lm, .ref lw, .ref b9, .int (nI 0)]) := by rw [hFW23]; exact fw_up_tag k22_7 k22_s (by intro z; cases z)
  have k23_8 : W23 p0 = some ((9, 0, 0), fw_obj 4 [.int (-1), .null, .int (nI 0)]) := by rw [hFW23]; exact fw_up_tag k22_8 k22_s (by intro z; cases z)
  have k23_9 : W23 lm = some ((1, 3, 0), fw_ls r0 1 (va_up (fun _ => 0) 0 p0)) := by rw [hFW23]; exact fw_up_tag k22_9 k22_s (by intro z; cases z)
  have k23_s : W23 p1 = some ((9, 1, 0), fw_obj 4 [.int (-1), .null, .int (nI 0)]) := by rw [hFW23]; exact fw_up_self
  refine fw_calli (fw_runV (As := [.ref p1]) (rest := []) C hz hw (c_Jx4a65c_add_9ea2d l G _ _ lm r0 1 (1, 3, 0) (va_up (fun _ => 0) 0 p0) p1 4 (9, 1, 0) _ (by decide) k23_9 (by decide) k23_s) (fw_cwV hT wd_115 yVJx4a65c_add_9ea2d rfl rfl ⟨Nat.le_of_ble_eq_true rfl, Nat.le_of_ble_eq_true rfl⟩) (fw_recL hz hw k23_9) rfl hl.1 rfl (Nat.le_of_ble_eq_true rfl) dX8_init_93 ⟨Nat.le_of_ble_eq_true rfl, Nat.le_of_ble_eq_true rfl⟩) hw (fun r F1 H locs hw hp => ?_)
  refine W.widen (k := 12) (n := 509) (Nat.le_of_ble_eq_true rfl) (Nat.le_of_ble_eq_true rfl) ?_
  obtain ⟨rfl, r1, hp⟩ := hp
  rw [hp] at hw
  obtain ⟨W24, hFW24⟩ : ∃ z, z = va_up W23 lm (some ((1, 3, 0), fw_ls r1 2 (va_up (va_up (fun _ => 0) 0 p0) 1 p1))) := ⟨_, rfl⟩
  rw [← hFW24] at hw
  have k24_0 : W24 lc = some ((1, 0, 0), fw_ls (fw_ea G) 0 (fun _ => 0)) := by rw [hFW24]; exact fw_up_tag k23_0 k23_9 (by intro z; cases z)
  have k24_1 : W24 lt = some ((1, 1, 0), fw_ls (fw_ea G) 0 (fun _ => 0)) := by rw [hFW24]; exact fw_up_tag k23_1 k23_9 (by intro z; cases z)
  have k24_2 : W24 lo = some ((1, 2, 0), fw_ls (fw_ea G) 0 (fun _ => 0)) := by rw [hFW24]; exact fw_up_tag k23_2 k23_9 (by intro z; cases z)
  have k24_3 : W24 lw = some ((1, 4, 0), fw_ls (fw_ea G) 0 (fun _ => 0)) := by rw [hFW24]; exact fw_up_tag k23_3 k23_9 (by intro z; cases z)
  have k24_4 : W24 b9 = some ((3, 0, 0), fw_obj 8 [.ref ds, .ref dfr, .int (nI 0)]) := by rw [hFW24]; exact fw_up_tag k23_4 k23_9 (by intro z; cases z)
  have k24_5 : W24 ds = some ((13, 0, 0), fw_ls (fw_ea G) 0 (fun _ => 0)) := by rw [hFW24]; exact fw_up_tag k23_5 k23_9 (by intro z; cases z)
  have k24_6 : W24 dfr = some ((33, 0, 0), fw_obj 2 [.long (lN 1), .long (lN 1)]) := by rw [hFW24]; exact fw_up_tag k23_6 k23_9 (by intro z; cases z)
  have k24_7 : W24 x = some ((50, 0, 0), fw_obj 9 [.ref lc, .ref lt, .ref lo, .ref lm, .ref lw, .ref b9, .int (nI 0)]) := by rw [hFW24]; exact fw_up_tag k23_7 k23_9 (by intro z; cases z)
  have k24_8 : W24 p0 = some ((9, 0, 0), fw_obj 4 [.int (-1), .null, .int (nI 0)]) := by rw [hFW24]; exact fw_up_tag k23_8 k23_9 (by intro z; cases z)
  have k24_9 : W24 p1 = some ((9, 1, 0), fw_obj 4 [.int (-1), .null, .int (nI 0)]) := by rw [hFW24]; exact fw_up_tag k23_s k23_9 (by intro z; cases z)
  have k24_s : W24 lm = some ((1, 3, 0), fw_ls r1 2 (va_up (va_up (fun _ => 0) 0 p0) 1 p1)) := by rw [hFW24]; exact fw_up_self
  refine lv_pop hx hb dX8_init_96 rfl ?_
  refine lv_iinc (v := (nI (0 + 1 + 1))) (lv' := [(1, .int (nI (0 + 1 + 1))), (0, .ref x)]) hx hb dX8_init_97 hl (k := 0) rfl (nI_1 _) (by decide) rfl (fun ls hl => ?_)
  refine lv_goto (tgt := 77) hx hb dX8_init_100 (by decide) ?_
  refine lv_iload_n hx hb dX8_init_77 rfl (lv_at hl 0 rfl) ?_
  refine lv_iconst (v := (nI 3)) hx hb dX8_init_78 (by decide) ?_
  refine lv_icmp_ge (tgt := 103) hx hb dX8_init_79 (by decide) (fun cx => absurd cx (by decide)) (fun cx => ?_)
  refine lv_aload_n hx hb dX8_init_82 rfl (lv_at hl 1 rfl) ?_
  refine fw_get (v := .ref lm) hx hb hT fi_RX8 hown hz hw k24_7 rfl 3 (by decide) (hT _ wd_178) (fun _ h9 => h9) rfl dX8_init_83 ?_
  refine fw_new (9, 2, 0) (ci := 4) (fs := [.int (nI 0), .null, .int (nI 0)]) hx hb hT fi_RX3 tyX3 tyX3_ok hown (hT _ wd_96) (hT _ wd_97) (hT _ wd_7) hz hw hAn rfl (by intro j hj; rcases (show j = 0 ∨ j = 1 ∨ j = 2 by omega) with rfl | rfl | rfl <;> rfl) (Nat.le_of_ble_eq_true rfl) (Nat.le_of_ble_eq_true rfl) dX8_init_86 (fun p2 H hqp2 hw => ?_)
  refine W.widen (k := 13) (n := 512) (Nat.le_of_ble_eq_true rfl) (Nat.le_of_ble_eq_true rfl) ?_
  obtain ⟨W25, hFW25⟩ : ∃ z, z = va_up W24 p2 (some ((9, 2, 0), fw_obj 4 [.int (nI 0), .null, .int (nI 0)])) := ⟨_, rfl⟩
  rw [← hFW25] at hw
  have k25_0 : W25 lc = some ((1, 0, 0), fw_ls (fw_ea G) 0 (fun _ => 0)) := by rw [hFW25]; exact fw_up_new k24_0 hqp2
  have k25_1 : W25 lt = some ((1, 1, 0), fw_ls (fw_ea G) 0 (fun _ => 0)) := by rw [hFW25]; exact fw_up_new k24_1 hqp2
  have k25_2 : W25 lo = some ((1, 2, 0), fw_ls (fw_ea G) 0 (fun _ => 0)) := by rw [hFW25]; exact fw_up_new k24_2 hqp2
  have k25_3 : W25 lw = some ((1, 4, 0), fw_ls (fw_ea G) 0 (fun _ => 0)) := by rw [hFW25]; exact fw_up_new k24_3 hqp2
  have k25_4 : W25 b9 = some ((3, 0, 0), fw_obj 8 [.ref ds, .ref dfr, .int (nI 0)]) := by rw [hFW25]; exact fw_up_new k24_4 hqp2
  have k25_5 : W25 ds = some ((13, 0, 0), fw_ls (fw_ea G) 0 (fun _ => 0)) := by rw [hFW25]; exact fw_up_new k24_5 hqp2
  have k25_6 : W25 dfr = some ((33, 0, 0), fw_obj 2 [.long (lN 1), .long (lN 1)]) := by rw [hFW25]; exact fw_up_new k24_6 hqp2
  have k25_7 : W25 x = some ((50, 0, 0), fw_obj 9 [.ref lc, .ref lt, .ref lo, .ref lm, .ref lw, .ref b9, .int (nI 0)]) := by rw [hFW25]; exact fw_up_new k24_7 hqp2
  have k25_8 : W25 p0 = some ((9, 0, 0), fw_obj 4 [.int (-1), .null, .int (nI 0)]) := by rw [hFW25]; exact fw_up_new k24_8 hqp2
  have k25_9 : W25 p1 = some ((9, 1, 0), fw_obj 4 [.int (-1), .null, .int (nI 0)]) := by rw [hFW25]; exact fw_up_new k24_9 hqp2
  have k25_10 : W25 lm = some ((1, 3, 0), fw_ls r1 2 (va_up (va_up (fun _ => 0) 0 p0) 1 p1)) := by rw [hFW25]; exact fw_up_new k24_s hqp2
  have k25_s : W25 p2 = some ((9, 2, 0), fw_obj 4 [.int (nI 0), .null, .int (nI 0)]) := by rw [hFW25]; exact fw_up_self
  refine lv_dup hx hb dX8_init_89 rfl ?_
  refine fw_callv (fw_runIN (As := []) (rest := [.ref p2, .ref lm]) C hz hw (c_X3_init l G _ _ p2 (9, 2, 0) k25_s) (fw_cnI hT (hz.2.2.2.2.2.2.1 _ (List.mem_of_getElem? (i := 1) rfl)) yIX3_init rfl rfl ⟨Nat.le_of_ble_eq_true rfl, Nat.le_of_ble_eq_true rfl⟩) rfl hl.1 rfl (Nat.le_of_ble_eq_true rfl) dX8_init_90 ⟨Nat.le_of_ble_eq_true rfl, Nat.le_of_ble_eq_true rfl⟩) hw (fun F1 H locs hw hp => ?_)
  refine W.widen (k := 13) (n := 512) (Nat.le_of_ble_eq_true rfl) (Nat.le_of_ble_eq_true rfl) ?_
  rw [hp] at hw
  obtain ⟨W26, hFW26⟩ : ∃ z, z = va_up W25 p2 (some ((9, 2, 0), fw_obj 4 [.int (-1), .null, .int (nI 0)])) := ⟨_, rfl⟩
  rw [← hFW26] at hw
  have k26_0 : W26 lc = some ((1, 0, 0), fw_ls (fw_ea G) 0 (fun _ => 0)) := by rw [hFW26]; exact fw_up_tag k25_0 k25_s (by intro z; cases z)
  have k26_1 : W26 lt = some ((1, 1, 0), fw_ls (fw_ea G) 0 (fun _ => 0)) := by rw [hFW26]; exact fw_up_tag k25_1 k25_s (by intro z; cases z)
  have k26_2 : W26 lo = some ((1, 2, 0), fw_ls (fw_ea G) 0 (fun _ => 0)) := by rw [hFW26]; exact fw_up_tag k25_2 k25_s (by intro z; cases z)
  have k26_3 : W26 lw = some ((1, 4, 0), fw_ls (fw_ea G) 0 (fun _ => 0)) := by rw [hFW26]; exact fw_up_tag k25_3 k25_s (by intro z; cases z)
  have k26_4 : W26 b9 = some ((3, 0, 0), fw_obj 8 [.ref ds, .ref dfr, .int (nI 0)]) := by rw [hFW26]; exact fw_up_tag k25_4 k25_s (by intro z; cases z)
  have k26_5 : W26 ds = some ((13, 0, 0), fw_ls (fw_ea G) 0 (fun _ => 0)) := by rw [hFW26]; exact fw_up_tag k25_5 k25_s (by intro z; cases z)
  have k26_6 : W26 dfr = some ((33, 0, 0), fw_obj 2 [.long (lN 1), .long (lN 1)]) := by rw [hFW26]; exact fw_up_tag k25_6 k25_s (by intro z; cases z)
  have k26_7 : W26 x = some ((50, 0, 0), fw_obj 9 [.ref lc, .ref lt, .ref lo, .ref lm, .ref lw, .ref b9, .int (nI 0)]) := by rw [hFW26]; exact fw_up_tag k25_7 k25_s (by intro z; cases z)
  have k26_8 : W26 p0 = some ((9, 0, 0), fw_obj 4 [.int (-1), .null, .int (nI 0)]) := by rw [hFW26]; exact fw_up_tag k25_8 k25_s (by intro z; cases z)
  have k26_9 : W26 p1 = some ((9, 1, 0), fw_obj 4 [.int (-1), .null, .int (nI 0)]) := by rw [hFW26]; exact fw_up_tag k25_9 k25_s (by intro z; cases z)
  have k26_10 : W26 lm = some ((1, 3, 0), fw_ls r1 2 (va_up (va_up (fun _ => 0) 0 p0) 1 p1)) := by rw [hFW26]; exact fw_up_tag k25_10 k25_s (by intro z; cases z)
  have k26_s : W26 p2 = some ((9, 2, 0), fw_obj 4 [.int (-1), .null, .int (nI 0)]) := by rw [hFW26]; exact fw_up_self
  refine fw_calli (fw_runV (As := [.ref p2]) (rest := []) C hz hw (c_Jx4a65c_add_9ea2d l G _ _ lm r1 2 (1, 3, 0) (va_up (va_up (fun _ => 0) 0 p0) 1 p1) p2 4 (9, 2, 0) _ (by decide) k26_10 (by decide) k26_s) (fw_cwV hT wd_115 yVJx4a65c_add_9ea2d rfl rfl ⟨Nat.le_of_ble_eq_true rfl, Nat.le_of_ble_eq_true rfl⟩) (fw_recL hz hw k26_10) rfl hl.1 rfl (Nat.le_of_ble_eq_true rfl) dX8_init_93 ⟨Nat.le_of_ble_eq_true rfl, Nat.le_of_ble_eq_true rfl⟩) hw (fun r F1 H locs hw hp => ?_)
  refine W.widen (k := 14) (n := 752) (Nat.le_of_ble_eq_true rfl) (Nat.le_of_ble_eq_true rfl) ?_
  obtain ⟨rfl, r2, hp⟩ := hp
  rw [hp] at hw
  obtain ⟨W27, hFW27⟩ : ∃ z, z = va_up W26 lm (some ((1, 3, 0), fw_ls r2 3 (va_up (va_up (va_up (fun _ => 0) 0 p0) 1 p1) 2 p2))) := ⟨_, rfl⟩
  rw [← hFW27] at hw
  have k27_0 : W27 lc = some ((1, 0, 0), fw_ls (fw_ea G) 0 (fun _ => 0)) := by rw [hFW27]; exact fw_up_tag k26_0 k26_10 (by intro z; cases z)
  have k27_1 : W27 lt = some ((1, 1, 0), fw_ls (fw_ea G) 0 (fun _ => 0)) := by rw [hFW27]; exact fw_up_tag k26_1 k26_10 (by intro z; cases z)
  have k27_2 : W27 lo = some ((1, 2, 0), fw_ls (fw_ea G) 0 (fun _ => 0)) := by rw [hFW27]; exact fw_up_tag k26_2 k26_10 (by intro z; cases z)
  have k27_3 : W27 lw = some ((1, 4, 0), fw_ls (fw_ea G) 0 (fun _ => 0)) := by rw [hFW27]; exact fw_up_tag k26_3 k26_10 (by intro z; cases z)
  have k27_4 : W27 b9 = some ((3, 0, 0), fw_obj 8 [.ref ds, .ref dfr, .int (nI 0)]) := by rw [hFW27]; exact fw_up_tag k26_4 k26_10 (by intro z; cases z)
  have k27_5 : W27 ds = some ((13, 0, 0), fw_ls (fw_ea G) 0 (fun _ => 0)) := by rw [hFW27]; exact fw_up_tag k26_5 k26_10 (by intro z; cases z)
  have k27_6 : W27 dfr = some ((33, 0, 0), fw_obj 2 [.long (lN 1), .long (lN 1)]) := by rw [hFW27]; exact fw_up_tag k26_6 k26_10 (by intro z; cases z)
  have k27_7 : W27 x = some ((50, 0, 0), fw_obj 9 [.ref lc, .ref lt, .ref lo, .ref lm, .ref lw, .ref b9, .int (nI 0)]) := by rw [hFW27]; exact fw_up_tag k26_7 k26_10 (by intro z; cases z)
  have k27_8 : W27 p0 = some ((9, 0, 0), fw_obj 4 [.int (-1), .null, .int (nI 0)]) := by rw [hFW27]; exact fw_up_tag k26_8 k26_10 (by intro z; cases z)
  have k27_9 : W27 p1 = some ((9, 1, 0), fw_obj 4 [.int (-1), .null, .int (nI 0)]) := by rw [hFW27]; exact fw_up_tag k26_9 k26_10 (by intro z; cases z)
  have k27_10 : W27 p2 = some ((9, 2, 0), fw_obj 4 [.int (-1), .null, .int (nI 0)]) := by rw [hFW27]; exact fw_up_tag k26_s k26_10 (by intro z; cases z)
  have k27_s : W27 lm = some ((1, 3, 0), fw_ls r2 3 (va_up (va_up (va_up (fun _ => 0) 0 p0) 1 p1) 2 p2)) := by rw [hFW27]; exact fw_up_self
  refine lv_pop hx hb dX8_init_96 rfl ?_
  refine lv_iinc (v := (nI (0 + 1 + 1 + 1))) (lv' := [(1, .int (nI (0 + 1 + 1 + 1))), (0, .ref x)]) hx hb dX8_init_97 hl (k := 0) rfl (nI_1 _) (by decide) rfl (fun ls hl => ?_)
  refine lv_goto (tgt := 77) hx hb dX8_init_100 (by decide) ?_
  refine lv_iload_n hx hb dX8_init_77 rfl (lv_at hl 0 rfl) ?_
  refine lv_iconst (v := (nI 3)) hx hb dX8_init_78 (by decide) ?_
  refine lv_icmp_ge (tgt := 103) hx hb dX8_init_79 (by decide) (fun cx => ?_) (fun cx => absurd cx (by decide))
  exact fw_vret hx hb hr hlk (Nat.le_of_ble_eq_true rfl) (Nat.le_of_ble_eq_true rfl) hw dX8_init_103 (⟨lc, lt, lo, lm, lw, b9, ds, dfr, r2, (va_up (va_up (va_up (fun _ => 0) 0 p0) 1 p1) 2 p2), k27_7, k27_0, k27_1, k27_2, k27_s, k27_3, fun k hk => by
      rcases (show k = 0 ∨ k = 1 ∨ k = 2 by omega) with rfl | rfl | rfl
      · exact k27_8
      · exact k27_9
      · exact k27_10, k27_4, k27_5, k27_6⟩)
def cl_g0 : Nat → Int32 := upd (upd (upd (fun _ => 0) 0 (-1)) 1 (-1)) 2 (-1)
def cl_f0 : mm_A := va_up (va_up (fun _ _ => 0) 22 cl_g0) 23 cl_g0
