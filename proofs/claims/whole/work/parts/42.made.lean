/-! The two made: a new Cogwright, a new reference. -/
set_option maxHeartbeats 4000000 in
set_option maxRecDepth 100000 in
theorem c_X8_init (l : Launch) (G : fw_G) (F : fw_F) (sz : Nat) (x : Nat) (hF : F x = some ((50, 0, 0), fw_obj 9 [.null, .null, .null, .null, .null, .null, .int (nI 0)])) : Met l yX8_init (fw_ws yX8_init cX8_init 2 none) { frames := 7, cells := 14, slots := 752, locals := 171 } (va_Pc [.ref x] (fw_Pre G F sz)) (va_Qv (fun F1 => ∃ lc lt lo lm lw dr ds dfr am ma, cr_X F1 x lc lt lo lm lw dr (nI 0) ∧ F1 lc = some ((1, 0, 0), fw_ls (fw_ea G) 0 (fun _ => 0)) ∧ F1 lt = some ((1, 1, 0), fw_ls (fw_ea G) 0 (fun _ => 0)) ∧ F1 lo = some ((1, 2, 0), fw_ls (fw_ea G) 0 (fun _ => 0)) ∧ F1 lm = some ((1, 3, 0), fw_ls am 3 ma) ∧ F1 lw = some ((1, 4, 0), fw_ls (fw_ea G) 0 (fun _ => 0)) ∧ (∀ k, k < 3 → F1 (ma k) = some ((9, k, 0), fw_obj 4 [.int (-1), .null, .int (nI 0)])) ∧ F1 dr = some ((3, 0, 0), fw_obj 8 [.ref ds, .ref dfr, .int (nI 0)]) ∧ F1 ds = some ((13, 0, 0), fw_ls (fw_ea G) 0 (fun _ => 0)) ∧ F1 dfr = some ((33, 0, 0), fw_obj 2 [.long (lN 1), .long (lN 1)])) (fw_B G (fw_W G F sz)) (fw_W G F sz)) 14 752 (fw_W G F sz) := by
  refine fw_met (lv := [(0, .ref x)]) (by decide +kernel) (Nat.le_of_ble_eq_true rfl) rfl ?_
  intro A hA p e s m below meth c ls hx hb hml hown hT hr hlk hin hz hsz hw hAn hl
  rw [← hA]
  have hown : s.vm.findClass RX8 = some m.cls := hown
  have C : CallFix p m c cX8_init 2 s _ fw_tb RX8 := ⟨hx, hb, hml, hown, hT⟩
  refine lv_aload_n hx hb dX8_init_0 rfl (lv_at hl 0 rfl) ?_
  refine W.objInit hx hb hown (hT _ wd_32) (hT _ wd_33) (hT _ wd_34) rfl (hl.1.trans hml.symm) rfl dX8_init_1 (Nat.le_of_ble_eq_true rfl) (Nat.le_of_ble_eq_true rfl) ?_
  refine W.eq (g2 := F0 m 4 ls []) rfl ?_
  refine lv_aload_n hx hb dX8_init_4 rfl (lv_at hl 0 rfl) ?_
  have hPq0 := hw.1
  refine fw_new (1, 0, 0) (ci := 0) (fs := [.int (nI 0), .null, .int (nI 0)]) hx hb hT fi_RJx4a65c tyJx4a65c tyJx4a65c_ok hown (hT _ wd_35) (hT _ wd_36) (hT _ wd_4) hz hw hAn rfl (by intro j hj; rcases (show j = 0 ∨ j = 1 ∨ j = 2 by omega) with rfl | rfl | rfl <;> rfl) (Nat.le_of_ble_eq_true rfl) (Nat.le_of_ble_eq_true rfl) dX8_init_5 (fun lc H hqlc hw => ?_)
  refine W.widen (k := 1) (n := 3) (Nat.le_of_ble_eq_true rfl) (Nat.le_of_ble_eq_true rfl) ?_
  obtain ⟨W1, hFW1⟩ : ∃ z, z = va_up F lc (some ((1, 0, 0), fw_obj 0 [.int (nI 0), .null, .int (nI 0)])) := ⟨_, rfl⟩
  rw [← hFW1] at hw
  have k1_0 : W1 x = some ((50, 0, 0), fw_obj 9 [.null, .null, .null, .null, .null, .null, .int (nI 0)]) := by rw [hFW1]; exact fw_up_new hF hqlc
  have k1_s : W1 lc = some ((1, 0, 0), fw_obj 0 [.int (nI 0), .null, .int (nI 0)]) := by rw [hFW1]; exact fw_up_self
  refine lv_dup hx hb dX8_init_8 rfl ?_
  refine fw_callv (fw_runI (As := []) (rest := [.ref lc, .ref x]) C hz hw (c_Jx4a65c_init_da8c8 l G _ _ lc (1, 0, 0) (show 1 < 900 by decide) k1_s (by rw [hFW1]; exact fw_nb hPq0 hqlc (fun t arr n f h => by cases h))) (fw_cwI hT wd_37 yIJx4a65c_init_da8c8 rfl rfl ⟨Nat.le_of_ble_eq_true rfl, Nat.le_of_ble_eq_true rfl⟩) rfl hl.1 rfl (Nat.le_of_ble_eq_true rfl) dX8_init_9 ⟨Nat.le_of_ble_eq_true rfl, Nat.le_of_ble_eq_true rfl⟩) hw (fun F1 H locs hw hp => ?_)
  refine W.widen (k := 1) (n := 3) (Nat.le_of_ble_eq_true rfl) (Nat.le_of_ble_eq_true rfl) ?_
  rw [hp] at hw
  obtain ⟨W2, hFW2⟩ : ∃ z, z = va_up W1 lc (some ((1, 0, 0), fw_ls (fw_ea G) 0 (fun _ => 0))) := ⟨_, rfl⟩
  rw [← hFW2] at hw
  have k2_0 : W2 x = some ((50, 0, 0), fw_obj 9 [.null, .null, .null, .null, .null, .null, .int (nI 0)]) := by rw [hFW2]; exact fw_up_tag k1_0 k1_s (by intro z; cases z)
  have k2_s : W2 lc = some ((1, 0, 0), fw_ls (fw_ea G) 0 (fun _ => 0)) := by rw [hFW2]; exact fw_up_self
  refine fw_putF (v := .ref lc) (fs' := [.ref lc, .null, .null, .null, .null, .null, .int (nI 0)]) hx hb hT fi_RX8 tyX8 tyX8_ok nmX8 hown hz hw k2_0 rfl 0 (by decide) (hT _ wd_178) (fun _ h9 => h9) rfl (hin rfl) rfl (ty := tyX8 0) (by decide +kernel) rfl rfl (Nat.le_of_ble_eq_true rfl) rfl dX8_init_12 (fun H locs hw => ?_)
  obtain ⟨W3, hFW3⟩ : ∃ z, z = va_up W2 x (some ((50, 0, 0), fw_obj 9 [.ref lc, .null, .null, .null, .null, .null, .int (nI 0)])) := ⟨_, rfl⟩
  rw [← hFW3] at hw
  have k3_0 : W3 lc = some ((1, 0, 0), fw_ls (fw_ea G) 0 (fun _ => 0)) := by rw [hFW3]; exact fw_up_tag k2_s k2_0 (by intro z; cases z)
  have k3_s : W3 x = some ((50, 0, 0), fw_obj 9 [.ref lc, .null, .null, .null, .null, .null, .int (nI 0)]) := by rw [hFW3]; exact fw_up_self
  refine lv_aload_n hx hb dX8_init_15 rfl (lv_at hl 0 rfl) ?_
  have hPq1 := hw.1
  refine fw_new (1, 1, 0) (ci := 0) (fs := [.int (nI 0), .null, .int (nI 0)]) hx hb hT fi_RJx4a65c tyJx4a65c tyJx4a65c_ok hown (hT _ wd_35) (hT _ wd_36) (hT _ wd_4) hz hw hAn rfl (by intro j hj; rcases (show j = 0 ∨ j = 1 ∨ j = 2 by omega) with rfl | rfl | rfl <;> rfl) (Nat.le_of_ble_eq_true rfl) (Nat.le_of_ble_eq_true rfl) dX8_init_16 (fun lt H hqlt hw => ?_)
  refine W.widen (k := 2) (n := 6) (Nat.le_of_ble_eq_true rfl) (Nat.le_of_ble_eq_true rfl) ?_
  obtain ⟨W4, hFW4⟩ : ∃ z, z = va_up W3 lt (some ((1, 1, 0), fw_obj 0 [.int (nI 0), .null, .int (nI 0)])) := ⟨_, rfl⟩
  rw [← hFW4] at hw
  have k4_0 : W4 lc = some ((1, 0, 0), fw_ls (fw_ea G) 0 (fun _ => 0)) := by rw [hFW4]; exact fw_up_new k3_0 hqlt
  have k4_1 : W4 x = some ((50, 0, 0), fw_obj 9 [.ref lc, .null, .null, .null, .null, .null, .int (nI 0)]) := by rw [hFW4]; exact fw_up_new k3_s hqlt
  have k4_s : W4 lt = some ((1, 1, 0), fw_obj 0 [.int (nI 0), .null, .int (nI 0)]) := by rw [hFW4]; exact fw_up_self
  refine lv_dup hx hb dX8_init_19 rfl ?_
  refine fw_callv (fw_runI (As := []) (rest := [.ref lt, .ref x]) C hz hw (c_Jx4a65c_init_da8c8 l G _ _ lt (1, 1, 0) (show 1 < 900 by decide) k4_s (by rw [hFW4]; exact fw_nb hPq1 hqlt (fun t arr n f h => by cases h))) (fw_cwI hT wd_37 yIJx4a65c_init_da8c8 rfl rfl ⟨Nat.le_of_ble_eq_true rfl, Nat.le_of_ble_eq_true rfl⟩) rfl hl.1 rfl (Nat.le_of_ble_eq_true rfl) dX8_init_20 ⟨Nat.le_of_ble_eq_true rfl, Nat.le_of_ble_eq_true rfl⟩) hw (fun F1 H locs hw hp => ?_)
  refine W.widen (k := 2) (n := 6) (Nat.le_of_ble_eq_true rfl) (Nat.le_of_ble_eq_true rfl) ?_
  rw [hp] at hw
  obtain ⟨W5, hFW5⟩ : ∃ z, z = va_up W4 lt (some ((1, 1, 0), fw_ls (fw_ea G) 0 (fun _ => 0))) := ⟨_, rfl⟩
  rw [← hFW5] at hw
  have k5_0 : W5 lc = some ((1, 0, 0), fw_ls (fw_ea G) 0 (fun _ => 0)) := by rw [hFW5]; exact fw_up_tag k4_0 k4_s (by intro z; cases z)
  have k5_1 : W5 x = some ((50, 0, 0), fw_obj 9 [.ref lc, .null, .null, .null, .null, .null, .int (nI 0)]) := by rw [hFW5]; exact fw_up_tag k4_1 k4_s (by intro z; cases z)
  have k5_s : W5 lt = some ((1, 1, 0), fw_ls (fw_ea G) 0 (fun _ => 0)) := by rw [hFW5]; exact fw_up_self
  refine fw_putF (v := .ref lt) (fs' := [.ref lc, .ref lt, .null, .null, .null, .null, .int (nI 0)]) hx hb hT fi_RX8 tyX8 tyX8_ok nmX8 hown hz hw k5_1 rfl 1 (by decide) (hT _ wd_179) (fun _ h9 => h9) rfl (hin rfl) rfl (ty := tyX8 1) (by decide +kernel) rfl rfl (Nat.le_of_ble_eq_true rfl) rfl dX8_init_23 (fun H locs hw => ?_)
  obtain ⟨W6, hFW6⟩ : ∃ z, z = va_up W5 x (some ((50, 0, 0), fw_obj 9 [.ref lc, .ref lt, .null, .null, .null, .null, .int (nI 0)])) := ⟨_, rfl⟩
  rw [← hFW6] at hw
  have k6_0 : W6 lc = some ((1, 0, 0), fw_ls (fw_ea G) 0 (fun _ => 0)) := by rw [hFW6]; exact fw_up_tag k5_0 k5_1 (by intro z; cases z)
  have k6_1 : W6 lt = some ((1, 1, 0), fw_ls (fw_ea G) 0 (fun _ => 0)) := by rw [hFW6]; exact fw_up_tag k5_s k5_1 (by intro z; cases z)
  have k6_s : W6 x = some ((50, 0, 0), fw_obj 9 [.ref lc, .ref lt, .null, .null, .null, .null, .int (nI 0)]) := by rw [hFW6]; exact fw_up_self
  refine lv_aload_n hx hb dX8_init_26 rfl (lv_at hl 0 rfl) ?_
  have hPq2 := hw.1
  refine fw_new (1, 2, 0) (ci := 0) (fs := [.int (nI 0), .null, .int (nI 0)]) hx hb hT fi_RJx4a65c tyJx4a65c tyJx4a65c_ok hown (hT _ wd_35) (hT _ wd_36) (hT _ wd_4) hz hw hAn rfl (by intro j hj; rcases (show j = 0 ∨ j = 1 ∨ j = 2 by omega) with rfl | rfl | rfl <;> rfl) (Nat.le_of_ble_eq_true rfl) (Nat.le_of_ble_eq_true rfl) dX8_init_27 (fun lo H hqlo hw => ?_)
  refine W.widen (k := 3) (n := 9) (Nat.le_of_ble_eq_true rfl) (Nat.le_of_ble_eq_true rfl) ?_
  obtain ⟨W7, hFW7⟩ : ∃ z, z = va_up W6 lo (some ((1, 2, 0), fw_obj 0 [.int (nI 0), .null, .int (nI 0)])) := ⟨_, rfl⟩
  rw [← hFW7] at hw
  have k7_0 : W7 lc = some ((1, 0, 0), fw_ls (fw_ea G) 0 (fun _ => 0)) := by rw [hFW7]; exact fw_up_new k6_0 hqlo
  have k7_1 : W7 lt = some ((1, 1, 0), fw_ls (fw_ea G) 0 (fun _ => 0)) := by rw [hFW7]; exact fw_up_new k6_1 hqlo
  have k7_2 : W7 x = some ((50, 0, 0), fw_obj 9 [.ref lc, .ref lt, .null, .null, .null, .null, .int (nI 0)]) := by rw [hFW7]; exact fw_up_new k6_s hqlo
  have k7_s : W7 lo = some ((1, 2, 0), fw_obj 0 [.int (nI 0), .null, .int (nI 0)]) := by rw [hFW7]; exact fw_up_self
  refine lv_dup hx hb dX8_init_30 rfl ?_
  refine fw_callv (fw_runI (As := []) (rest := [.ref lo, .ref x]) C hz hw (c_Jx4a65c_init_da8c8 l G _ _ lo (1, 2, 0) (show 1 < 900 by decide) k7_s (by rw [hFW7]; exact fw_nb hPq2 hqlo (fun t arr n f h => by cases h))) (fw_cwI hT wd_37 yIJx4a65c_init_da8c8 rfl rfl ⟨Nat.le_of_ble_eq_true rfl, Nat.le_of_ble_eq_true rfl⟩) rfl hl.1 rfl (Nat.le_of_ble_eq_true rfl) dX8_init_31 ⟨Nat.le_of_ble_eq_true rfl, Nat.le_of_ble_eq_true rfl⟩) hw (fun F1 H locs hw hp => ?_)
  refine W.widen (k := 3) (n := 9) (Nat.le_of_ble_eq_true rfl) (Nat.le_of_ble_eq_true rfl) ?_
  rw [hp] at hw
  obtain ⟨W8, hFW8⟩ : ∃ z, z = va_up W7 lo (some ((1, 2, 0), fw_ls (fw_ea G) 0 (fun _ => 0))) := ⟨_, rfl⟩
  rw [← hFW8] at hw
  have k8_0 : W8 lc = some ((1, 0, 0), fw_ls (fw_ea G) 0 (fun _ => 0)) := by rw [hFW8]; exact fw_up_tag k7_0 k7_s (by intro z; cases z)
  have k8_1 : W8 lt = some ((1, 1, 0), fw_ls (fw_ea G) 0 (fun _ => 0)) := by rw [hFW8]; exact fw_up_tag k7_1 k7_s (by intro z; cases z)
  have k8_2 : W8 x = some ((50, 0, 0), fw_obj 9 [.ref lc, .ref lt, .null, .null, .null, .null, .int (nI 0)]) := by rw [hFW8]; exact fw_up_tag k7_2 k7_s (by intro z; cases z)
  have k8_s : W8 lo = some ((1, 2, 0), fw_ls (fw_ea G) 0 (fun _ => 0)) := by rw [hFW8]; exact fw_up_self
  refine fw_putF (v := .ref lo) (fs' := [.ref lc, .ref lt, .ref lo, .null, .null, .null, .int (nI 0)]) hx hb hT fi_RX8 tyX8 tyX8_ok nmX8 hown hz hw k8_2 rfl 2 (by decide) (hT _ wd_180) (fun _ h9 => h9) rfl (hin rfl) rfl (ty := tyX8 2) (by decide +kernel) rfl rfl (Nat.le_of_ble_eq_true rfl) rfl dX8_init_34 (fun H locs hw => ?_)
  obtain ⟨W9, hFW9⟩ : ∃ z, z = va_up W8 x (some ((50, 0, 0), fw_obj 9 [.ref lc, .ref lt, .ref lo, .null, .null, .null, .int (nI 0)])) := ⟨_, rfl⟩
  rw [← hFW9] at hw
  have k9_0 : W9 lc = some ((1, 0, 0), fw_ls (fw_ea G) 0 (fun _ => 0)) := by rw [hFW9]; exact fw_up_tag k8_0 k8_2 (by intro z; cases z)
  have k9_1 : W9 lt = some ((1, 1, 0), fw_ls (fw_ea G) 0 (fun _ => 0)) := by rw [hFW9]; exact fw_up_tag k8_1 k8_2 (by intro z; cases z)
  have k9_2 : W9 lo = some ((1, 2, 0), fw_ls (fw_ea G) 0 (fun _ => 0)) := by rw [hFW9]; exact fw_up_tag k8_s k8_2 (by intro z; cases z)
  have k9_s : W9 x = some ((50, 0, 0), fw_obj 9 [.ref lc, .ref lt, .ref lo, .null, .null, .null, .int (nI 0)]) := by rw [hFW9]; exact fw_up_self
  refine lv_aload_n hx hb dX8_init_37 rfl (lv_at hl 0 rfl) ?_
  have hPq3 := hw.1
  refine fw_new (1, 3, 0) (ci := 0) (fs := [.int (nI 0), .null, .int (nI 0)]) hx hb hT fi_RJx4a65c tyJx4a65c tyJx4a65c_ok hown (hT _ wd_35) (hT _ wd_36) (hT _ wd_4) hz hw hAn rfl (by intro j hj; rcases (show j = 0 ∨ j = 1 ∨ j = 2 by omega) with rfl | rfl | rfl <;> rfl) (Nat.le_of_ble_eq_true rfl) (Nat.le_of_ble_eq_true rfl) dX8_init_38 (fun lm H hqlm hw => ?_)
  refine W.widen (k := 4) (n := 12) (Nat.le_of_ble_eq_true rfl) (Nat.le_of_ble_eq_true rfl) ?_
  obtain ⟨W10, hFW10⟩ : ∃ z, z = va_up W9 lm (some ((1, 3, 0), fw_obj 0 [.int (nI 0), .null, .int (nI 0)])) := ⟨_, rfl⟩
  rw [← hFW10] at hw
  have k10_0 : W10 lc = some ((1, 0, 0), fw_ls (fw_ea G) 0 (fun _ => 0)) := by rw [hFW10]; exact fw_up_new k9_0 hqlm
  have k10_1 : W10 lt = some ((1, 1, 0), fw_ls (fw_ea G) 0 (fun _ => 0)) := by rw [hFW10]; exact fw_up_new k9_1 hqlm
  have k10_2 : W10 lo = some ((1, 2, 0), fw_ls (fw_ea G) 0 (fun _ => 0)) := by rw [hFW10]; exact fw_up_new k9_2 hqlm
  have k10_3 : W10 x = some ((50, 0, 0), fw_obj 9 [.ref lc, .ref lt, .ref lo, .null, .null, .null, .int (nI 0)]) := by rw [hFW10]; exact fw_up_new k9_s hqlm
  have k10_s : W10 lm = some ((1, 3, 0), fw_obj 0 [.int (nI 0), .null, .int (nI 0)]) := by rw [hFW10]; exact fw_up_self
  refine lv_dup hx hb dX8_init_41 rfl ?_
  refine fw_callv (fw_runI (As := []) (rest := [.ref lm, .ref x]) C hz hw (c_Jx4a65c_init_da8c8 l G _ _ lm (1, 3, 0) (show 1 < 900 by decide) k10_s (by rw [hFW10]; exact fw_nb hPq3 hqlm (fun t arr n f h => by cases h))) (fw_cwI hT wd_37 yIJx4a65c_init_da8c8 rfl rfl ⟨Nat.le_of_ble_eq_true rfl, Nat.le_of_ble_eq_true rfl⟩) rfl hl.1 rfl (Nat.le_of_ble_eq_true rfl) dX8_init_42 ⟨Nat.le_of_ble_eq_true rfl, Nat.le_of_ble_eq_true rfl⟩) hw (fun F1 H locs hw hp => ?_)
  refine W.widen (k := 4) (n := 12) (Nat.le_of_ble_eq_true rfl) (Nat.le_of_ble_eq_true rfl) ?_
  rw [hp] at hw
  obtain ⟨W11, hFW11⟩ : ∃ z, z = va_up W10 lm (some ((1, 3, 0), fw_ls (fw_ea G) 0 (fun _ => 0))) := ⟨_, rfl⟩
  rw [← hFW11] at hw
  have k11_0 : W11 lc = some ((1, 0, 0), fw_ls (fw_ea G) 0 (fun _ => 0)) := by rw [hFW11]; exact fw_up_tag k10_0 k10_s (by intro z; cases z)
  have k11_1 : W11 lt = some ((1, 1, 0), fw_ls (fw_ea G) 0 (fun _ => 0)) := by rw [hFW11]; exact fw_up_tag k10_1 k10_s (by intro z; cases z)
  have k11_2 : W11 lo = some ((1, 2, 0), fw_ls (fw_ea G) 0 (fun _ => 0)) := by rw [hFW11]; exact fw_up_tag k10_2 k10_s (by intro z; cases z)
  have k11_3 : W11 x = some ((50, 0, 0), fw_obj 9 [.ref lc, .ref lt, .ref lo, .null, .null, .null, .int (nI 0)]) := by rw [hFW11]; exact fw_up_tag k10_3 k10_s (by intro z; cases z)
  have k11_s : W11 lm = some ((1, 3, 0), fw_ls (fw_ea G) 0 (fun _ => 0)) := by rw [hFW11]; exact fw_up_self
  refine fw_putF (v := .ref lm) (fs' := [.ref lc, .ref lt, .ref lo, .ref lm, .null, .null, .int (nI 0)]) hx hb hT fi_RX8 tyX8 tyX8_ok nmX8 hown hz hw k11_3 rfl 3 (by decide) (hT _ wd_181) (fun _ h9 => h9) rfl (hin rfl) rfl (ty := tyX8 3) (by decide +kernel) rfl rfl (Nat.le_of_ble_eq_true rfl) rfl dX8_init_45 (fun H locs hw => ?_)
  obtain ⟨W12, hFW12⟩ : ∃ z, z = va_up W11 x (some ((50, 0, 0), fw_obj 9 [.ref lc, .ref lt, .ref lo, .ref lm, .null, .null, .int (nI 0)])) := ⟨_, rfl⟩
  rw [← hFW12] at hw
  have k12_0 : W12 lc = some ((1, 0, 0), fw_ls (fw_ea G) 0 (fun _ => 0)) := by rw [hFW12]; exact fw_up_tag k11_0 k11_3 (by intro z; cases z)
  have k12_1 : W12 lt = some ((1, 1, 0), fw_ls (fw_ea G) 0 (fun _ => 0)) := by rw [hFW12]; exact fw_up_tag k11_1 k11_3 (by intro z; cases z)
  have k12_2 : W12 lo = some ((1, 2, 0), fw_ls (fw_ea G) 0 (fun _ => 0)) := by rw [hFW12]; exact fw_up_tag k11_2 k11_3 (by intro z; cases z)
  have k12_3 : W12 lm = some ((1, 3, 0), fw_ls (fw_ea G) 0 (fun _ => 0)) := by rw [hFW12]; exact fw_up_tag k11_s k11_3 (by intro z; cases z)
  have k12_s : W12 x = some ((50, 0, 0), fw_obj 9 [.ref lc, .ref lt, .ref lo, .ref lm, .null, .null, .int (nI 0)]) := by rw [hFW12]; exact fw_up_self
  refine lv_aload_n hx hb dX8_init_48 rfl (lv_at hl 0 rfl) ?_
  have hPq4 := hw.1
  refine fw_new (1, 4, 0) (ci := 0) (fs := [.int (nI 0), .null, .int (nI 0)]) hx hb hT fi_RJx4a65c tyJx4a65c tyJx4a65c_ok hown (hT _ wd_35) (hT _ wd_36) (hT _ wd_4) hz hw hAn rfl (by intro j hj; rcases (show j = 0 ∨ j = 1 ∨ j = 2 by omega) with rfl | rfl | rfl <;> rfl) (Nat.le_of_ble_eq_true rfl) (Nat.le_of_ble_eq_true rfl) dX8_init_49 (fun lw H hqlw hw => ?_)
  refine W.widen (k := 5) (n := 15) (Nat.le_of_ble_eq_true rfl) (Nat.le_of_ble_eq_true rfl) ?_
  obtain ⟨W13, hFW13⟩ : ∃ z, z = va_up W12 lw (some ((1, 4, 0), fw_obj 0 [.int (nI 0), .null, .int (nI 0)])) := ⟨_, rfl⟩
  rw [← hFW13] at hw
  have k13_0 : W13 lc = some ((1, 0, 0), fw_ls (fw_ea G) 0 (fun _ => 0)) := by rw [hFW13]; exact fw_up_new k12_0 hqlw
  have k13_1 : W13 lt = some ((1, 1, 0), fw_ls (fw_ea G) 0 (fun _ => 0)) := by rw [hFW13]; exact fw_up_new k12_1 hqlw
  have k13_2 : W13 lo = some ((1, 2, 0), fw_ls (fw_ea G) 0 (fun _ => 0)) := by rw [hFW13]; exact fw_up_new k12_2 hqlw
  have k13_3 : W13 lm = some ((1, 3, 0), fw_ls (fw_ea G) 0 (fun _ => 0)) := by rw [hFW13]; exact fw_up_new k12_3 hqlw
  have k13_4 : W13 x = some ((50, 0, 0), fw_obj 9 [.ref lc, .ref lt, .ref lo, .ref lm, .null, .null, .int (nI 0)]) := by rw [hFW13]; exact fw_up_new k12_s hqlw
  have k13_s : W13 lw = some ((1, 4, 0), fw_obj 0 [.int (nI 0), .null, .int (nI 0)]) := by rw [hFW13]; exact fw_up_self
  refine lv_dup hx hb dX8_init_52 rfl ?_
  refine fw_callv (fw_runI (As := []) (rest := [.ref lw, .ref x]) C hz hw (c_Jx4a65c_init_da8c8 l G _ _ lw (1, 4, 0) (show 1 < 900 by decide) k13_s (by rw [hFW13]; exact fw_nb hPq4 hqlw (fun t arr n f h => by cases h))) (fw_cwI hT wd_37 yIJx4a65c_init_da8c8 rfl rfl ⟨Nat.le_of_ble_eq_true rfl, Nat.le_of_ble_eq_true rfl⟩) rfl hl.1 rfl (Nat.le_of_ble_eq_true rfl) dX8_init_53 ⟨Nat.le_of_ble_eq_true rfl, Nat.le_of_ble_eq_true rfl⟩) hw (fun F1 H locs hw hp => ?_)
  refine W.widen (k := 5) (n := 15) (Nat.le_of_ble_eq_true rfl) (Nat.le_of_ble_eq_true rfl) ?_
  rw [hp] at hw
  obtain ⟨W14, hFW14⟩ : ∃ z, z = va_up W13 lw (some ((1, 4, 0), fw_ls (fw_ea G) 0 (fun _ => 0))) := ⟨_, rfl⟩
  rw [← hFW14] at hw
  have k14_0 : W14 lc = some ((1, 0, 0), fw_ls (fw_ea G) 0 (fun _ => 0)) := by rw [hFW14]; exact fw_up_tag k13_0 k13_s (by intro z; cases z)
  have k14_1 : W14 lt = some ((1, 1, 0), fw_ls (fw_ea G) 0 (fun _ => 0)) := by rw [hFW14]; exact fw_up_tag k13_1 k13_s (by intro z; cases z)
  have k14_2 : W14 lo = some ((1, 2, 0), fw_ls (fw_ea G) 0 (fun _ => 0)) := by rw [hFW14]; exact fw_up_tag k13_2 k13_s (by intro z; cases z)
  have k14_3 : W14 lm = some ((1, 3, 0), fw_ls (fw_ea G) 0 (fun _ => 0)) := by rw [hFW14]; exact fw_up_tag k13_3 k13_s (by intro z; cases z)
  have k14_4 : W14 x = some ((50, 0, 0), fw_obj 9 [.ref lc, .ref lt, .ref lo, .ref lm, .null, .null, .int (nI 0)]) := by rw [hFW14]; exact fw_up_tag k13_4 k13_s (by intro z; cases z)
  have k14_s : W14 lw = some ((1, 4, 0), fw_ls (fw_ea G) 0 (fun _ => 0)) := by rw [hFW14]; exact fw_up_self
  refine fw_putF (v := .ref lw) (fs' := [.ref lc, .ref lt, .ref lo, .ref lm, .ref lw, .null, .int (nI 0)]) hx hb hT fi_RX8 tyX8 tyX8_ok nmX8 hown hz hw k14_4 rfl 4 (by decide) (hT _ wd_182) (fun _ h9 => h9) rfl (hin rfl) rfl (ty := tyX8 4) (by decide +kernel) rfl rfl (Nat.le_of_ble_eq_true rfl) rfl dX8_init_56 (fun H locs hw => ?_)
  obtain ⟨W15, hFW15⟩ : ∃ z, z = va_up W14 x (some ((50, 0, 0), fw_obj 9 [.ref lc, .ref lt, .ref lo, .ref lm, .ref lw, .null, .int (nI 0)])) := ⟨_, rfl⟩
  rw [← hFW15] at hw
  have k15_0 : W15 lc = some ((1, 0, 0), fw_ls (fw_ea G) 0 (fun _ => 0)) := by rw [hFW15]; exact fw_up_tag k14_0 k14_4 (by intro z; cases z)
  have k15_1 : W15 lt = some ((1, 1, 0), fw_ls (fw_ea G) 0 (fun _ => 0)) := by rw [hFW15]; exact fw_up_tag k14_1 k14_4 (by intro z; cases z)
  have k15_2 : W15 lo = some ((1, 2, 0), fw_ls (fw_ea G) 0 (fun _ => 0)) := by rw [hFW15]; exact fw_up_tag k14_2 k14_4 (by intro z; cases z)
  have k15_3 : W15 lm = some ((1, 3, 0), fw_ls (fw_ea G) 0 (fun _ => 0)) := by rw [hFW15]; exact fw_up_tag k14_3 k14_4 (by intro z; cases z)
  have k15_4 : W15 lw = some ((1, 4, 0), fw_ls (fw_ea G) 0 (fun _ => 0)) := by rw [hFW15]; exact fw_up_tag k14_s k14_4 (by intro z; cases z)
  have k15_s : W15 x = some ((50, 0, 0), fw_obj 9 [.ref lc, .ref lt, .ref lo, .ref lm, .ref lw, .null, .int (nI 0)]) := by rw [hFW15]; exact fw_up_self
  refine lv_aload_n hx hb dX8_init_59 rfl (lv_at hl 0 rfl) ?_
  refine fw_new (3, 0, 0) (ci := 8) (fs := [.null, .null, .int (nI 0)]) hx hb hT fi_RX7 tyX7 tyX7_ok hown (hT _ wd_61) (hT _ wd_62) (hT _ wd_5) hz hw hAn rfl (by intro j hj; rcases (show j = 0 ∨ j = 1 ∨ j = 2 by omega) with rfl | rfl | rfl <;> rfl) (Nat.le_of_ble_eq_true rfl) (Nat.le_of_ble_eq_true rfl) dX8_init_60 (fun b9 H hqb9 hw => ?_)
  refine W.widen (k := 6) (n := 18) (Nat.le_of_ble_eq_true rfl) (Nat.le_of_ble_eq_true rfl) ?_
  obtain ⟨W16, hFW16⟩ : ∃ z, z = va_up W15 b9 (some ((3, 0, 0), fw_obj 8 [.null, .null, .int (nI 0)])) := ⟨_, rfl⟩
  rw [← hFW16] at hw
  have k16_0 : W16 lc = some ((1, 0, 0), fw_ls (fw_ea G) 0 (fun _ => 0)) := by rw [hFW16]; exact fw_up_new k15_0 hqb9
  have k16_1 : W16 lt = some ((1, 1, 0), fw_ls (fw_ea G) 0 (fun _ => 0)) := by rw [hFW16]; exact fw_up_new k15_1 hqb9
  have k16_2 : W16 lo = some ((1, 2, 0), fw_ls (fw_ea G) 0 (fun _ => 0)) := by rw [hFW16]; exact fw_up_new k15_2 hqb9
  have k16_3 : W16 lm = some ((1, 3, 0), fw_ls (fw_ea G) 0 (fun _ => 0)) := by rw [hFW16]; exact fw_up_new k15_3 hqb9
  have k16_4 : W16 lw = some ((1, 4, 0), fw_ls (fw_ea G) 0 (fun _ => 0)) := by rw [hFW16]; exact fw_up_new k15_4 hqb9
  have k16_5 : W16 x = some ((50, 0, 0), fw_obj 9 [.ref lc, .ref lt, .ref lo, .ref lm, .ref lw, .null, .int (nI 0)]) := by rw [hFW16]; exact fw_up_new k15_s hqb9
  have k16_s : W16 b9 = some ((3, 0, 0), fw_obj 8 [.null, .null, .int (nI 0)]) := by rw [hFW16]; exact fw_up_self
  refine lv_dup hx hb dX8_init_63 rfl ?_
  refine fw_callv (fw_runIN (As := []) (rest := [.ref b9, .ref x]) C hz hw (c_X7_init l G _ _ b9 0 (3, 0, 0) k16_s) (fw_cnI hT (hz.2.2.2.2.2.2.1 _ (List.mem_of_getElem? (i := 0) rfl)) yIX7_init rfl rfl ⟨Nat.le_of_ble_eq_true rfl, Nat.le_of_ble_eq_true rfl⟩) rfl hl.1 rfl (Nat.le_of_ble_eq_true rfl) dX8_init_64 ⟨Nat.le_of_ble_eq_true rfl, Nat.le_of_ble_eq_true rfl⟩) hw (fun F2 H locs hw hp => ?_)
  refine W.widen (k := 8) (n := 23) (Nat.le_of_ble_eq_true rfl) (Nat.le_of_ble_eq_true rfl) ?_
  obtain ⟨ds, dfr, hp1, hp2, hp3, hkq⟩ := hp
  have hq_0 := hkq _ _ _ k16_0 (by simp)
  have hq_1 := hkq _ _ _ k16_1 (by simp)
  have hq_2 := hkq _ _ _ k16_2 (by simp)
  have hq_3 := hkq _ _ _ k16_3 (by simp)
  have hq_4 := hkq _ _ _ k16_4 (by simp)
  have hq_5 := hkq _ _ _ k16_5 (by simp)
  refine fw_put (v := .ref b9) (fs' := [.ref lc, .ref lt, .ref lo, .ref lm, .ref lw, .ref b9, .int (nI 0)]) hx hb hT fi_RX8 tyX8 tyX8_ok nmX8 hown hz hw hq_5 rfl 5 (by decide) (hT _ wd_183) (fun _ h9 => h9) rfl (ty := tyX8 5) (by decide +kernel) rfl rfl (Nat.le_of_ble_eq_true rfl) rfl dX8_init_67 (fun H locs hw => ?_)
  obtain ⟨W17, hFW17⟩ : ∃ z, z = va_up F2 x (some ((50, 0, 0), fw_obj 9 [.ref lc, .ref lt, .ref lo, .ref lm, .ref lw, .ref b9, .int (nI 0)])) := ⟨_, rfl⟩
  rw [← hFW17] at hw
  have k17_0 : W17 lc = some ((1, 0, 0), fw_ls (fw_ea G) 0 (fun _ => 0)) := by rw [hFW17]; exact fw_up_tag hq_0 hq_5 (by intro z; cases z)
  have k17_1 : W17 lt = some ((1, 1, 0), fw_ls (fw_ea G) 0 (fun _ => 0)) := by rw [hFW17]; exact fw_up_tag hq_1 hq_5 (by intro z; cases z)
  have k17_2 : W17 lo = some ((1, 2, 0), fw_ls (fw_ea G) 0 (fun _ => 0)) := by rw [hFW17]; exact fw_up_tag hq_2 hq_5 (by intro z; cases z)
  have k17_3 : W17 lm = some ((1, 3, 0), fw_ls (fw_ea G) 0 (fun _ => 0)) := by rw [hFW17]; exact fw_up_tag hq_3 hq_5 (by intro z; cases z)
  have k17_4 : W17 lw = some ((1, 4, 0), fw_ls (fw_ea G) 0 (fun _ => 0)) := by rw [hFW17]; exact fw_up_tag hq_4 hq_5 (by intro z; cases z)
  have k17_5 : W17 b9 = some ((3, 0, 0), fw_obj 8 [.ref ds, .ref dfr, .int (nI 0)]) := by rw [hFW17]; exact fw_up_tag hp1 hq_5 (by intro z; cases z)
  have k17_6 : W17 ds = some ((13, 0, 0), fw_ls (fw_ea G) 0 (fun _ => 0)) := by rw [hFW17]; exact fw_up_tag hp2 hq_5 (by intro z; cases z)
  have k17_7 : W17 dfr = some ((33, 0, 0), fw_obj 2 [.long (lN 1), .long (lN 1)]) := by rw [hFW17]; exact fw_up_tag hp3 hq_5 (by intro z; cases z)
  have k17_s : W17 x = some ((50, 0, 0), fw_obj 9 [.ref lc, .ref lt, .ref lo, .ref lm, .ref lw, .ref b9, .int (nI 0)]) := by rw [hFW17]; exact fw_up_self
  refine lv_aload_n hx hb dX8_init_70 rfl (lv_at hl 0 rfl) ?_
  refine lv_iconst (v := (nI 0)) hx hb dX8_init_71 (by decide) ?_
  refine fw_put (v := .int (nI 0)) (fs' := [.ref lc, .ref lt, .ref lo, .ref lm, .ref lw, .ref b9, .int (nI 0)]) hx hb hT fi_RX8 tyX8 tyX8_ok nmX8 hown hz hw k17_s rfl 6 (by decide) (hT _ wd_184) (fun _ h9 => h9) rfl (ty := tyX8 6) (by decide +kernel) rfl rfl (Nat.le_of_ble_eq_true rfl) rfl dX8_init_72 (fun H locs hw => ?_)
  obtain ⟨W18, hFW18⟩ : ∃ z, z = va_up W17 x (some ((50, 0, 0), fw_obj 9 [.ref lc, .ref lt, .ref lo, .ref lm, .ref lw, .ref b9, .int (nI 0)])) := ⟨_, rfl⟩
  rw [← hFW18] at hw
  have k18_0 : W18 lc = some ((1, 0, 0), fw_ls (fw_ea G) 0 (fun _ => 0)) := by rw [hFW18]; exact fw_up_tag k17_0 k17_s (by intro z; cases z)
  have k18_1 : W18 lt = some ((1, 1, 0), fw_ls (fw_ea G) 0 (fun _ => 0)) := by rw [hFW18]; exact fw_up_tag k17_1 k17_s (by intro z; cases z)
  have k18_2 : W18 lo = some ((1, 2, 0), fw_ls (fw_ea G) 0 (fun _ => 0)) := by rw [hFW18]; exact fw_up_tag k17_2 k17_s (by intro z; cases z)
  have k18_3 : W18 lm = some ((1, 3, 0), fw_ls (fw_ea G) 0 (fun _ => 0)) := by rw [hFW18]; exact fw_up_tag k17_3 k17_s (by intro z; cases z)
  have k18_4 : W18 lw = some ((1, 4, 0), fw_ls (fw_ea G) 0 (fun _ => 0)) := by rw [hFW18]; exact fw_up_tag k17_4 k17_s (by intro z; cases z)
  have k18_5 : W18 b9 = some ((3, 0, 0), fw_obj 8 [.ref ds, .ref dfr, .int (nI 0)]) := by rw [hFW18]; exact fw_up_tag k17_5 k17_s (by intro z; cases z)
  have k18_6 : W18 ds = some ((13, 0, 0), fw_ls (fw_ea G) 0 (fun _ => 0)) := by rw [hFW18]; exact fw_up_tag k17_6 k17_s (by intro z; cases z)
  have k18_7 : W18 dfr = some ((33, 0, 0), fw_obj 2 [.long (lN 1), .long (lN 1)]) := by rw [hFW18]; exact fw_up_tag k17_7 k17_s (by intro z; cases z)
  have k18_s : W18 x = some ((50, 0, 0), fw_obj 9 [.ref lc, .ref lt, .ref lo, .ref lm, .ref lw, .ref b9, .int (nI 0)]) := by rw [hFW18]; exact fw_up_self
  refine lv_iconst (v := (nI 0)) hx hb dX8_init_75 (by decide) ?_
  refine lv_istore_n (lv' := [(1, .int (nI 0)), (0, .ref x)]) hx hb dX8_init_76 rfl hl (by decide) rfl (fun ls hl => ?_)
  refine lv_iload_n hx hb dX8_init_77 rfl (lv_at hl 0 rfl) ?_
  refine lv_iconst (v := (nI 3)) hx hb dX8_init_78 (by decide) ?_
  refine lv_icmp_ge (tgt := 103) hx hb dX8_init_79 (by decide) (fun cx => absurd cx (by decide)) (fun cx => ?_)
  refine lv_aload_n hx hb dX8_init_82 rfl (lv_at hl 1 rfl) ?_
  refine fw_get (v := .ref lm) hx hb hT fi_RX8 hown hz hw k18_s rfl 3 (by decide) (hT _ wd_181) (fun _ h9 => h9) rfl dX8_init_83 ?_
  refine fw_new (9, 0, 0) (ci := 4) (fs := [.int (nI 0), .null, .int (nI 0)]) hx hb hT fi_RX3 tyX3 tyX3_ok hown (hT _ wd_98) (hT _ wd_99) (hT _ wd_7) hz hw hAn rfl (by intro j hj; rcases (show j = 0 ∨ j = 1 ∨ j = 2 by omega) with rfl | rfl | rfl <;> rfl) (Nat.le_of_ble_eq_true rfl) (Nat.le_of_ble_eq_true rfl) dX8_init_86 (fun p0 H hqp0 hw => ?_)
  refine W.widen (k := 9) (n := 26) (Nat.le_of_ble_eq_true rfl) (Nat.le_of_ble_eq_true rfl) ?_
  obtain ⟨W19, hFW19⟩ : ∃ z, z = va_up W18 p0 (some ((9, 0, 0), fw_obj 4 [.int (nI 0), .null, .int (nI 0)])) := ⟨_, rfl⟩
  rw [← hFW19] at hw
  have k19_0 : W19 lc = some ((1, 0, 0), fw_ls (fw_ea G) 0 (fun _ => 0)) := by rw [hFW19]; exact fw_up_new k18_0 hqp0
  have k19_1 : W19 lt = some ((1, 1, 0), fw_ls (fw_ea G) 0 (fun _ => 0)) := by rw [hFW19]; exact fw_up_new k18_1 hqp0
  have k19_2 : W19 lo = some ((1, 2, 0), fw_ls (fw_ea G) 0 (fun _ => 0)) := by rw [hFW19]; exact fw_up_new k18_2 hqp0
  have k19_3 : W19 lm = some ((1, 3, 0), fw_ls (fw_ea G) 0 (fun _ => 0)) := by rw [hFW19]; exact fw_up_new k18_3 hqp0
  have k19_4 : W19 lw = some ((1, 4, 0), fw_ls (fw_ea G) 0 (fun _ => 0)) := by rw [hFW19]; exact fw_up_new k18_4 hqp0
  have k19_5 : W19 b9 = some ((3, 0, 0), fw_obj 8 [.ref ds, .ref dfr, .int (nI 0)]) := by rw [hFW19]; exact fw_up_new k18_5 hqp0
  have k19_6 : W19 ds = some ((13, 0, 0), fw_ls (fw_ea G) 0 (fun _ => 0)) := by rw [hFW19]; exact fw_up_new k18_6 hqp0
  have k19_7 : W19 dfr = some ((33, 0, 0), fw_obj 2 [.long (lN 1), .long (lN 1)]) := by rw [hFW19]; exact fw_up_new k18_7 hqp0
  have k19_8 : W19 x = some ((50, 0, 0), fw_obj 9 [.ref lc, .ref lt, .ref lo, .ref lm, .ref lw, .ref b9, .int (nI 0)]) := by rw [hFW19]; exact fw_up_new k18_s hqp0
  have k19_s : W19 p0 = some ((9, 0, 0), fw_obj 4 [.int (nI 0), .null, .int (nI 0)]) := by rw [hFW19]; exact fw_up_self
  refine lv_dup hx hb dX8_init_89 rfl ?_
  refine fw_callv (fw_runIN (As := []) (rest := [.ref p0, .ref lm]) C hz hw (c_X3_init l G _ _ p0 (9, 0, 0) k19_s) (fw_cnI hT (hz.2.2.2.2.2.2.1 _ (List.mem_of_getElem? (i := 1) rfl)) yIX3_init rfl rfl ⟨Nat.le_of_ble_eq_true rfl, Nat.le_of_ble_eq_true rfl⟩) rfl hl.1 rfl (Nat.le_of_ble_eq_true rfl) dX8_init_90 ⟨Nat.le_of_ble_eq_true rfl, Nat.le_of_ble_eq_true rfl⟩) hw (fun F1 H locs hw hp => ?_)
  refine W.widen (k := 9) (n := 26) (Nat.le_of_ble_eq_true rfl) (Nat.le_of_ble_eq_true rfl) ?_
  rw [hp] at hw
  obtain ⟨W20, hFW20⟩ : ∃ z, z = va_up W19 p0 (some ((9, 0, 0), fw_obj 4 [.int (-1), .null, .int (nI 0)])) := ⟨_, rfl⟩
  rw [← hFW20] at hw
  have k20_0 : W20 lc = some ((1, 0, 0), fw_ls (fw_ea G) 0 (fun _ => 0)) := by rw [hFW20]; exact fw_up_tag k19_0 k19_s (by intro z; cases z)
  have k20_1 : W20 lt = some ((1, 1, 0), fw_ls (fw_ea G) 0 (fun _ => 0)) := by rw [hFW20]; exact fw_up_tag k19_1 k19_s (by intro z; cases z)
  have k20_2 : W20 lo = some ((1, 2, 0), fw_ls (fw_ea G) 0 (fun _ => 0)) := by rw [hFW20]; exact fw_up_tag k19_2 k19_s (by intro z; cases z)
  have k20_3 : W20 lm = some ((1, 3, 0), fw_ls (fw_ea G) 0 (fun _ => 0)) := by rw [hFW20]; exact fw_up_tag k19_3 k19_s (by intro z; cases z)
  have k20_4 : W20 lw = some ((1, 4, 0), fw_ls (fw_ea G) 0 (fun _ => 0)) := by rw [hFW20]; exact fw_up_tag k19_4 k19_s (by intro z; cases z)
  have k20_5 : W20 b9 = some ((3, 0, 0), fw_obj 8 [.ref ds, .ref dfr, .int (nI 0)]) := by rw [hFW20]; exact fw_up_tag k19_5 k19_s (by intro z; cases z)
  have k20_6 : W20 ds = some ((13, 0, 0), fw_ls (fw_ea G) 0 (fun _ => 0)) := by rw [hFW20]; exact fw_up_tag k19_6 k19_s (by intro z; cases z)
  have k20_7 : W20 dfr = some ((33, 0, 0), fw_obj 2 [.long (lN 1), .long (lN 1)]) := by rw [hFW20]; exact fw_up_tag k19_7 k19_s (by intro z; cases z)
  have k20_8 : W20 x = some ((50, 0, 0), fw_obj 9 [.ref lc, .ref lt, .ref lo, .ref lm, .ref lw, .ref b9, .int (nI 0)]) := by rw [hFW20]; exact fw_up_tag k19_8 k19_s (by intro z; cases z)
  have k20_s : W20 p0 = some ((9, 0, 0), fw_obj 4 [.int (-1), .null, .int (nI 0)]) := by rw [hFW20]; exact fw_up_self
  refine fw_calli (fw_runV (As := [.ref p0]) (rest := []) C hz hw (c_Jx4a65c_add_9ea2d l G _ _ lm (fw_ea G) 0 (1, 3, 0) (fun _ => 0) p0 4 (9, 0, 0) _ (by decide) k20_3 (by decide) k20_s) (fw_cwV hT wd_117 yVJx4a65c_add_9ea2d rfl rfl ⟨Nat.le_of_ble_eq_true rfl, Nat.le_of_ble_eq_true rfl⟩) (fw_recL hz hw k20_3) rfl hl.1 rfl (Nat.le_of_ble_eq_true rfl) dX8_init_93 ⟨Nat.le_of_ble_eq_true rfl, Nat.le_of_ble_eq_true rfl⟩) hw (fun r F1 H locs hw hp => ?_)
  refine W.widen (k := 10) (n := 266) (Nat.le_of_ble_eq_true rfl) (Nat.le_of_ble_eq_true rfl) ?_
  obtain ⟨rfl, r0, hp⟩ := hp
  rw [hp] at hw
  obtain ⟨W21, hFW21⟩ : ∃ z, z = va_up W20 lm (some ((1, 3, 0), fw_ls r0 1 (va_up (fun _ => 0) 0 p0))) := ⟨_, rfl⟩
  rw [← hFW21] at hw
  have k21_0 : W21 lc = some ((1, 0, 0), fw_ls (fw_ea G) 0 (fun _ => 0)) := by rw [hFW21]; exact fw_up_tag k20_0 k20_3 (by intro z; cases z)
  have k21_1 : W21 lt = some ((1, 1, 0), fw_ls (fw_ea G) 0 (fun _ => 0)) := by rw [hFW21]; exact fw_up_tag k20_1 k20_3 (by intro z; cases z)
  have k21_2 : W21 lo = some ((1, 2, 0), fw_ls (fw_ea G) 0 (fun _ => 0)) := by rw [hFW21]; exact fw_up_tag k20_2 k20_3 (by intro z; cases z)
  have k21_3 : W21 lw = some ((1, 4, 0), fw_ls (fw_ea G) 0 (fun _ => 0)) := by rw [hFW21]; exact fw_up_tag k20_4 k20_3 (by intro z; cases z)
  have k21_4 : W21 b9 = some ((3, 0, 0), fw_obj 8 [.ref ds, .ref dfr, .int (nI 0)]) := by rw [hFW21]; exact fw_up_tag k20_5 k20_3 (by intro z; cases z)
  have k21_5 : W21 ds = some ((13, 0, 0), fw_ls (fw_ea G) 0 (fun _ => 0)) := by rw [hFW21]; exact fw_up_tag k20_6 k20_3 (by intro z; cases z)
  have k21_6 : W21 dfr = some ((33, 0, 0), fw_obj 2 [.long (lN 1), .long (lN 1)]) := by rw [hFW21]; exact fw_up_tag k20_7 k20_3 (by intro z; cases z)
  have k21_7 : W21 x = some ((50, 0, 0), fw_obj 9 [.ref lc, .ref lt, .ref lo, .ref lm, .ref lw, .ref b9, .int (nI 0)]) := by rw [hFW21]; exact fw_up_tag k20_8 k20_3 (by intro z; cases z)
  have k21_8 : W21 p0 = some ((9, 0, 0), fw_obj 4 [.int (-1), .null, .int (nI 0)]) := by rw [hFW21]; exact fw_up_tag k20_s k20_3 (by intro z; cases z)
  have k21_s : W21 lm = some ((1, 3, 0), fw_ls r0 1 (va_up (fun _ => 0) 0 p0)) := by rw [hFW21]; exact fw_up_self
  refine lv_pop hx hb dX8_init_96 rfl ?_
  refine lv_iinc (v := (nI (0 + 1))) (lv' := [(1, .int (nI (0 + 1))), (0, .ref x)]) hx hb dX8_init_97 hl (k := 0) rfl (nI_1 _) (by decide) rfl (fun ls hl => ?_)
  refine lv_goto (tgt := 77) hx hb dX8_init_100 (by decide) ?_
  refine lv_iload_n hx hb dX8_init_77 rfl (lv_at hl 0 rfl) ?_
  refine lv_iconst (v := (nI 3)) hx hb dX8_init_78 (by decide) ?_
  refine lv_icmp_ge (tgt := 103) hx hb dX8_init_79 (by decide) (fun cx => absurd cx (by decide)) (fun cx => ?_)
  refine lv_aload_n hx hb dX8_init_82 rfl (lv_at hl 1 rfl) ?_
  refine fw_get (v := .ref lm) hx hb hT fi_RX8 hown hz hw k21_7 rfl 3 (by decide) (hT _ wd_181) (fun _ h9 => h9) rfl dX8_init_83 ?_
  refine fw_new (9, 1, 0) (ci := 4) (fs := [.int (nI 0), .null, .int (nI 0)]) hx hb hT fi_RX3 tyX3 tyX3_ok hown (hT _ wd_98) (hT _ wd_99) (hT _ wd_7) hz hw hAn rfl (by intro j hj; rcases (show j = 0 ∨ j = 1 ∨ j = 2 by omega) with rfl | rfl | rfl <;> rfl) (Nat.le_of_ble_eq_true rfl) (Nat.le_of_ble_eq_true rfl) dX8_init_86 (fun p1 H hqp1 hw => ?_)
  refine W.widen (k := 11) (n := 269) (Nat.le_of_ble_eq_true rfl) (Nat.le_of_ble_eq_true rfl) ?_
  obtain ⟨W22, hFW22⟩ : ∃ z, z = va_up W21 p1 (some ((9, 1, 0), fw_obj 4 [.int (nI 0), .null, .int (nI 0)])) := ⟨_, rfl⟩
  rw [← hFW22] at hw
  have k22_0 : W22 lc = some ((1, 0, 0), fw_ls (fw_ea G) 0 (fun _ => 0)) := by rw [hFW22]; exact fw_up_new k21_0 hqp1
  have k22_1 : W22 lt = some ((1, 1, 0), fw_ls (fw_ea G) 0 (fun _ => 0)) := by rw [hFW22]; exact fw_up_new k21_1 hqp1
  have k22_2 : W22 lo = some ((1, 2, 0), fw_ls (fw_ea G) 0 (fun _ => 0)) := by rw [hFW22]; exact fw_up_new k21_2 hqp1
  have k22_3 : W22 lw = some ((1, 4, 0), fw_ls (fw_ea G) 0 (fun _ => 0)) := by rw [hFW22]; exact fw_up_new k21_3 hqp1
  have k22_4 : W22 b9 = some ((3, 0, 0), fw_obj 8 [.ref ds, .ref dfr, .int (nI 0)]) := by rw [hFW22]; exact fw_up_new k21_4 hqp1
  have k22_5 : W22 ds = some ((13, 0, 0), fw_ls (fw_ea G) 0 (fun _ => 0)) := by rw [hFW22]; exact fw_up_new k21_5 hqp1
  have k22_6 : W22 dfr = some ((33, 0, 0), fw_obj 2 [.long (lN 1), .long (lN 1)]) := by rw [hFW22]; exact fw_up_new k21_6 hqp1
  have k22_7 : W22 x = some ((50, 0, 0), fw_obj 9 [.ref lc, .ref lt, .ref lo, .ref lm, .ref lw, .ref b9, .int (nI 0)]) := by rw [hFW22]; exact fw_up_new k21_7 hqp1
  have k22_8 : W22 p0 = some ((9, 0, 0), fw_obj 4 [.int (-1), .null, .int (nI 0)]) := by rw [hFW22]; exact fw_up_new k21_8 hqp1
  have k22_9 : W22 lm = some ((1, 3, 0), fw_ls r0 1 (va_up (fun _ => 0) 0 p0)) := by rw [hFW22]; exact fw_up_new k21_s hqp1
  have k22_s : W22 p1 = some ((9, 1, 0), fw_obj 4 [.int (nI 0), .null, .int (nI 0)]) := by rw [hFW22]; exact fw_up_self
  refine lv_dup hx hb dX8_init_89 rfl ?_
  refine fw_callv (fw_runIN (As := []) (rest := [.ref p1, .ref lm]) C hz hw (c_X3_init l G _ _ p1 (9, 1, 0) k22_s) (fw_cnI hT (hz.2.2.2.2.2.2.1 _ (List.mem_of_getElem? (i := 1) rfl)) yIX3_init rfl rfl ⟨Nat.le_of_ble_eq_true rfl, Nat.le_of_ble_eq_true rfl⟩) rfl hl.1 rfl (Nat.le_of_ble_eq_true rfl) dX8_init_90 ⟨Nat.le_of_ble_eq_true rfl, Nat.le_of_ble_eq_true rfl⟩) hw (fun F1 H locs hw hp => ?_)
  refine W.widen (k := 11) (n := 269) (Nat.le_of_ble_eq_true rfl) (Nat.le_of_ble_eq_true rfl) ?_
  rw [hp] at hw
  obtain ⟨W23, hFW23⟩ : ∃ z, z = va_up W22 p1 (some ((9, 1, 0), fw_obj 4 [.int (-1), .null, .int (nI 0)])) := ⟨_, rfl⟩
  rw [← hFW23] at hw
  have k23_0 : W23 lc = some ((1, 0, 0), fw_ls (fw_ea G) 0 (fun _ => 0)) := by rw [hFW23]; exact fw_up_tag k22_0 k22_s (by intro z; cases z)
  have k23_1 : W23 lt = some ((1, 1, 0), fw_ls (fw_ea G) 0 (fun _ => 0)) := by rw [hFW23]; exact fw_up_tag k22_1 k22_s (by intro z; cases z)
  have k23_2 : W23 lo = some ((1, 2, 0), fw_ls (fw_ea G) 0 (fun _ => 0)) := by rw [hFW23]; exact fw_up_tag k22_2 k22_s (by intro z; cases z)
  have k23_3 : W23 lw = some ((1, 4, 0), fw_ls (fw_ea G) 0 (fun _ => 0)) := by rw [hFW23]; exact fw_up_tag k22_3 k22_s (by intro z; cases z)
  have k23_4 : W23 b9 = some ((3, 0, 0), fw_obj 8 [.ref ds, .ref dfr, .int (nI 0)]) := by rw [hFW23]; exact fw_up_tag k22_4 k22_s (by intro z; cases z)
  have k23_5 : W23 ds = some ((13, 0, 0), fw_ls (fw_ea G) 0 (fun _ => 0)) := by rw [hFW23]; exact fw_up_tag k22_5 k22_s (by intro z; cases z)
  have k23_6 : W23 dfr = some ((33, 0, 0), fw_obj 2 [.long (lN 1), .long (lN 1)]) := by rw [hFW23]; exact fw_up_tag k22_6 k22_s (by intro z; cases z)
  have k23_7 : W23 x = some ((50, 0, 0), fw_obj 9 [.ref lc, .ref lt, .ref lo, .ref lm, .ref lw, .ref b9, .int (nI 0)]) := by rw [hFW23]; exact fw_up_tag k22_7 k22_s (by intro z; cases z)
  have k23_8 : W23 p0 = some ((9, 0, 0), fw_obj 4 [.int (-1), .null, .int (nI 0)]) := by rw [hFW23]; exact fw_up_tag k22_8 k22_s (by intro z; cases z)
  have k23_9 : W23 lm = some ((1, 3, 0), fw_ls r0 1 (va_up (fun _ => 0) 0 p0)) := by rw [hFW23]; exact fw_up_tag k22_9 k22_s (by intro z; cases z)
  have k23_s : W23 p1 = some ((9, 1, 0), fw_obj 4 [.int (-1), .null, .int (nI 0)]) := by rw [hFW23]; exact fw_up_self
  refine fw_calli (fw_runV (As := [.ref p1]) (rest := []) C hz hw (c_Jx4a65c_add_9ea2d l G _ _ lm r0 1 (1, 3, 0) (va_up (fun _ => 0) 0 p0) p1 4 (9, 1, 0) _ (by decide) k23_9 (by decide) k23_s) (fw_cwV hT wd_117 yVJx4a65c_add_9ea2d rfl rfl ⟨Nat.le_of_ble_eq_true rfl, Nat.le_of_ble_eq_true rfl⟩) (fw_recL hz hw k23_9) rfl hl.1 rfl (Nat.le_of_ble_eq_true rfl) dX8_init_93 ⟨Nat.le_of_ble_eq_true rfl, Nat.le_of_ble_eq_true rfl⟩) hw (fun r F1 H locs hw hp => ?_)
  refine W.widen (k := 12) (n := 509) (Nat.le_of_ble_eq_true rfl) (Nat.le_of_ble_eq_true rfl) ?_
  obtain ⟨rfl, r1, hp⟩ := hp
  rw [hp] at hw
  obtain ⟨W24, hFW24⟩ : ∃ z, z = va_up W23 lm (some ((1, 3, 0), fw_ls r1 2 (va_up (va_up (fun _ => 0) 0 p0) 1 p1))) := ⟨_, rfl⟩
  rw [← hFW24] at hw
  have k24_0 : W24 lc = some ((1, 0, 0), fw_ls (fw_ea G) 0 (fun _ => 0)) := by rw [hFW24]; exact fw_up_tag k23_0 k23_9 (by intro z; cases z)
  have k24_1 : W24 lt = some ((1, 1, 0), fw_ls (fw_ea G) 0 (fun _ => 0)) := by rw [hFW24]; exact fw_up_tag k23_1 k23_9 (by intro z; cases z)
  have k24_2 : W24 lo = some ((1, 2, 0), fw_ls (fw_ea G) 0 (fun _ => 0)) := by rw [hFW24]; exact fw_up_tag k23_2 k23_9 (by intro z; cases z)
  have k24_3 : W24 lw = some ((1, 4, 0), fw_ls (fw_ea G) 0 (fun _ => 0)) := by rw [hFW24]; exact fw_up_tag k23_3 k23_9 (by intro z; cases z)
  have k24_4 : W24 b9 = some ((3, 0, 0), fw_obj 8 [.ref ds, .ref dfr, .int (nI 0)]) := by rw [hFW24]; exact fw_up_tag k23_4 k23_9 (by intro z; cases z)
  have k24_5 : W24 ds = some ((13, 0, 0), fw_ls (fw_ea G) 0 (fun _ => 0)) := by rw [hFW24]; exact fw_up_tag k23_5 k23_9 (by intro z; cases z)
  have k24_6 : W24 dfr = some ((33, 0, 0), fw_obj 2 [.long (lN 1), .long (lN 1)]) := by rw [hFW24]; exact fw_up_tag k23_6 k23_9 (by intro z; cases z)
  have k24_7 : W24 x = some ((50, 0, 0), fw_obj 9 [.ref lc, .ref lt, .ref lo, .ref lm, .ref lw, .ref b9, .int (nI 0)]) := by rw [hFW24]; exact fw_up_tag k23_7 k23_9 (by intro z; cases z)
  have k24_8 : W24 p0 = some ((9, 0, 0), fw_obj 4 [.int (-1), .null, .int (nI 0)]) := by rw [hFW24]; exact fw_up_tag k23_8 k23_9 (by intro z; cases z)
  have k24_9 : W24 p1 = some ((9, 1, 0), fw_obj 4 [.int (-1), .null, .int (nI 0)]) := by rw [hFW24]; exact fw_up_tag k23_s k23_9 (by intro z; cases z)
  have k24_s : W24 lm = some ((1, 3, 0), fw_ls r1 2 (va_up (va_up (fun _ => 0) 0 p0) 1 p1)) := by rw [hFW24]; exact fw_up_self
  refine lv_pop hx hb dX8_init_96 rfl ?_
  refine lv_iinc (v := (nI (0 + 1 + 1))) (lv' := [(1, .int (nI (0 + 1 + 1))), (0, .ref x)]) hx hb dX8_init_97 hl (k := 0) rfl (nI_1 _) (by decide) rfl (fun ls hl => ?_)
  refine lv_goto (tgt := 77) hx hb dX8_init_100 (by decide) ?_
  refine lv_iload_n hx hb dX8_init_77 rfl (lv_at hl 0 rfl) ?_
  refine lv_iconst (v := (nI 3)) hx hb dX8_init_78 (by decide) ?_
  refine lv_icmp_ge (tgt := 103) hx hb dX8_init_79 (by decide) (fun cx => absurd cx (by decide)) (fun cx => ?_)
  refine lv_aload_n hx hb dX8_init_82 rfl (lv_at hl 1 rfl) ?_
  refine fw_get (v := .ref lm) hx hb hT fi_RX8 hown hz hw k24_7 rfl 3 (by decide) (hT _ wd_181) (fun _ h9 => h9) rfl dX8_init_83 ?_
  refine fw_new (9, 2, 0) (ci := 4) (fs := [.int (nI 0), .null, .int (nI 0)]) hx hb hT fi_RX3 tyX3 tyX3_ok hown (hT _ wd_98) (hT _ wd_99) (hT _ wd_7) hz hw hAn rfl (by intro j hj; rcases (show j = 0 ∨ j = 1 ∨ j = 2 by omega) with rfl | rfl | rfl <;> rfl) (Nat.le_of_ble_eq_true rfl) (Nat.le_of_ble_eq_true rfl) dX8_init_86 (fun p2 H hqp2 hw => ?_)
  refine W.widen (k := 13) (n := 512) (Nat.le_of_ble_eq_true rfl) (Nat.le_of_ble_eq_true rfl) ?_
  obtain ⟨W25, hFW25⟩ : ∃ z, z = va_up W24 p2 (some ((9, 2, 0), fw_obj 4 [.int (nI 0), .null, .int (nI 0)])) := ⟨_, rfl⟩
  rw [← hFW25] at hw
  have k25_0 : W25 lc = some ((1, 0, 0), fw_ls (fw_ea G) 0 (fun _ => 0)) := by rw [hFW25]; exact fw_up_new k24_0 hqp2
  have k25_1 : W25 lt = some ((1, 1, 0), fw_ls (fw_ea G) 0 (fun _ => 0)) := by rw [hFW25]; exact fw_up_new k24_1 hqp2
  have k25_2 : W25 lo = some ((1, 2, 0), fw_ls (fw_ea G) 0 (fun _ => 0)) := by rw [hFW25]; exact fw_up_new k24_2 hqp2
  have k25_3 : W25 lw = some ((1, 4, 0), fw_ls (fw_ea G) 0 (fun _ => 0)) := by rw [hFW25]; exact fw_up_new k24_3 hqp2
  have k25_4 : W25 b9 = some ((3, 0, 0), fw_obj 8 [.ref ds, .ref dfr, .int (nI 0)]) := by rw [hFW25]; exact fw_up_new k24_4 hqp2
  have k25_5 : W25 ds = some ((13, 0, 0), fw_ls (fw_ea G) 0 (fun _ => 0)) := by rw [hFW25]; exact fw_up_new k24_5 hqp2
  have k25_6 : W25 dfr = some ((33, 0, 0), fw_obj 2 [.long (lN 1), .long (lN 1)]) := by rw [hFW25]; exact fw_up_new k24_6 hqp2
  have k25_7 : W25 x = some ((50, 0, 0), fw_obj 9 [.ref lc, .ref lt, .ref lo, .ref lm, .ref lw, .ref b9, .int (nI 0)]) := by rw [hFW25]; exact fw_up_new k24_7 hqp2
  have k25_8 : W25 p0 = some ((9, 0, 0), fw_obj 4 [.int (-1), .null, .int (nI 0)]) := by rw [hFW25]; exact fw_up_new k24_8 hqp2
  have k25_9 : W25 p1 = some ((9, 1, 0), fw_obj 4 [.int (-1), .null, .int (nI 0)]) := by rw [hFW25]; exact fw_up_new k24_9 hqp2
  have k25_10 : W25 lm = some ((1, 3, 0), fw_ls r1 2 (va_up (va_up (fun _ => 0) 0 p0) 1 p1)) := by rw [hFW25]; exact fw_up_new k24_s hqp2
  have k25_s : W25 p2 = some ((9, 2, 0), fw_obj 4 [.int (nI 0), .null, .int (nI 0)]) := by rw [hFW25]; exact fw_up_self
  refine lv_dup hx hb dX8_init_89 rfl ?_
  refine fw_callv (fw_runIN (As := []) (rest := [.ref p2, .ref lm]) C hz hw (c_X3_init l G _ _ p2 (9, 2, 0) k25_s) (fw_cnI hT (hz.2.2.2.2.2.2.1 _ (List.mem_of_getElem? (i := 1) rfl)) yIX3_init rfl rfl ⟨Nat.le_of_ble_eq_true rfl, Nat.le_of_ble_eq_true rfl⟩) rfl hl.1 rfl (Nat.le_of_ble_eq_true rfl) dX8_init_90 ⟨Nat.le_of_ble_eq_true rfl, Nat.le_of_ble_eq_true rfl⟩) hw (fun F1 H locs hw hp => ?_)
  refine W.widen (k := 13) (n := 512) (Nat.le_of_ble_eq_true rfl) (Nat.le_of_ble_eq_true rfl) ?_
  rw [hp] at hw
  obtain ⟨W26, hFW26⟩ : ∃ z, z = va_up W25 p2 (some ((9, 2, 0), fw_obj 4 [.int (-1), .null, .int (nI 0)])) := ⟨_, rfl⟩
  rw [← hFW26] at hw
  have k26_0 : W26 lc = some ((1, 0, 0), fw_ls (fw_ea G) 0 (fun _ => 0)) := by rw [hFW26]; exact fw_up_tag k25_0 k25_s (by intro z; cases z)
  have k26_1 : W26 lt = some ((1, 1, 0), fw_ls (fw_ea G) 0 (fun _ => 0)) := by rw [hFW26]; exact fw_up_tag k25_1 k25_s (by intro z; cases z)
  have k26_2 : W26 lo = some ((1, 2, 0), fw_ls (fw_ea G) 0 (fun _ => 0)) := by rw [hFW26]; exact fw_up_tag k25_2 k25_s (by intro z; cases z)
  have k26_3 : W26 lw = some ((1, 4, 0), fw_ls (fw_ea G) 0 (fun _ => 0)) := by rw [hFW26]; exact fw_up_tag k25_3 k25_s (by intro z; cases z)
  have k26_4 : W26 b9 = some ((3, 0, 0), fw_obj 8 [.ref ds, .ref dfr, .int (nI 0)]) := by rw [hFW26]; exact fw_up_tag k25_4 k25_s (by intro z; cases z)
  have k26_5 : W26 ds = some ((13, 0, 0), fw_ls (fw_ea G) 0 (fun _ => 0)) := by rw [hFW26]; exact fw_up_tag k25_5 k25_s (by intro z; cases z)
  have k26_6 : W26 dfr = some ((33, 0, 0), fw_obj 2 [.long (lN 1), .long (lN 1)]) := by rw [hFW26]; exact fw_up_tag k25_6 k25_s (by intro z; cases z)
  have k26_7 : W26 x = some ((50, 0, 0), fw_obj 9 [.ref lc, .ref lt, .ref lo, .ref lm, .ref lw, .ref b9, .int (nI 0)]) := by rw [hFW26]; exact fw_up_tag k25_7 k25_s (by intro z; cases z)
  have k26_8 : W26 p0 = some ((9, 0, 0), fw_obj 4 [.int (-1), .null, .int (nI 0)]) := by rw [hFW26]; exact fw_up_tag k25_8 k25_s (by intro z; cases z)
  have k26_9 : W26 p1 = some ((9, 1, 0), fw_obj 4 [.int (-1), .null, .int (nI 0)]) := by rw [hFW26]; exact fw_up_tag k25_9 k25_s (by intro z; cases z)
  have k26_10 : W26 lm = some ((1, 3, 0), fw_ls r1 2 (va_up (va_up (fun _ => 0) 0 p0) 1 p1)) := by rw [hFW26]; exact fw_up_tag k25_10 k25_s (by intro z; cases z)
  have k26_s : W26 p2 = some ((9, 2, 0), fw_obj 4 [.int (-1), .null, .int (nI 0)]) := by rw [hFW26]; exact fw_up_self
  refine fw_calli (fw_runV (As := [.ref p2]) (rest := []) C hz hw (c_Jx4a65c_add_9ea2d l G _ _ lm r1 2 (1, 3, 0) (va_up (va_up (fun _ => 0) 0 p0) 1 p1) p2 4 (9, 2, 0) _ (by decide) k26_10 (by decide) k26_s) (fw_cwV hT wd_117 yVJx4a65c_add_9ea2d rfl rfl ⟨Nat.le_of_ble_eq_true rfl, Nat.le_of_ble_eq_true rfl⟩) (fw_recL hz hw k26_10) rfl hl.1 rfl (Nat.le_of_ble_eq_true rfl) dX8_init_93 ⟨Nat.le_of_ble_eq_true rfl, Nat.le_of_ble_eq_true rfl⟩) hw (fun r F1 H locs hw hp => ?_)
  refine W.widen (k := 14) (n := 752) (Nat.le_of_ble_eq_true rfl) (Nat.le_of_ble_eq_true rfl) ?_
  obtain ⟨rfl, r2, hp⟩ := hp
  rw [hp] at hw
  obtain ⟨W27, hFW27⟩ : ∃ z, z = va_up W26 lm (some ((1, 3, 0), fw_ls r2 3 (va_up (va_up (va_up (fun _ => 0) 0 p0) 1 p1) 2 p2))) := ⟨_, rfl⟩
  rw [← hFW27] at hw
  have k27_0 : W27 lc = some ((1, 0, 0), fw_ls (fw_ea G) 0 (fun _ => 0)) := by rw [hFW27]; exact fw_up_tag k26_0 k26_10 (by intro z; cases z)
  have k27_1 : W27 lt = some ((1, 1, 0), fw_ls (fw_ea G) 0 (fun _ => 0)) := by rw [hFW27]; exact fw_up_tag k26_1 k26_10 (by intro z; cases z)
  have k27_2 : W27 lo = some ((1, 2, 0), fw_ls (fw_ea G) 0 (fun _ => 0)) := by rw [hFW27]; exact fw_up_tag k26_2 k26_10 (by intro z; cases z)
  have k27_3 : W27 lw = some ((1, 4, 0), fw_ls (fw_ea G) 0 (fun _ => 0)) := by rw [hFW27]; exact fw_up_tag k26_3 k26_10 (by intro z; cases z)
  have k27_4 : W27 b9 = some ((3, 0, 0), fw_obj 8 [.ref ds, .ref dfr, .int (nI 0)]) := by rw [hFW27]; exact fw_up_tag k26_4 k26_10 (by intro z; cases z)
  have k27_5 : W27 ds = some ((13, 0, 0), fw_ls (fw_ea G) 0 (fun _ => 0)) := by rw [hFW27]; exact fw_up_tag k26_5 k26_10 (by intro z; cases z)
  have k27_6 : W27 dfr = some ((33, 0, 0), fw_obj 2 [.long (lN 1), .long (lN 1)]) := by rw [hFW27]; exact fw_up_tag k26_6 k26_10 (by intro z; cases z)
  have k27_7 : W27 x = some ((50, 0, 0), fw_obj 9 [.ref lc, .ref lt, .ref lo, .ref lm, .ref lw, .ref b9, .int (nI 0)]) := by rw [hFW27]; exact fw_up_tag k26_7 k26_10 (by intro z; cases z)
  have k27_8 : W27 p0 = some ((9, 0, 0), fw_obj 4 [.int (-1), .null, .int (nI 0)]) := by rw [hFW27]; exact fw_up_tag k26_8 k26_10 (by intro z; cases z)
  have k27_9 : W27 p1 = some ((9, 1, 0), fw_obj 4 [.int (-1), .null, .int (nI 0)]) := by rw [hFW27]; exact fw_up_tag k26_9 k26_10 (by intro z; cases z)
  have k27_10 : W27 p2 = some ((9, 2, 0), fw_obj 4 [.int (-1), .null, .int (nI 0)]) := by rw [hFW27]; exact fw_up_tag k26_s k26_10 (by intro z; cases z)
  have k27_s : W27 lm = some ((1, 3, 0), fw_ls r2 3 (va_up (va_up (va_up (fun _ => 0) 0 p0) 1 p1) 2 p2)) := by rw [hFW27]; exact fw_up_self
  refine lv_pop hx hb dX8_init_96 rfl ?_
  refine lv_iinc (v := (nI (0 + 1 + 1 + 1))) (lv' := [(1, .int (nI (0 + 1 + 1 + 1))), (0, .ref x)]) hx hb dX8_init_97 hl (k := 0) rfl (nI_1 _) (by decide) rfl (fun ls hl => ?_)
  refine lv_goto (tgt := 77) hx hb dX8_init_100 (by decide) ?_
  refine lv_iload_n hx hb dX8_init_77 rfl (lv_at hl 0 rfl) ?_
  refine lv_iconst (v := (nI 3)) hx hb dX8_init_78 (by decide) ?_
  refine lv_icmp_ge (tgt := 103) hx hb dX8_init_79 (by decide) (fun cx => ?_) (fun cx => absurd cx (by decide))
  exact fw_vret hx hb hr hlk (Nat.le_of_ble_eq_true rfl) (Nat.le_of_ble_eq_true rfl) hw dX8_init_103 (⟨lc, lt, lo, lm, lw, b9, ds, dfr, r2, (va_up (va_up (va_up (fun _ => 0) 0 p0) 1 p1) 2 p2), k27_7, k27_0, k27_1, k27_2, k27_s, k27_3, fun k hk => by
      rcases (show k = 0 ∨ k = 1 ∨ k = 2 by omega) with rfl | rfl | rfl
      · exact k27_8
      · exact k27_9
      · exact k27_10, k27_4, k27_5, k27_6⟩)
def cl_g0 : Nat → Int32 := upd (upd (upd (fun _ => 0) 0 (-1)) 1 (-1)) 2 (-1)
def cl_f0 : mm_A := va_up (va_up (fun _ _ => 0) 22 cl_g0) 23 cl_g0
set_option maxHeartbeats 4000000 in
set_option maxRecDepth 100000 in
theorem c_X9_init (l : Launch) (G : fw_G) (F : fw_F) (sz : Nat) (y : Nat) (hF : F y = some ((100, 0, 0), fw_obj 10 [.int (nI 0), .int (nI 0), .null, .null, .null, .int (nI 0), .null, .int (nI 0), .null, .null, .null, .int (nI 0), .null, .null, .null, .null, .int (nI 0), .null, .null, .null, .null, .int (nI 0), .null, .null, .null])) : Met l yX9_init (fw_ws yX9_init cX9_init 2 none) { frames := 1, cells := 18, slots := 631, locals := 20 } (va_Pc [.ref y] (fw_Pre G F sz)) (va_Qv (fun F1 => ∃ ad, mm_W G F1 y ad (fun _ => nI 0) cl_f0 ∧ fw_kp F F1 (fun w => w.1 = 100 ∨ w.1 = 101)) (fw_B G (fw_W G F sz)) (fw_W G F sz)) 18 631 (fw_W G F sz) := by
  refine fw_met (lv := [(0, .ref y)]) (by decide +kernel) (Nat.le_of_ble_eq_true rfl) rfl ?_
  intro A hA p e s m below meth c ls hx hb hml hown hT hr hlk hin hz hsz hw hAn hl
  rw [← hA]
  have hown : s.vm.findClass RX9 = some m.cls := hown
  have C : CallFix p m c cX9_init 2 s _ fw_tb RX9 := ⟨hx, hb, hml, hown, hT⟩
  have hkp0 : fw_kp F F (fun w => w.1 = 100 ∨ w.1 = 101) := fw_kp.rf
  refine lv_aload_n hx hb dX9_init_0 rfl (lv_at hl 0 rfl) ?_
  refine W.objInit hx hb hown (hT _ wd_734) (hT _ wd_33) (hT _ wd_34) rfl (hl.1.trans hml.symm) rfl dX9_init_1 (Nat.le_of_ble_eq_true rfl) (Nat.le_of_ble_eq_true rfl) ?_
  refine W.eq (g2 := F0 m 4 ls []) rfl ?_
  refine lv_aload_n hx hb dX9_init_4 rfl (lv_at hl 0 rfl) ?_
  refine lv_bipush (v := (nI 10)) hx hb dX9_init_5 (by decide) ?_
  refine fw_newa (101, 2, 0) (atype := .int) (cA := fw_cI G) (n := nI 10) (N' := 10) (a0 := (10, .inl (fun _ => 0))) hx hb (hT _ wd_811) (fun cX h9 => Option.some.inj (h9.symm.trans (hz.1.2 0 _ rfl).2)) hw hAn (fun _ => rfl) (by decide) (nI_clamp (by decide)) (Nat.le_of_ble_eq_true rfl) (Nat.le_of_ble_eq_true rfl) (Nat.le_of_ble_eq_true rfl) dX9_init_7 (fun a2 H hqa2 hw => ?_)
  refine W.widen (k := 1) (n := 10) (Nat.le_of_ble_eq_true rfl) (Nat.le_of_ble_eq_true rfl) ?_
  obtain ⟨W1, hFW1⟩ : ∃ z, z = va_up F a2 (some ((101, 2, 0), fw_ia (fw_cI G) 10 (fun _ => 0))) := ⟨_, rfl⟩
  rw [← hFW1] at hw
  have k1_0 : W1 y = some ((100, 0, 0), fw_obj 10 [.int (nI 0), .int (nI 0), .null, .null, .null, .int (nI 0), .null, .int (nI 0), .null, .null, .null, .int (nI 0), .null, .null, .null, .null, .int (nI 0), .null, .null, .null, .null, .int (nI 0), .null, .null, .null]) := by rw [hFW1]; exact fw_up_new hF hqa2
  have k1_s : W1 a2 = some ((101, 2, 0), fw_ia (fw_cI G) 10 (fun _ => 0)) := by rw [hFW1]; exact fw_up_self
  have hkp1 : fw_kp F W1 (fun w => w.1 = 100 ∨ w.1 = 101) := by rw [hFW1]; exact hkp0.new hqa2
  refine fw_putF (v := .ref a2) (fs' := [.int (nI 0), .int (nI 0), .ref a2, .null, .null, .int (nI 0), .null, .int (nI 0), .null, .null, .null, .int (nI 0), .null, .null, .null, .null, .int (nI 0), .null, .null, .null, .null, .int (nI 0), .null, .null, .null]) hx hb hT fi_RX9 tyX9 tyX9_ok nmX9 hown hz hw k1_0 rfl 2 (by decide) (hT _ wd_737) (fun _ h9 => h9) rfl (hin rfl) rfl (ty := tyX9 2) (by decide +kernel) rfl rfl (Nat.le_of_ble_eq_true rfl) rfl dX9_init_9 (fun H locs hw => ?_)
  obtain ⟨W2, hFW2⟩ : ∃ z, z = va_up W1 y (some ((100, 0, 0), fw_obj 10 [.int (nI 0), .int (nI 0), .ref a2, .null, .null, .int (nI 0), .null, .int (nI 0), .null, .null, .null, .int (nI 0), .null, .null, .null, .null, .int (nI 0), .null, .null, .null, .null, .int (nI 0), .null, .null, .null])) := ⟨_, rfl⟩
  rw [← hFW2] at hw
  have k2_0 : W2 a2 = some ((101, 2, 0), fw_ia (fw_cI G) 10 (fun _ => 0)) := by rw [hFW2]; exact fw_up_tag k1_s k1_0 (by intro z; cases z)
  have k2_s : W2 y = some ((100, 0, 0), fw_obj 10 [.int (nI 0), .int (nI 0), .ref a2, .null, .null, .int (nI 0), .null, .int (nI 0), .null, .null, .null, .int (nI 0), .null, .null, .null, .null, .int (nI 0), .null, .null, .null, .null, .int (nI 0), .null, .null, .null]) := by rw [hFW2]; exact fw_up_self
  have hkp2 : fw_kp F W2 (fun w => w.1 = 100 ∨ w.1 = 101) := by rw [hFW2]; exact hkp1.up k1_0 (Or.inl rfl)
  refine lv_aload_n hx hb dX9_init_12 rfl (lv_at hl 0 rfl) ?_
  refine lv_bipush (v := (nI 10)) hx hb dX9_init_13 (by decide) ?_
  refine fw_newa (101, 3, 0) (atype := .int) (cA := fw_cI G) (n := nI 10) (N' := 10) (a0 := (10, .inl (fun _ => 0))) hx hb (hT _ wd_811) (fun cX h9 => Option.some.inj (h9.symm.trans (hz.1.2 0 _ rfl).2)) hw hAn (fun _ => rfl) (by decide) (nI_clamp (by decide)) (Nat.le_of_ble_eq_true rfl) (Nat.le_of_ble_eq_true rfl) (Nat.le_of_ble_eq_true rfl) dX9_init_15 (fun a3 H hqa3 hw => ?_)
  refine W.widen (k := 2) (n := 20) (Nat.le_of_ble_eq_true rfl) (Nat.le_of_ble_eq_true rfl) ?_
  obtain ⟨W3, hFW3⟩ : ∃ z, z = va_up W2 a3 (some ((101, 3, 0), fw_ia (fw_cI G) 10 (fun _ => 0))) := ⟨_, rfl⟩
  rw [← hFW3] at hw
  have k3_0 : W3 a2 = some ((101, 2, 0), fw_ia (fw_cI G) 10 (fun _ => 0)) := by rw [hFW3]; exact fw_up_new k2_0 hqa3
  have k3_1 : W3 y = some ((100, 0, 0), fw_obj 10 [.int (nI 0), .int (nI 0), .ref a2, .null, .null, .int (nI 0), .null, .int (nI 0), .null, .null, .null, .int (nI 0), .null, .null, .null, .null, .int (nI 0), .null, .null, .null, .null, .int (nI 0), .null, .null, .null]) := by rw [hFW3]; exact fw_up_new k2_s hqa3
  have k3_s : W3 a3 = some ((101, 3, 0), fw_ia (fw_cI G) 10 (fun _ => 0)) := by rw [hFW3]; exact fw_up_self
  have hkp3 : fw_kp F W3 (fun w => w.1 = 100 ∨ w.1 = 101) := by rw [hFW3]; exact hkp2.new hqa3
  refine fw_putF (v := .ref a3) (fs' := [.int (nI 0), .int (nI 0), .ref a2, .ref a3, .null, .int (nI 0), .null, .int (nI 0), .null, .null, .null, .int (nI 0), .null, .null, .null, .null, .int (nI 0), .null, .null, .null, .null, .int (nI 0), .null, .null, .null]) hx hb hT fi_RX9 tyX9 tyX9_ok nmX9 hown hz hw k3_1 rfl 3 (by decide) (hT _ wd_738) (fun _ h9 => h9) rfl (hin rfl) rfl (ty := tyX9 3) (by decide +kernel) rfl rfl (Nat.le_of_ble_eq_true rfl) rfl dX9_init_17 (fun H locs hw => ?_)
  obtain ⟨W4, hFW4⟩ : ∃ z, z = va_up W3 y (some ((100, 0, 0), fw_obj 10 [.int (nI 0), .int (nI 0), .ref a2, .ref a3, .null, .int (nI 0), .null, .int (nI 0), .null, .null, .null, .int (nI 0), .null, .null, .null, .null, .int (nI 0), .null, .null, .null, .null, .int (nI 0), .null, .null, .null])) := ⟨_, rfl⟩
  rw [← hFW4] at hw
  have k4_0 : W4 a2 = some ((101, 2, 0), fw_ia (fw_cI G) 10 (fun _ => 0)) := by rw [hFW4]; exact fw_up_tag k3_0 k3_1 (by intro z; cases z)
  have k4_1 : W4 a3 = some ((101, 3, 0), fw_ia (fw_cI G) 10 (fun _ => 0)) := by rw [hFW4]; exact fw_up_tag k3_s k3_1 (by intro z; cases z)
  have k4_s : W4 y = some ((100, 0, 0), fw_obj 10 [.int (nI 0), .int (nI 0), .ref a2, .ref a3, .null, .int (nI 0), .null, .int (nI 0), .null, .null, .null, .int (nI 0), .null, .null, .null, .null, .int (nI 0), .null, .null, .null, .null, .int (nI 0), .null, .null, .null]) := by rw [hFW4]; exact fw_up_self
  have hkp4 : fw_kp F W4 (fun w => w.1 = 100 ∨ w.1 = 101) := by rw [hFW4]; exact hkp3.up k3_1 (Or.inl rfl)
  refine lv_aload_n hx hb dX9_init_20 rfl (lv_at hl 0 rfl) ?_
  refine lv_bipush (v := (nI 10)) hx hb dX9_init_21 (by decide) ?_
  refine fw_newa (101, 4, 0) (atype := .int) (cA := fw_cI G) (n := nI 10) (N' := 10) (a0 := (10, .inl (fun _ => 0))) hx hb (hT _ wd_811) (fun cX h9 => Option.some.inj (h9.symm.trans (hz.1.2 0 _ rfl).2)) hw hAn (fun _ => rfl) (by decide) (nI_clamp (by decide)) (Nat.le_of_ble_eq_true rfl) (Nat.le_of_ble_eq_true rfl) (Nat.le_of_ble_eq_true rfl) dX9_init_23 (fun a4 H hqa4 hw => ?_)
  refine W.widen (k := 3) (n := 30) (Nat.le_of_ble_eq_true rfl) (Nat.le_of_ble_eq_true rfl) ?_
  obtain ⟨W5, hFW5⟩ : ∃ z, z = va_up W4 a4 (some ((101, 4, 0), fw_ia (fw_cI G) 10 (fun _ => 0))) := ⟨_, rfl⟩
  rw [← hFW5] at hw
  have k5_0 : W5 a2 = some ((101, 2, 0), fw_ia (fw_cI G) 10 (fun _ => 0)) := by rw [hFW5]; exact fw_up_new k4_0 hqa4
  have k5_1 : W5 a3 = some ((101, 3, 0), fw_ia (fw_cI G) 10 (fun _ => 0)) := by rw [hFW5]; exact fw_up_new k4_1 hqa4
  have k5_2 : W5 y = some ((100, 0, 0), fw_obj 10 [.int (nI 0), .int (nI 0), .ref a2, .ref a3, .null, .int (nI 0), .null, .int (nI 0), .null, .null, .null, .int (nI 0), .null, .null, .null, .null, .int (nI 0), .null, .null, .null, .null, .int (nI 0), .null, .null, .null]) := by rw [hFW5]; exact fw_up_new k4_s hqa4
  have k5_s : W5 a4 = some ((101, 4, 0), fw_ia (fw_cI G) 10 (fun _ => 0)) := by rw [hFW5]; exact fw_up_self
  have hkp5 : fw_kp F W5 (fun w => w.1 = 100 ∨ w.1 = 101) := by rw [hFW5]; exact hkp4.new hqa4
  refine fw_putF (v := .ref a4) (fs' := [.int (nI 0), .int (nI 0), .ref a2, .ref a3, .ref a4, .int (nI 0), .null, .int (nI 0), .null, .null, .null, .int (nI 0), .null, .null, .null, .null, .int (nI 0), .null, .null, .null, .null, .int (nI 0), .null, .null, .null]) hx hb hT fi_RX9 tyX9 tyX9_ok nmX9 hown hz hw k5_2 rfl 4 (by decide) (hT _ wd_739) (fun _ h9 => h9) rfl (hin rfl) rfl (ty := tyX9 4) (by decide +kernel) rfl rfl (Nat.le_of_ble_eq_true rfl) rfl dX9_init_25 (fun H locs hw => ?_)
  obtain ⟨W6, hFW6⟩ : ∃ z, z = va_up W5 y (some ((100, 0, 0), fw_obj 10 [.int (nI 0), .int (nI 0), .ref a2, .ref a3, .ref a4, .int (nI 0), .null, .int (nI 0), .null, .null, .null, .int (nI 0), .null, .null, .null, .null, .int (nI 0), .null, .null, .null, .null, .int (nI 0), .null, .null, .null])) := ⟨_, rfl⟩
  rw [← hFW6] at hw
  have k6_0 : W6 a2 = some ((101, 2, 0), fw_ia (fw_cI G) 10 (fun _ => 0)) := by rw [hFW6]; exact fw_up_tag k5_0 k5_2 (by intro z; cases z)
  have k6_1 : W6 a3 = some ((101, 3, 0), fw_ia (fw_cI G) 10 (fun _ => 0)) := by rw [hFW6]; exact fw_up_tag k5_1 k5_2 (by intro z; cases z)
  have k6_2 : W6 a4 = some ((101, 4, 0), fw_ia (fw_cI G) 10 (fun _ => 0)) := by rw [hFW6]; exact fw_up_tag k5_s k5_2 (by intro z; cases z)
  have k6_s : W6 y = some ((100, 0, 0), fw_obj 10 [.int (nI 0), .int (nI 0), .ref a2, .ref a3, .ref a4, .int (nI 0), .null, .int (nI 0), .null, .null, .null, .int (nI 0), .null, .null, .null, .null, .int (nI 0), .null, .null, .null, .null, .int (nI 0), .null, .null, .null]) := by rw [hFW6]; exact fw_up_self
  have hkp6 : fw_kp F W6 (fun w => w.1 = 100 ∨ w.1 = 101) := by rw [hFW6]; exact hkp5.up k5_2 (Or.inl rfl)
  refine lv_aload_n hx hb dX9_init_28 rfl (lv_at hl 0 rfl) ?_
  refine lv_bipush (v := (nI 12)) hx hb dX9_init_29 (by decide) ?_
  refine fw_newa (101, 6, 0) (atype := .int) (cA := fw_cI G) (n := nI 12) (N' := 12) (a0 := (12, .inl (fun _ => 0))) hx hb (hT _ wd_811) (fun cX h9 => Option.some.inj (h9.symm.trans (hz.1.2 0 _ rfl).2)) hw hAn (fun _ => rfl) (by decide) (nI_clamp (by decide)) (Nat.le_of_ble_eq_true rfl) (Nat.le_of_ble_eq_true rfl) (Nat.le_of_ble_eq_true rfl) dX9_init_31 (fun a6 H hqa6 hw => ?_)
  refine W.widen (k := 4) (n := 42) (Nat.le_of_ble_eq_true rfl) (Nat.le_of_ble_eq_true rfl) ?_
  obtain ⟨W7, hFW7⟩ : ∃ z, z = va_up W6 a6 (some ((101, 6, 0), fw_ia (fw_cI G) 12 (fun _ => 0))) := ⟨_, rfl⟩
  rw [← hFW7] at hw
  have k7_0 : W7 a2 = some ((101, 2, 0), fw_ia (fw_cI G) 10 (fun _ => 0)) := by rw [hFW7]; exact fw_up_new k6_0 hqa6
  have k7_1 : W7 a3 = some ((101, 3, 0), fw_ia (fw_cI G) 10 (fun _ => 0)) := by rw [hFW7]; exact fw_up_new k6_1 hqa6
  have k7_2 : W7 a4 = some ((101, 4, 0), fw_ia (fw_cI G) 10 (fun _ => 0)) := by rw [hFW7]; exact fw_up_new k6_2 hqa6
  have k7_3 : W7 y = some ((100, 0, 0), fw_obj 10 [.int (nI 0), .int (nI 0), .ref a2, .ref a3, .ref a4, .int (nI 0), .null, .int (nI 0), .null, .null, .null, .int (nI 0), .null, .null, .null, .null, .int (nI 0), .null, .null, .null, .null, .int (nI 0), .null, .null, .null]) := by rw [hFW7]; exact fw_up_new k6_s hqa6
  have k7_s : W7 a6 = some ((101, 6, 0), fw_ia (fw_cI G) 12 (fun _ => 0)) := by rw [hFW7]; exact fw_up_self
  have hkp7 : fw_kp F W7 (fun w => w.1 = 100 ∨ w.1 = 101) := by rw [hFW7]; exact hkp6.new hqa6
  refine fw_putF (v := .ref a6) (fs' := [.int (nI 0), .int (nI 0), .ref a2, .ref a3, .ref a4, .int (nI 0), .ref a6, .int (nI 0), .null, .null, .null, .int (nI 0), .null, .null, .null, .null, .int (nI 0), .null, .null, .null, .null, .int (nI 0), .null, .null, .null]) hx hb hT fi_RX9 tyX9 tyX9_ok nmX9 hown hz hw k7_3 rfl 6 (by decide) (hT _ wd_741) (fun _ h9 => h9) rfl (hin rfl) rfl (ty := tyX9 6) (by decide +kernel) rfl rfl (Nat.le_of_ble_eq_true rfl) rfl dX9_init_33 (fun H locs hw => ?_)
  obtain ⟨W8, hFW8⟩ : ∃ z, z = va_up W7 y (some ((100, 0, 0), fw_obj 10 [.int (nI 0), .int (nI 0), .ref a2, .ref a3, .ref a4, .int (nI 0), .ref a6, .int (nI 0), .null, .null, .null, .int (nI 0), .null, .null, .null, .null, .int (nI 0), .null, .null, .null, .null, .int (nI 0), .null, .null, .null])) := ⟨_, rfl⟩
  rw [← hFW8] at hw
  have k8_0 : W8 a2 = some ((101, 2, 0), fw_ia (fw_cI G) 10 (fun _ => 0)) := by rw [hFW8]; exact fw_up_tag k7_0 k7_3 (by intro z; cases z)
  have k8_1 : W8 a3 = some ((101, 3, 0), fw_ia (fw_cI G) 10 (fun _ => 0)) := by rw [hFW8]; exact fw_up_tag k7_1 k7_3 (by intro z; cases z)
  have k8_2 : W8 a4 = some ((101, 4, 0), fw_ia (fw_cI G) 10 (fun _ => 0)) := by rw [hFW8]; exact fw_up_tag k7_2 k7_3 (by intro z; cases z)
  have k8_3 : W8 a6 = some ((101, 6, 0), fw_ia (fw_cI G) 12 (fun _ => 0)) := by rw [hFW8]; exact fw_up_tag k7_s k7_3 (by intro z; cases z)
  have k8_s : W8 y = some ((100, 0, 0), fw_obj 10 [.int (nI 0), .int (nI 0), .ref a2, .ref a3, .ref a4, .int (nI 0), .ref a6, .int (nI 0), .null, .null, .null, .int (nI 0), .null, .null, .null, .null, .int (nI 0), .null, .null, .null, .null, .int (nI 0), .null, .null, .null]) := by rw [hFW8]; exact fw_up_self
  have hkp8 : fw_kp F W8 (fun w => w.1 = 100 ∨ w.1 = 101) := by rw [hFW8]; exact hkp7.up k7_3 (Or.inl rfl)
  refine lv_aload_n hx hb dX9_init_36 rfl (lv_at hl 0 rfl) ?_
  refine lv_bipush (v := (nI 8)) hx hb dX9_init_37 (by decide) ?_
  refine fw_newa (101, 8, 0) (atype := .int) (cA := fw_cI G) (n := nI 8) (N' := 8) (a0 := (8, .inl (fun _ => 0))) hx hb (hT _ wd_811) (fun cX h9 => Option.some.inj (h9.symm.trans (hz.1.2 0 _ rfl).2)) hw hAn (fun _ => rfl) (by decide) (nI_clamp (by decide)) (Nat.le_of_ble_eq_true rfl) (Nat.le_of_ble_eq_true rfl) (Nat.le_of_ble_eq_true rfl) dX9_init_39 (fun a8 H hqa8 hw => ?_)
  refine W.widen (k := 5) (n := 50) (Nat.le_of_ble_eq_true rfl) (Nat.le_of_ble_eq_true rfl) ?_
  obtain ⟨W9, hFW9⟩ : ∃ z, z = va_up W8 a8 (some ((101, 8, 0), fw_ia (fw_cI G) 8 (fun _ => 0))) := ⟨_, rfl⟩
  rw [← hFW9] at hw
  have k9_0 : W9 a2 = some ((101, 2, 0), fw_ia (fw_cI G) 10 (fun _ => 0)) := by rw [hFW9]; exact fw_up_new k8_0 hqa8
  have k9_1 : W9 a3 = some ((101, 3, 0), fw_ia (fw_cI G) 10 (fun _ => 0)) := by rw [hFW9]; exact fw_up_new k8_1 hqa8
  have k9_2 : W9 a4 = some ((101, 4, 0), fw_ia (fw_cI G) 10 (fun _ => 0)) := by rw [hFW9]; exact fw_up_new k8_2 hqa8
  have k9_3 : W9 a6 = some ((101, 6, 0), fw_ia (fw_cI G) 12 (fun _ => 0)) := by rw [hFW9]; exact fw_up_new k8_3 hqa8
  have k9_4 : W9 y = some ((100, 0, 0), fw_obj 10 [.int (nI 0), .int (nI 0), .ref a2, .ref a3, .ref a4, .int (nI 0), .ref a6, .int (nI 0), .null, .null, .null, .int (nI 0), .null, .null, .null, .null, .int (nI 0), .null, .null, .null, .null, .int (nI 0), .null, .null, .null]) := by rw [hFW9]; exact fw_up_new k8_s hqa8
  have k9_s : W9 a8 = some ((101, 8, 0), fw_ia (fw_cI G) 8 (fun _ => 0)) := by rw [hFW9]; exact fw_up_self
  have hkp9 : fw_kp F W9 (fun w => w.1 = 100 ∨ w.1 = 101) := by rw [hFW9]; exact hkp8.new hqa8
  refine fw_putF (v := .ref a8) (fs' := [.int (nI 0), .int (nI 0), .ref a2, .ref a3, .ref a4, .int (nI 0), .ref a6, .int (nI 0), .ref a8, .null, .null, .int (nI 0), .null, .null, .null, .null, .int (nI 0), .null, .null, .null, .null, .int (nI 0), .null, .null, .null]) hx hb hT fi_RX9 tyX9 tyX9_ok nmX9 hown hz hw k9_4 rfl 8 (by decide) (hT _ wd_743) (fun _ h9 => h9) rfl (hin rfl) rfl (ty := tyX9 8) (by decide +kernel) rfl rfl (Nat.le_of_ble_eq_true rfl) rfl dX9_init_41 (fun H locs hw => ?_)
  obtain ⟨W10, hFW10⟩ : ∃ z, z = va_up W9 y (some ((100, 0, 0), fw_obj 10 [.int (nI 0), .int (nI 0), .ref a2, .ref a3, .ref a4, .int (nI 0), .ref a6, .int (nI 0), .ref a8, .null, .null, .int (nI 0), .null, .null, .null, .null, .int (nI 0), .null, .null, .null, .null, .int (nI 0), .null, .null, .null])) := ⟨_, rfl⟩
  rw [← hFW10] at hw
  have k10_0 : W10 a2 = some ((101, 2, 0), fw_ia (fw_cI G) 10 (fun _ => 0)) := by rw [hFW10]; exact fw_up_tag k9_0 k9_4 (by intro z; cases z)
  have k10_1 : W10 a3 = some ((101, 3, 0), fw_ia (fw_cI G) 10 (fun _ => 0)) := by rw [hFW10]; exact fw_up_tag k9_1 k9_4 (by intro z; cases z)
  have k10_2 : W10 a4 = some ((101, 4, 0), fw_ia (fw_cI G) 10 (fun _ => 0)) := by rw [hFW10]; exact fw_up_tag k9_2 k9_4 (by intro z; cases z)
  have k10_3 : W10 a6 = some ((101, 6, 0), fw_ia (fw_cI G) 12 (fun _ => 0)) := by rw [hFW10]; exact fw_up_tag k9_3 k9_4 (by intro z; cases z)
  have k10_4 : W10 a8 = some ((101, 8, 0), fw_ia (fw_cI G) 8 (fun _ => 0)) := by rw [hFW10]; exact fw_up_tag k9_s k9_4 (by intro z; cases z)
  have k10_s : W10 y = some ((100, 0, 0), fw_obj 10 [.int (nI 0), .int (nI 0), .ref a2, .ref a3, .ref a4, .int (nI 0), .ref a6, .int (nI 0), .ref a8, .null, .null, .int (nI 0), .null, .null, .null, .null, .int (nI 0), .null, .null, .null, .null, .int (nI 0), .null, .null, .null]) := by rw [hFW10]; exact fw_up_self
  have hkp10 : fw_kp F W10 (fun w => w.1 = 100 ∨ w.1 = 101) := by rw [hFW10]; exact hkp9.up k9_4 (Or.inl rfl)
  refine lv_aload_n hx hb dX9_init_44 rfl (lv_at hl 0 rfl) ?_
  refine lv_bipush (v := (nI 96)) hx hb dX9_init_45 (by decide) ?_
  refine fw_newa (101, 9, 0) (atype := .int) (cA := fw_cI G) (n := nI 96) (N' := 96) (a0 := (96, .inl (fun _ => 0))) hx hb (hT _ wd_811) (fun cX h9 => Option.some.inj (h9.symm.trans (hz.1.2 0 _ rfl).2)) hw hAn (fun _ => rfl) (by decide) (nI_clamp (by decide)) (Nat.le_of_ble_eq_true rfl) (Nat.le_of_ble_eq_true rfl) (Nat.le_of_ble_eq_true rfl) dX9_init_47 (fun a9 H hqa9 hw => ?_)
  refine W.widen (k := 6) (n := 146) (Nat.le_of_ble_eq_true rfl) (Nat.le_of_ble_eq_true rfl) ?_
  obtain ⟨W11, hFW11⟩ : ∃ z, z = va_up W10 a9 (some ((101, 9, 0), fw_ia (fw_cI G) 96 (fun _ => 0))) := ⟨_, rfl⟩
  rw [← hFW11] at hw
  have k11_0 : W11 a2 = some ((101, 2, 0), fw_ia (fw_cI G) 10 (fun _ => 0)) := by rw [hFW11]; exact fw_up_new k10_0 hqa9
  have k11_1 : W11 a3 = some ((101, 3, 0), fw_ia (fw_cI G) 10 (fun _ => 0)) := by rw [hFW11]; exact fw_up_new k10_1 hqa9
  have k11_2 : W11 a4 = some ((101, 4, 0), fw_ia (fw_cI G) 10 (fun _ => 0)) := by rw [hFW11]; exact fw_up_new k10_2 hqa9
  have k11_3 : W11 a6 = some ((101, 6, 0), fw_ia (fw_cI G) 12 (fun _ => 0)) := by rw [hFW11]; exact fw_up_new k10_3 hqa9
  have k11_4 : W11 a8 = some ((101, 8, 0), fw_ia (fw_cI G) 8 (fun _ => 0)) := by rw [hFW11]; exact fw_up_new k10_4 hqa9
  have k11_5 : W11 y = some ((100, 0, 0), fw_obj 10 [.int (nI 0), .int (nI 0), .ref a2, .ref a3, .ref a4, .int (nI 0), .ref a6, .int (nI 0), .ref a8, .null, .null, .int (nI 0), .null, .null, .null, .null, .int (nI 0), .null, .null, .null, .null, .int (nI 0), .null, .null, .null]) := by rw [hFW11]; exact fw_up_new k10_s hqa9
  have k11_s : W11 a9 = some ((101, 9, 0), fw_ia (fw_cI G) 96 (fun _ => 0)) := by rw [hFW11]; exact fw_up_self
  have hkp11 : fw_kp F W11 (fun w => w.1 = 100 ∨ w.1 = 101) := by rw [hFW11]; exact hkp10.new hqa9
  refine fw_putF (v := .ref a9) (fs' := [.int (nI 0), .int (nI 0), .ref a2, .ref a3, .ref a4, .int (nI 0), .ref a6, .int (nI 0), .ref a8, .ref a9, .null, .int (nI 0), .null, .null, .null, .null, .int (nI 0), .null, .null, .null, .null, .int (nI 0), .null, .null, .null]) hx hb hT fi_RX9 tyX9 tyX9_ok nmX9 hown hz hw k11_5 rfl 9 (by decide) (hT _ wd_744) (fun _ h9 => h9) rfl (hin rfl) rfl (ty := tyX9 9) (by decide +kernel) rfl rfl (Nat.le_of_ble_eq_true rfl) rfl dX9_init_49 (fun H locs hw => ?_)
  obtain ⟨W12, hFW12⟩ : ∃ z, z = va_up W11 y (some ((100, 0, 0), fw_obj 10 [.int (nI 0), .int (nI 0), .ref a2, .ref a3, .ref a4, .int (nI 0), .ref a6, .int (nI 0), .ref a8, .ref a9, .null, .int (nI 0), .null, .null, .null, .null, .int (nI 0), .null, .null, .null, .null, .int (nI 0), .null, .null, .null])) := ⟨_, rfl⟩
  rw [← hFW12] at hw
  have k12_0 : W12 a2 = some ((101, 2, 0), fw_ia (fw_cI G) 10 (fun _ => 0)) := by rw [hFW12]; exact fw_up_tag k11_0 k11_5 (by intro z; cases z)
  have k12_1 : W12 a3 = some ((101, 3, 0), fw_ia (fw_cI G) 10 (fun _ => 0)) := by rw [hFW12]; exact fw_up_tag k11_1 k11_5 (by intro z; cases z)
  have k12_2 : W12 a4 = some ((101, 4, 0), fw_ia (fw_cI G) 10 (fun _ => 0)) := by rw [hFW12]; exact fw_up_tag k11_2 k11_5 (by intro z; cases z)
  have k12_3 : W12 a6 = some ((101, 6, 0), fw_ia (fw_cI G) 12 (fun _ => 0)) := by rw [hFW12]; exact fw_up_tag k11_3 k11_5 (by intro z; cases z)
  have k12_4 : W12 a8 = some ((101, 8, 0), fw_ia (fw_cI G) 8 (fun _ => 0)) := by rw [hFW12]; exact fw_up_tag k11_4 k11_5 (by intro z; cases z)
  have k12_5 : W12 a9 = some ((101, 9, 0), fw_ia (fw_cI G) 96 (fun _ => 0)) := by rw [hFW12]; exact fw_up_tag k11_s k11_5 (by intro z; cases z)
  have k12_s : W12 y = some ((100, 0, 0), fw_obj 10 [.int (nI 0), .int (nI 0), .ref a2, .ref a3, .ref a4, .int (nI 0), .ref a6, .int (nI 0), .ref a8, .ref a9, .null, .int (nI 0), .null, .null, .null, .null, .int (nI 0), .null, .null, .null, .null, .int (nI 0), .null, .null, .null]) := by rw [hFW12]; exact fw_up_self
  have hkp12 : fw_kp F W12 (fun w => w.1 = 100 ∨ w.1 = 101) := by rw [hFW12]; exact hkp11.up k11_5 (Or.inl rfl)
  refine lv_aload_n hx hb dX9_init_52 rfl (lv_at hl 0 rfl) ?_
  refine lv_bipush (v := (nI 8)) hx hb dX9_init_53 (by decide) ?_
  refine fw_newa (101, 10, 0) (atype := .int) (cA := fw_cI G) (n := nI 8) (N' := 8) (a0 := (8, .inl (fun _ => 0))) hx hb (hT _ wd_811) (fun cX h9 => Option.some.inj (h9.symm.trans (hz.1.2 0 _ rfl).2)) hw hAn (fun _ => rfl) (by decide) (nI_clamp (by decide)) (Nat.le_of_ble_eq_true rfl) (Nat.le_of_ble_eq_true rfl) (Nat.le_of_ble_eq_true rfl) dX9_init_55 (fun a10 H hqa10 hw => ?_)
  refine W.widen (k := 7) (n := 154) (Nat.le_of_ble_eq_true rfl) (Nat.le_of_ble_eq_true rfl) ?_
  obtain ⟨W13, hFW13⟩ : ∃ z, z = va_up W12 a10 (some ((101, 10, 0), fw_ia (fw_cI G) 8 (fun _ => 0))) := ⟨_, rfl⟩
  rw [← hFW13] at hw
  have k13_0 : W13 a2 = some ((101, 2, 0), fw_ia (fw_cI G) 10 (fun _ => 0)) := by rw [hFW13]; exact fw_up_new k12_0 hqa10
  have k13_1 : W13 a3 = some ((101, 3, 0), fw_ia (fw_cI G) 10 (fun _ => 0)) := by rw [hFW13]; exact fw_up_new k12_1 hqa10
  have k13_2 : W13 a4 = some ((101, 4, 0), fw_ia (fw_cI G) 10 (fun _ => 0)) := by rw [hFW13]; exact fw_up_new k12_2 hqa10
  have k13_3 : W13 a6 = some ((101, 6, 0), fw_ia (fw_cI G) 12 (fun _ => 0)) := by rw [hFW13]; exact fw_up_new k12_3 hqa10
  have k13_4 : W13 a8 = some ((101, 8, 0), fw_ia (fw_cI G) 8 (fun _ => 0)) := by rw [hFW13]; exact fw_up_new k12_4 hqa10
  have k13_5 : W13 a9 = some ((101, 9, 0), fw_ia (fw_cI G) 96 (fun _ => 0)) := by rw [hFW13]; exact fw_up_new k12_5 hqa10
  have k13_6 : W13 y = some ((100, 0, 0), fw_obj 10 [.int (nI 0), .int (nI 0), .ref a2, .ref a3, .ref a4, .int (nI 0), .ref a6, .int (nI 0), .ref a8, .ref a9, .null, .int (nI 0), .null, .null, .null, .null, .int (nI 0), .null, .null, .null, .null, .int (nI 0), .null, .null, .null]) := by rw [hFW13]; exact fw_up_new k12_s hqa10
  have k13_s : W13 a10 = some ((101, 10, 0), fw_ia (fw_cI G) 8 (fun _ => 0)) := by rw [hFW13]; exact fw_up_self
  have hkp13 : fw_kp F W13 (fun w => w.1 = 100 ∨ w.1 = 101) := by rw [hFW13]; exact hkp12.new hqa10
  refine fw_putF (v := .ref a10) (fs' := [.int (nI 0), .int (nI 0), .ref a2, .ref a3, .ref a4, .int (nI 0), .ref a6, .int (nI 0), .ref a8, .ref a9, .ref a10, .int (nI 0), .null, .null, .null, .null, .int (nI 0), .null, .null, .null, .null, .int (nI 0), .null, .null, .null]) hx hb hT fi_RX9 tyX9 tyX9_ok nmX9 hown hz hw k13_6 rfl 10 (by decide) (hT _ wd_745) (fun _ h9 => h9) rfl (hin rfl) rfl (ty := tyX9 10) (by decide +kernel) rfl rfl (Nat.le_of_ble_eq_true rfl) rfl dX9_init_57 (fun H locs hw => ?_)
  obtain ⟨W14, hFW14⟩ : ∃ z, z = va_up W13 y (some ((100, 0, 0), fw_obj 10 [.int (nI 0), .int (nI 0), .ref a2, .ref a3, .ref a4, .int (nI 0), .ref a6, .int (nI 0), .ref a8, .ref a9, .ref a10, .int (nI 0), .null, .null, .null, .null, .int (nI 0), .null, .null, .null, .null, .int (nI 0), .null, .null, .null])) := ⟨_, rfl⟩
  rw [← hFW14] at hw
  have k14_0 : W14 a2 = some ((101, 2, 0), fw_ia (fw_cI G) 10 (fun _ => 0)) := by rw [hFW14]; exact fw_up_tag k13_0 k13_6 (by intro z; cases z)
  have k14_1 : W14 a3 = some ((101, 3, 0), fw_ia (fw_cI G) 10 (fun _ => 0)) := by rw [hFW14]; exact fw_up_tag k13_1 k13_6 (by intro z; cases z)
  have k14_2 : W14 a4 = some ((101, 4, 0), fw_ia (fw_cI G) 10 (fun _ => 0)) := by rw [hFW14]; exact fw_up_tag k13_2 k13_6 (by intro z; cases z)
  have k14_3 : W14 a6 = some ((101, 6, 0), fw_ia (fw_cI G) 12 (fun _ => 0)) := by rw [hFW14]; exact fw_up_tag k13_3 k13_6 (by intro z; cases z)
  have k14_4 : W14 a8 = some ((101, 8, 0), fw_ia (fw_cI G) 8 (fun _ => 0)) := by rw [hFW14]; exact fw_up_tag k13_4 k13_6 (by intro z; cases z)
  have k14_5 : W14 a9 = some ((101, 9, 0), fw_ia (fw_cI G) 96 (fun _ => 0)) := by rw [hFW14]; exact fw_up_tag k13_5 k13_6 (by intro z; cases z)
  have k14_6 : W14 a10 = some ((101, 10, 0), fw_ia (fw_cI G) 8 (fun _ => 0)) := by rw [hFW14]; exact fw_up_tag k13_s k13_6 (by intro z; cases z)
  have k14_s : W14 y = some ((100, 0, 0), fw_obj 10 [.int (nI 0), .int (nI 0), .ref a2, .ref a3, .ref a4, .int (nI 0), .ref a6, .int (nI 0), .ref a8, .ref a9, .ref a10, .int (nI 0), .null, .null, .null, .null, .int (nI 0), .null, .null, .null, .null, .int (nI 0), .null, .null, .null]) := by rw [hFW14]; exact fw_up_self
  have hkp14 : fw_kp F W14 (fun w => w.1 = 100 ∨ w.1 = 101) := by rw [hFW14]; exact hkp13.up k13_6 (Or.inl rfl)
  refine lv_aload_n hx hb dX9_init_60 rfl (lv_at hl 0 rfl) ?_
  refine lv_bipush (v := (nI 12)) hx hb dX9_init_61 (by decide) ?_
  refine fw_newa (101, 12, 0) (atype := .int) (cA := fw_cI G) (n := nI 12) (N' := 12) (a0 := (12, .inl (fun _ => 0))) hx hb (hT _ wd_811) (fun cX h9 => Option.some.inj (h9.symm.trans (hz.1.2 0 _ rfl).2)) hw hAn (fun _ => rfl) (by decide) (nI_clamp (by decide)) (Nat.le_of_ble_eq_true rfl) (Nat.le_of_ble_eq_true rfl) (Nat.le_of_ble_eq_true rfl) dX9_init_63 (fun a12 H hqa12 hw => ?_)
  refine W.widen (k := 8) (n := 166) (Nat.le_of_ble_eq_true rfl) (Nat.le_of_ble_eq_true rfl) ?_
  obtain ⟨W15, hFW15⟩ : ∃ z, z = va_up W14 a12 (some ((101, 12, 0), fw_ia (fw_cI G) 12 (fun _ => 0))) := ⟨_, rfl⟩
  rw [← hFW15] at hw
  have k15_0 : W15 a2 = some ((101, 2, 0), fw_ia (fw_cI G) 10 (fun _ => 0)) := by rw [hFW15]; exact fw_up_new k14_0 hqa12
  have k15_1 : W15 a3 = some ((101, 3, 0), fw_ia (fw_cI G) 10 (fun _ => 0)) := by rw [hFW15]; exact fw_up_new k14_1 hqa12
  have k15_2 : W15 a4 = some ((101, 4, 0), fw_ia (fw_cI G) 10 (fun _ => 0)) := by rw [hFW15]; exact fw_up_new k14_2 hqa12
  have k15_3 : W15 a6 = some ((101, 6, 0), fw_ia (fw_cI G) 12 (fun _ => 0)) := by rw [hFW15]; exact fw_up_new k14_3 hqa12
  have k15_4 : W15 a8 = some ((101, 8, 0), fw_ia (fw_cI G) 8 (fun _ => 0)) := by rw [hFW15]; exact fw_up_new k14_4 hqa12
  have k15_5 : W15 a9 = some ((101, 9, 0), fw_ia (fw_cI G) 96 (fun _ => 0)) := by rw [hFW15]; exact fw_up_new k14_5 hqa12
  have k15_6 : W15 a10 = some ((101, 10, 0), fw_ia (fw_cI G) 8 (fun _ => 0)) := by rw [hFW15]; exact fw_up_new k14_6 hqa12
  have k15_7 : W15 y = some ((100, 0, 0), fw_obj 10 [.int (nI 0), .int (nI 0), .ref a2, .ref a3, .ref a4, .int (nI 0), .ref a6, .int (nI 0), .ref a8, .ref a9, .ref a10, .int (nI 0), .null, .null, .null, .null, .int (nI 0), .null, .null, .null, .null, .int (nI 0), .null, .null, .null]) := by rw [hFW15]; exact fw_up_new k14_s hqa12
  have k15_s : W15 a12 = some ((101, 12, 0), fw_ia (fw_cI G) 12 (fun _ => 0)) := by rw [hFW15]; exact fw_up_self
  have hkp15 : fw_kp F W15 (fun w => w.1 = 100 ∨ w.1 = 101) := by rw [hFW15]; exact hkp14.new hqa12
  refine fw_putF (v := .ref a12) (fs' := [.int (nI 0), .int (nI 0), .ref a2, .ref a3, .ref a4, .int (nI 0), .ref a6, .int (nI 0), .ref a8, .ref a9, .ref a10, .int (nI 0), .ref a12, .null, .null, .null, .int (nI 0), .null, .null, .null, .null, .int (nI 0), .null, .null, .null]) hx hb hT fi_RX9 tyX9 tyX9_ok nmX9 hown hz hw k15_7 rfl 12 (by decide) (hT _ wd_747) (fun _ h9 => h9) rfl (hin rfl) rfl (ty := tyX9 12) (by decide +kernel) rfl rfl (Nat.le_of_ble_eq_true rfl) rfl dX9_init_65 (fun H locs hw => ?_)
  obtain ⟨W16, hFW16⟩ : ∃ z, z = va_up W15 y (some ((100, 0, 0), fw_obj 10 [.int (nI 0), .int (nI 0), .ref a2, .ref a3, .ref a4, .int (nI 0), .ref a6, .int (nI 0), .ref a8, .ref a9, .ref a10, .int (nI 0), .ref a12, .null, .null, .null, .int (nI 0), .null, .null, .null, .null, .int (nI 0), .null, .null, .null])) := ⟨_, rfl⟩
  rw [← hFW16] at hw
  have k16_0 : W16 a2 = some ((101, 2, 0), fw_ia (fw_cI G) 10 (fun _ => 0)) := by rw [hFW16]; exact fw_up_tag k15_0 k15_7 (by intro z; cases z)
  have k16_1 : W16 a3 = some ((101, 3, 0), fw_ia (fw_cI G) 10 (fun _ => 0)) := by rw [hFW16]; exact fw_up_tag k15_1 k15_7 (by intro z; cases z)
  have k16_2 : W16 a4 = some ((101, 4, 0), fw_ia (fw_cI G) 10 (fun _ => 0)) := by rw [hFW16]; exact fw_up_tag k15_2 k15_7 (by intro z; cases z)
  have k16_3 : W16 a6 = some ((101, 6, 0), fw_ia (fw_cI G) 12 (fun _ => 0)) := by rw [hFW16]; exact fw_up_tag k15_3 k15_7 (by intro z; cases z)
  have k16_4 : W16 a8 = some ((101, 8, 0), fw_ia (fw_cI G) 8 (fun _ => 0)) := by rw [hFW16]; exact fw_up_tag k15_4 k15_7 (by intro z; cases z)
  have k16_5 : W16 a9 = some ((101, 9, 0), fw_ia (fw_cI G) 96 (fun _ => 0)) := by rw [hFW16]; exact fw_up_tag k15_5 k15_7 (by intro z; cases z)
  have k16_6 : W16 a10 = some ((101, 10, 0), fw_ia (fw_cI G) 8 (fun _ => 0)) := by rw [hFW16]; exact fw_up_tag k15_6 k15_7 (by intro z; cases z)
  have k16_7 : W16 a12 = some ((101, 12, 0), fw_ia (fw_cI G) 12 (fun _ => 0)) := by rw [hFW16]; exact fw_up_tag k15_s k15_7 (by intro z; cases z)
  have k16_s : W16 y = some ((100, 0, 0), fw_obj 10 [.int (nI 0), .int (nI 0), .ref a2, .ref a3, .ref a4, .int (nI 0), .ref a6, .int (nI 0), .ref a8, .ref a9, .ref a10, .int (nI 0), .ref a12, .null, .null, .null, .int (nI 0), .null, .null, .null, .null, .int (nI 0), .null, .null, .null]) := by rw [hFW16]; exact fw_up_self
  have hkp16 : fw_kp F W16 (fun w => w.1 = 100 ∨ w.1 = 101) := by rw [hFW16]; exact hkp15.up k15_7 (Or.inl rfl)
  refine lv_aload_n hx hb dX9_init_68 rfl (lv_at hl 0 rfl) ?_
  refine lv_bipush (v := (nI 12)) hx hb dX9_init_69 (by decide) ?_
  refine fw_newa (101, 13, 0) (atype := .int) (cA := fw_cI G) (n := nI 12) (N' := 12) (a0 := (12, .inl (fun _ => 0))) hx hb (hT _ wd_811) (fun cX h9 => Option.some.inj (h9.symm.trans (hz.1.2 0 _ rfl).2)) hw hAn (fun _ => rfl) (by decide) (nI_clamp (by decide)) (Nat.le_of_ble_eq_true rfl) (Nat.le_of_ble_eq_true rfl) (Nat.le_of_ble_eq_true rfl) dX9_init_71 (fun a13 H hqa13 hw => ?_)
  refine W.widen (k := 9) (n := 178) (Nat.le_of_ble_eq_true rfl) (Nat.le_of_ble_eq_true rfl) ?_
  obtain ⟨W17, hFW17⟩ : ∃ z, z = va_up W16 a13 (some ((101, 13, 0), fw_ia (fw_cI G) 12 (fun _ => 0))) := ⟨_, rfl⟩
  rw [← hFW17] at hw
  have k17_0 : W17 a2 = some ((101, 2, 0), fw_ia (fw_cI G) 10 (fun _ => 0)) := by rw [hFW17]; exact fw_up_new k16_0 hqa13
  have k17_1 : W17 a3 = some ((101, 3, 0), fw_ia (fw_cI G) 10 (fun _ => 0)) := by rw [hFW17]; exact fw_up_new k16_1 hqa13
  have k17_2 : W17 a4 = some ((101, 4, 0), fw_ia (fw_cI G) 10 (fun _ => 0)) := by rw [hFW17]; exact fw_up_new k16_2 hqa13
  have k17_3 : W17 a6 = some ((101, 6, 0), fw_ia (fw_cI G) 12 (fun _ => 0)) := by rw [hFW17]; exact fw_up_new k16_3 hqa13
  have k17_4 : W17 a8 = some ((101, 8, 0), fw_ia (fw_cI G) 8 (fun _ => 0)) := by rw [hFW17]; exact fw_up_new k16_4 hqa13
  have k17_5 : W17 a9 = some ((101, 9, 0), fw_ia (fw_cI G) 96 (fun _ => 0)) := by rw [hFW17]; exact fw_up_new k16_5 hqa13
  have k17_6 : W17 a10 = some ((101, 10, 0), fw_ia (fw_cI G) 8 (fun _ => 0)) := by rw [hFW17]; exact fw_up_new k16_6 hqa13
  have k17_7 : W17 a12 = some ((101, 12, 0), fw_ia (fw_cI G) 12 (fun _ => 0)) := by rw [hFW17]; exact fw_up_new k16_7 hqa13
  have k17_8 : W17 y = some ((100, 0, 0), fw_obj 10 [.int (nI 0), .int (nI 0), .ref a2, .ref a3, .ref a4, .int (nI 0), .ref a6, .int (nI 0), .ref a8, .ref a9, .ref a10, .int (nI 0), .ref a12, .null, .null, .null, .int (nI 0), .null, .null, .null, .null, .int (nI 0), .null, .null, .null]) := by rw [hFW17]; exact fw_up_new k16_s hqa13
  have k17_s : W17 a13 = some ((101, 13, 0), fw_ia (fw_cI G) 12 (fun _ => 0)) := by rw [hFW17]; exact fw_up_self
  have hkp17 : fw_kp F W17 (fun w => w.1 = 100 ∨ w.1 = 101) := by rw [hFW17]; exact hkp16.new hqa13
  refine fw_putF (v := .ref a13) (fs' := [.int (nI 0), .int (nI 0), .ref a2, .ref a3, .ref a4, .int (nI 0), .ref a6, .int (nI 0), .ref a8, .ref a9, .ref a10, .int (nI 0), .ref a12, .ref a13, .null, .null, .int (nI 0), .null, .null, .null, .null, .int (nI 0), .null, .null, .null]) hx hb hT fi_RX9 tyX9 tyX9_ok nmX9 hown hz hw k17_8 rfl 13 (by decide) (hT _ wd_748) (fun _ h9 => h9) rfl (hin rfl) rfl (ty := tyX9 13) (by decide +kernel) rfl rfl (Nat.le_of_ble_eq_true rfl) rfl dX9_init_73 (fun H locs hw => ?_)
  obtain ⟨W18, hFW18⟩ : ∃ z, z = va_up W17 y (some ((100, 0, 0), fw_obj 10 [.int (nI 0), .int (nI 0), .ref a2, .ref a3, .ref a4, .int (nI 0), .ref a6, .int (nI 0), .ref a8, .ref a9, .ref a10, .int (nI 0), .ref a12, .ref a13, .null, .null, .int (nI 0), .null, .null, .null, .null, .int (nI 0), .null, .null, .null])) := ⟨_, rfl⟩
  rw [← hFW18] at hw
  have k18_0 : W18 a2 = some ((101, 2, 0), fw_ia (fw_cI G) 10 (fun _ => 0)) := by rw [hFW18]; exact fw_up_tag k17_0 k17_8 (by intro z; cases z)
  have k18_1 : W18 a3 = some ((101, 3, 0), fw_ia (fw_cI G) 10 (fun _ => 0)) := by rw [hFW18]; exact fw_up_tag k17_1 k17_8 (by intro z; cases z)
  have k18_2 : W18 a4 = some ((101, 4, 0), fw_ia (fw_cI G) 10 (fun _ => 0)) := by rw [hFW18]; exact fw_up_tag k17_2 k17_8 (by intro z; cases z)
  have k18_3 : W18 a6 = some ((101, 6, 0), fw_ia (fw_cI G) 12 (fun _ => 0)) := by rw [hFW18]; exact fw_up_tag k17_3 k17_8 (by intro z; cases z)
  have k18_4 : W18 a8 = some ((101, 8, 0), fw_ia (fw_cI G) 8 (fun _ => 0)) := by rw [hFW18]; exact fw_up_tag k17_4 k17_8 (by intro z; cases z)
  have k18_5 : W18 a9 = some ((101, 9, 0), fw_ia (fw_cI G) 96 (fun _ => 0)) := by rw [hFW18]; exact fw_up_tag k17_5 k17_8 (by intro z; cases z)
  have k18_6 : W18 a10 = some ((101, 10, 0), fw_ia (fw_cI G) 8 (fun _ => 0)) := by rw [hFW18]; exact fw_up_tag k17_6 k17_8 (by intro z; cases z)
  have k18_7 : W18 a12 = some ((101, 12, 0), fw_ia (fw_cI G) 12 (fun _ => 0)) := by rw [hFW18]; exact fw_up_tag k17_7 k17_8 (by intro z; cases z)
  have k18_8 : W18 a13 = some ((101, 13, 0), fw_ia (fw_cI G) 12 (fun _ => 0)) := by rw [hFW18]; exact fw_up_tag k17_s k17_8 (by intro z; cases z)
  have k18_s : W18 y = some ((100, 0, 0), fw_obj 10 [.int (nI 0), .int (nI 0), .ref a2, .ref a3, .ref a4, .int (nI 0), .ref a6, .int (nI 0), .ref a8, .ref a9, .ref a10, .int (nI 0), .ref a12, .ref a13, .null, .null, .int (nI 0), .null, .null, .null, .null, .int (nI 0), .null, .null, .null]) := by rw [hFW18]; exact fw_up_self
  have hkp18 : fw_kp F W18 (fun w => w.1 = 100 ∨ w.1 = 101) := by rw [hFW18]; exact hkp17.up k17_8 (Or.inl rfl)
  refine lv_aload_n hx hb dX9_init_76 rfl (lv_at hl 0 rfl) ?_
  refine lv_bipush (v := (nI 12)) hx hb dX9_init_77 (by decide) ?_
  refine fw_newa (101, 14, 0) (atype := .boolean) (cA := fw_cZ G) (n := nI 12) (N' := 12) (a0 := (12, .inl (fun _ => 0))) hx hb (hT _ wd_812) (fun cX h9 => Option.some.inj (h9.symm.trans (hz.1.2 1 _ rfl).2)) hw hAn (fun _ => rfl) (by decide) (nI_clamp (by decide)) (Nat.le_of_ble_eq_true rfl) (Nat.le_of_ble_eq_true rfl) (Nat.le_of_ble_eq_true rfl) dX9_init_79 (fun a14 H hqa14 hw => ?_)
  refine W.widen (k := 10) (n := 190) (Nat.le_of_ble_eq_true rfl) (Nat.le_of_ble_eq_true rfl) ?_
  obtain ⟨W19, hFW19⟩ : ∃ z, z = va_up W18 a14 (some ((101, 14, 0), fw_ia (fw_cZ G) 12 (fun _ => 0))) := ⟨_, rfl⟩
  rw [← hFW19] at hw
  have k19_0 : W19 a2 = some ((101, 2, 0), fw_ia (fw_cI G) 10 (fun _ => 0)) := by rw [hFW19]; exact fw_up_new k18_0 hqa14
  have k19_1 : W19 a3 = some ((101, 3, 0), fw_ia (fw_cI G) 10 (fun _ => 0)) := by rw [hFW19]; exact fw_up_new k18_1 hqa14
  have k19_2 : W19 a4 = some ((101, 4, 0), fw_ia (fw_cI G) 10 (fun _ => 0)) := by rw [hFW19]; exact fw_up_new k18_2 hqa14
  have k19_3 : W19 a6 = some ((101, 6, 0), fw_ia (fw_cI G) 12 (fun _ => 0)) := by rw [hFW19]; exact fw_up_new k18_3 hqa14
  have k19_4 : W19 a8 = some ((101, 8, 0), fw_ia (fw_cI G) 8 (fun _ => 0)) := by rw [hFW19]; exact fw_up_new k18_4 hqa14
  have k19_5 : W19 a9 = some ((101, 9, 0), fw_ia (fw_cI G) 96 (fun _ => 0)) := by rw [hFW19]; exact fw_up_new k18_5 hqa14
  have k19_6 : W19 a10 = some ((101, 10, 0), fw_ia (fw_cI G) 8 (fun _ => 0)) := by rw [hFW19]; exact fw_up_new k18_6 hqa14
  have k19_7 : W19 a12 = some ((101, 12, 0), fw_ia (fw_cI G) 12 (fun _ => 0)) := by rw [hFW19]; exact fw_up_new k18_7 hqa14
  have k19_8 : W19 a13 = some ((101, 13, 0), fw_ia (fw_cI G) 12 (fun _ => 0)) := by rw [hFW19]; exact fw_up_new k18_8 hqa14
  have k19_9 : W19 y = some ((100, 0, 0), fw_obj 10 [.int (nI 0), .int (nI 0), .ref a2, .ref a3, .ref a4, .int (nI 0), .ref a6, .int (nI 0), .ref a8, .ref a9, .ref a10, .int (nI 0), .ref a12, .ref a13, .null, .null, .int (nI 0), .null, .null, .null, .null, .int (nI 0), .null, .null, .null]) := by rw [hFW19]; exact fw_up_new k18_s hqa14
  have k19_s : W19 a14 = some ((101, 14, 0), fw_ia (fw_cZ G) 12 (fun _ => 0)) := by rw [hFW19]; exact fw_up_self
  have hkp19 : fw_kp F W19 (fun w => w.1 = 100 ∨ w.1 = 101) := by rw [hFW19]; exact hkp18.new hqa14
  refine fw_putF (v := .ref a14) (fs' := [.int (nI 0), .int (nI 0), .ref a2, .ref a3, .ref a4, .int (nI 0), .ref a6, .int (nI 0), .ref a8, .ref a9, .ref a10, .int (nI 0), .ref a12, .ref a13, .ref a14, .null, .int (nI 0), .null, .null, .null, .null, .int (nI 0), .null, .null, .null]) hx hb hT fi_RX9 tyX9 tyX9_ok nmX9 hown hz hw k19_9 rfl 14 (by decide) (hT _ wd_749) (fun _ h9 => h9) rfl (hin rfl) rfl (ty := tyX9 14) (by decide +kernel) rfl rfl (Nat.le_of_ble_eq_true rfl) rfl dX9_init_81 (fun H locs hw => ?_)
  obtain ⟨W20, hFW20⟩ : ∃ z, z = va_up W19 y (some ((100, 0, 0), fw_obj 10 [.int (nI 0), .int (nI 0), .ref a2, .ref a3, .ref a4, .int (nI 0), .ref a6, .int (nI 0), .ref a8, .ref a9, .ref a10, .int (nI 0), .ref a12, .ref a13, .ref a14, .null, .int (nI 0), .null, .null, .null, .null, .int (nI 0), .null, .null, .null])) := ⟨_, rfl⟩
  rw [← hFW20] at hw
  have k20_0 : W20 a2 = some ((101, 2, 0), fw_ia (fw_cI G) 10 (fun _ => 0)) := by rw [hFW20]; exact fw_up_tag k19_0 k19_9 (by intro z; cases z)
  have k20_1 : W20 a3 = some ((101, 3, 0), fw_ia (fw_cI G) 10 (fun _ => 0)) := by rw [hFW20]; exact fw_up_tag k19_1 k19_9 (by intro z; cases z)
  have k20_2 : W20 a4 = some ((101, 4, 0), fw_ia (fw_cI G) 10 (fun _ => 0)) := by rw [hFW20]; exact fw_up_tag k19_2 k19_9 (by intro z; cases z)
  have k20_3 : W20 a6 = some ((101, 6, 0), fw_ia (fw_cI G) 12 (fun _ => 0)) := by rw [hFW20]; exact fw_up_tag k19_3 k19_9 (by intro z; cases z)
  have k20_4 : W20 a8 = some ((101, 8, 0), fw_ia (fw_cI G) 8 (fun _ => 0)) := by rw [hFW20]; exact fw_up_tag k19_4 k19_9 (by intro z; cases z)
  have k20_5 : W20 a9 = some ((101, 9, 0), fw_ia (fw_cI G) 96 (fun _ => 0)) := by rw [hFW20]; exact fw_up_tag k19_5 k19_9 (by intro z; cases z)
  have k20_6 : W20 a10 = some ((101, 10, 0), fw_ia (fw_cI G) 8 (fun _ => 0)) := by rw [hFW20]; exact fw_up_tag k19_6 k19_9 (by intro z; cases z)
  have k20_7 : W20 a12 = some ((101, 12, 0), fw_ia (fw_cI G) 12 (fun _ => 0)) := by rw [hFW20]; exact fw_up_tag k19_7 k19_9 (by intro z; cases z)
  have k20_8 : W20 a13 = some ((101, 13, 0), fw_ia (fw_cI G) 12 (fun _ => 0)) := by rw [hFW20]; exact fw_up_tag k19_8 k19_9 (by intro z; cases z)
  have k20_9 : W20 a14 = some ((101, 14, 0), fw_ia (fw_cZ G) 12 (fun _ => 0)) := by rw [hFW20]; exact fw_up_tag k19_s k19_9 (by intro z; cases z)
  have k20_s : W20 y = some ((100, 0, 0), fw_obj 10 [.int (nI 0), .int (nI 0), .ref a2, .ref a3, .ref a4, .int (nI 0), .ref a6, .int (nI 0), .ref a8, .ref a9, .ref a10, .int (nI 0), .ref a12, .ref a13, .ref a14, .null, .int (nI 0), .null, .null, .null, .null, .int (nI 0), .null, .null, .null]) := by rw [hFW20]; exact fw_up_self
  have hkp20 : fw_kp F W20 (fun w => w.1 = 100 ∨ w.1 = 101) := by rw [hFW20]; exact hkp19.up k19_9 (Or.inl rfl)
  refine lv_aload_n hx hb dX9_init_84 rfl (lv_at hl 0 rfl) ?_
  refine lv_bipush (v := (nI 48)) hx hb dX9_init_85 (by decide) ?_
  refine fw_newa (101, 15, 0) (atype := .int) (cA := fw_cI G) (n := nI 48) (N' := 48) (a0 := (48, .inl (fun _ => 0))) hx hb (hT _ wd_811) (fun cX h9 => Option.some.inj (h9.symm.trans (hz.1.2 0 _ rfl).2)) hw hAn (fun _ => rfl) (by decide) (nI_clamp (by decide)) (Nat.le_of_ble_eq_true rfl) (Nat.le_of_ble_eq_true rfl) (Nat.le_of_ble_eq_true rfl) dX9_init_87 (fun a15 H hqa15 hw => ?_)
  refine W.widen (k := 11) (n := 238) (Nat.le_of_ble_eq_true rfl) (Nat.le_of_ble_eq_true rfl) ?_
  obtain ⟨W21, hFW21⟩ : ∃ z, z = va_up W20 a15 (some ((101, 15, 0), fw_ia (fw_cI G) 48 (fun _ => 0))) := ⟨_, rfl⟩
  rw [← hFW21] at hw
  have k21_0 : W21 a2 = some ((101, 2, 0), fw_ia (fw_cI G) 10 (fun _ => 0)) := by rw [hFW21]; exact fw_up_new k20_0 hqa15
  have k21_1 : W21 a3 = some ((101, 3, 0), fw_ia (fw_cI G) 10 (fun _ => 0)) := by rw [hFW21]; exact fw_up_new k20_1 hqa15
  have k21_2 : W21 a4 = some ((101, 4, 0), fw_ia (fw_cI G) 10 (fun _ => 0)) := by rw [hFW21]; exact fw_up_new k20_2 hqa15
  have k21_3 : W21 a6 = some ((101, 6, 0), fw_ia (fw_cI G) 12 (fun _ => 0)) := by rw [hFW21]; exact fw_up_new k20_3 hqa15
  have k21_4 : W21 a8 = some ((101, 8, 0), fw_ia (fw_cI G) 8 (fun _ => 0)) := by rw [hFW21]; exact fw_up_new k20_4 hqa15
  have k21_5 : W21 a9 = some ((101, 9, 0), fw_ia (fw_cI G) 96 (fun _ => 0)) := by rw [hFW21]; exact fw_up_new k20_5 hqa15
  have k21_6 : W21 a10 = some ((101, 10, 0), fw_ia (fw_cI G) 8 (fun _ => 0)) := by rw [hFW21]; exact fw_up_new k20_6 hqa15
  have k21_7 : W21 a12 = some ((101, 12, 0), fw_ia (fw_cI G) 12 (fun _ => 0)) := by rw [hFW21]; exact fw_up_new k20_7 hqa15
  have k21_8 : W21 a13 = some ((101, 13, 0), fw_ia (fw_cI G) 12 (fun _ => 0)) := by rw [hFW21]; exact fw_up_new k20_8 hqa15
  have k21_9 : W21 a14 = some ((101, 14, 0), fw_ia (fw_cZ G) 12 (fun _ => 0)) := by rw [hFW21]; exact fw_up_new k20_9 hqa15
  have k21_10 : W21 y = some ((100, 0, 0), fw_obj 10 [.int (nI 0), .int (nI 0), .ref a2, .ref a3, .ref a4, .int (nI 0), .ref a6, .int (nI 0), .ref a8, .ref a9, .ref a10, .int (nI 0), .ref a12, .ref a13, .ref a14, .null, .int (nI 0), .null, .null, .null, .null, .int (nI 0), .null, .null, .null]) := by rw [hFW21]; exact fw_up_new k20_s hqa15
  have k21_s : W21 a15 = some ((101, 15, 0), fw_ia (fw_cI G) 48 (fun _ => 0)) := by rw [hFW21]; exact fw_up_self
  have hkp21 : fw_kp F W21 (fun w => w.1 = 100 ∨ w.1 = 101) := by rw [hFW21]; exact hkp20.new hqa15
  refine fw_putF (v := .ref a15) (fs' := [.int (nI 0), .int (nI 0), .ref a2, .ref a3, .ref a4, .int (nI 0), .ref a6, .int (nI 0), .ref a8, .ref a9, .ref a10, .int (nI 0), .ref a12, .ref a13, .ref a14, .ref a15, .int (nI 0), .null, .null, .null, .null, .int (nI 0), .null, .null, .null]) hx hb hT fi_RX9 tyX9 tyX9_ok nmX9 hown hz hw k21_10 rfl 15 (by decide) (hT _ wd_750) (fun _ h9 => h9) rfl (hin rfl) rfl (ty := tyX9 15) (by decide +kernel) rfl rfl (Nat.le_of_ble_eq_true rfl) rfl dX9_init_89 (fun H locs hw => ?_)
  obtain ⟨W22, hFW22⟩ : ∃ z, z = va_up W21 y (some ((100, 0, 0), fw_obj 10 [.int (nI 0), .int (nI 0), .ref a2, .ref a3, .ref a4, .int (nI 0), .ref a6, .int (nI 0), .ref a8, .ref a9, .ref a10, .int (nI 0), .ref a12, .ref a13, .ref a14, .ref a15, .int (nI 0), .null, .null, .null, .null, .int (nI 0), .null, .null, .null])) := ⟨_, rfl⟩
  rw [← hFW22] at hw
  have k22_0 : W22 a2 = some ((101, 2, 0), fw_ia (fw_cI G) 10 (fun _ => 0)) := by rw [hFW22]; exact fw_up_tag k21_0 k21_10 (by intro z; cases z)
  have k22_1 : W22 a3 = some ((101, 3, 0), fw_ia (fw_cI G) 10 (fun _ => 0)) := by rw [hFW22]; exact fw_up_tag k21_1 k21_10 (by intro z; cases z)
  have k22_2 : W22 a4 = some ((101, 4, 0), fw_ia (fw_cI G) 10 (fun _ => 0)) := by rw [hFW22]; exact fw_up_tag k21_2 k21_10 (by intro z; cases z)
  have k22_3 : W22 a6 = some ((101, 6, 0), fw_ia (fw_cI G) 12 (fun _ => 0)) := by rw [hFW22]; exact fw_up_tag k21_3 k21_10 (by intro z; cases z)
  have k22_4 : W22 a8 = some ((101, 8, 0), fw_ia (fw_cI G) 8 (fun _ => 0)) := by rw [hFW22]; exact fw_up_tag k21_4 k21_10 (by intro z; cases z)
  have k22_5 : W22 a9 = some ((101, 9, 0), fw_ia (fw_cI G) 96 (fun _ => 0)) := by rw [hFW22]; exact fw_up_tag k21_5 k21_10 (by intro z; cases z)
  have k22_6 : W22 a10 = some ((101, 10, 0), fw_ia (fw_cI G) 8 (fun _ => 0)) := by rw [hFW22]; exact fw_up_tag k21_6 k21_10 (by intro z; cases z)
  have k22_7 : W22 a12 = some ((101, 12, 0), fw_ia (fw_cI G) 12 (fun _ => 0)) := by rw [hFW22]; exact fw_up_tag k21_7 k21_10 (by intro z; cases z)
  have k22_8 : W22 a13 = some ((101, 13, 0), fw_ia (fw_cI G) 12 (fun _ => 0)) := by rw [hFW22]; exact fw_up_tag k21_8 k21_10 (by intro z; cases z)
  have k22_9 : W22 a14 = some ((101, 14, 0), fw_ia (fw_cZ G) 12 (fun _ => 0)) := by rw [hFW22]; exact fw_up_tag k21_9 k21_10 (by intro z; cases z)
  have k22_10 : W22 a15 = some ((101, 15, 0), fw_ia (fw_cI G) 48 (fun _ => 0)) := by rw [hFW22]; exact fw_up_tag k21_s k21_10 (by intro z; cases z)
  have k22_s : W22 y = some ((100, 0, 0), fw_obj 10 [.int (nI 0), .int (nI 0), .ref a2, .ref a3, .ref a4, .int (nI 0), .ref a6, .int (nI 0), .ref a8, .ref a9, .ref a10, .int (nI 0), .ref a12, .ref a13, .ref a14, .ref a15, .int (nI 0), .null, .null, .null, .null, .int (nI 0), .null, .null, .null]) := by rw [hFW22]; exact fw_up_self
  have hkp22 : fw_kp F W22 (fun w => w.1 = 100 ∨ w.1 = 101) := by rw [hFW22]; exact hkp21.up k21_10 (Or.inl rfl)
  refine lv_aload_n hx hb dX9_init_92 rfl (lv_at hl 0 rfl) ?_
  refine lv_bipush (v := (nI 96)) hx hb dX9_init_93 (by decide) ?_
  refine fw_newa (101, 17, 0) (atype := .int) (cA := fw_cI G) (n := nI 96) (N' := 96) (a0 := (96, .inl (fun _ => 0))) hx hb (hT _ wd_811) (fun cX h9 => Option.some.inj (h9.symm.trans (hz.1.2 0 _ rfl).2)) hw hAn (fun _ => rfl) (by decide) (nI_clamp (by decide)) (Nat.le_of_ble_eq_true rfl) (Nat.le_of_ble_eq_true rfl) (Nat.le_of_ble_eq_true rfl) dX9_init_95 (fun a17 H hqa17 hw => ?_)
  refine W.widen (k := 12) (n := 334) (Nat.le_of_ble_eq_true rfl) (Nat.le_of_ble_eq_true rfl) ?_
  obtain ⟨W23, hFW23⟩ : ∃ z, z = va_up W22 a17 (some ((101, 17, 0), fw_ia (fw_cI G) 96 (fun _ => 0))) := ⟨_, rfl⟩
  rw [← hFW23] at hw
  have k23_0 : W23 a2 = some ((101, 2, 0), fw_ia (fw_cI G) 10 (fun _ => 0)) := by rw [hFW23]; exact fw_up_new k22_0 hqa17
  have k23_1 : W23 a3 = some ((101, 3, 0), fw_ia (fw_cI G) 10 (fun _ => 0)) := by rw [hFW23]; exact fw_up_new k22_1 hqa17
  have k23_2 : W23 a4 = some ((101, 4, 0), fw_ia (fw_cI G) 10 (fun _ => 0)) := by rw [hFW23]; exact fw_up_new k22_2 hqa17
  have k23_3 : W23 a6 = some ((101, 6, 0), fw_ia (fw_cI G) 12 (fun _ => 0)) := by rw [hFW23]; exact fw_up_new k22_3 hqa17
  have k23_4 : W23 a8 = some ((101, 8, 0), fw_ia (fw_cI G) 8 (fun _ => 0)) := by rw [hFW23]; exact fw_up_new k22_4 hqa17
  have k23_5 : W23 a9 = some ((101, 9, 0), fw_ia (fw_cI G) 96 (fun _ => 0)) := by rw [hFW23]; exact fw_up_new k22_5 hqa17
  have k23_6 : W23 a10 = some ((101, 10, 0), fw_ia (fw_cI G) 8 (fun _ => 0)) := by rw [hFW23]; exact fw_up_new k22_6 hqa17
  have k23_7 : W23 a12 = some ((101, 12, 0), fw_ia (fw_cI G) 12 (fun _ => 0)) := by rw [hFW23]; exact fw_up_new k22_7 hqa17
  have k23_8 : W23 a13 = some ((101, 13, 0), fw_ia (fw_cI G) 12 (fun _ => 0)) := by rw [hFW23]; exact fw_up_new k22_8 hqa17
  have k23_9 : W23 a14 = some ((101, 14, 0), fw_ia (fw_cZ G) 12 (fun _ => 0)) := by rw [hFW23]; exact fw_up_new k22_9 hqa17
  have k23_10 : W23 a15 = some ((101, 15, 0), fw_ia (fw_cI G) 48 (fun _ => 0)) := by rw [hFW23]; exact fw_up_new k22_10 hqa17
  have k23_11 : W23 y = some ((100, 0, 0), fw_obj 10 [.int (nI 0), .int (nI 0), .ref a2, .ref a3, .ref a4, .int (nI 0), .ref a6, .int (nI 0), .ref a8, .ref a9, .ref a10, .int (nI 0), .ref a12, .ref a13, .ref a14, .ref a15, .int (nI 0), .null, .null, .null, .null, .int (nI 0), .null, .null, .null]) := by rw [hFW23]; exact fw_up_new k22_s hqa17
  have k23_s : W23 a17 = some ((101, 17, 0), fw_ia (fw_cI G) 96 (fun _ => 0)) := by rw [hFW23]; exact fw_up_self
  have hkp23 : fw_kp F W23 (fun w => w.1 = 100 ∨ w.1 = 101) := by rw [hFW23]; exact hkp22.new hqa17
  refine fw_putF (v := .ref a17) (fs' := [.int (nI 0), .int (nI 0), .ref a2, .ref a3, .ref a4, .int (nI 0), .ref a6, .int (nI 0), .ref a8, .ref a9, .ref a10, .int (nI 0), .ref a12, .ref a13, .ref a14, .ref a15, .int (nI 0), .ref a17, .null, .null, .null, .int (nI 0), .null, .null, .null]) hx hb hT fi_RX9 tyX9 tyX9_ok nmX9 hown hz hw k23_11 rfl 17 (by decide) (hT _ wd_752) (fun _ h9 => h9) rfl (hin rfl) rfl (ty := tyX9 17) (by decide +kernel) rfl rfl (Nat.le_of_ble_eq_true rfl) rfl dX9_init_97 (fun H locs hw => ?_)
  obtain ⟨W24, hFW24⟩ : ∃ z, z = va_up W23 y (some ((100, 0, 0), fw_obj 10 [.int (nI 0), .int (nI 0), .ref a2, .ref a3, .ref a4, .int (nI 0), .ref a6, .int (nI 0), .ref a8, .ref a9, .ref a10, .int (nI 0), .ref a12, .ref a13, .ref a14, .ref a15, .int (nI 0), .ref a17, .null, .null, .null, .int (nI 0), .null, .null, .null])) := ⟨_, rfl⟩
  rw [← hFW24] at hw
  have k24_0 : W24 a2 = some ((101, 2, 0), fw_ia (fw_cI G) 10 (fun _ => 0)) := by rw [hFW24]; exact fw_up_tag k23_0 k23_11 (by intro z; cases z)
  have k24_1 : W24 a3 = some ((101, 3, 0), fw_ia (fw_cI G) 10 (fun _ => 0)) := by rw [hFW24]; exact fw_up_tag k23_1 k23_11 (by intro z; cases z)
  have k24_2 : W24 a4 = some ((101, 4, 0), fw_ia (fw_cI G) 10 (fun _ => 0)) := by rw [hFW24]; exact fw_up_tag k23_2 k23_11 (by intro z; cases z)
  have k24_3 : W24 a6 = some ((101, 6, 0), fw_ia (fw_cI G) 12 (fun _ => 0)) := by rw [hFW24]; exact fw_up_tag k23_3 k23_11 (by intro z; cases z)
  have k24_4 : W24 a8 = some ((101, 8, 0), fw_ia (fw_cI G) 8 (fun _ => 0)) := by rw [hFW24]; exact fw_up_tag k23_4 k23_11 (by intro z; cases z)
  have k24_5 : W24 a9 = some ((101, 9, 0), fw_ia (fw_cI G) 96 (fun _ => 0)) := by rw [hFW24]; exact fw_up_tag k23_5 k23_11 (by intro z; cases z)
  have k24_6 : W24 a10 = some ((101, 10, 0), fw_ia (fw_cI G) 8 (fun _ => 0)) := by rw [hFW24]; exact fw_up_tag k23_6 k23_11 (by intro z; cases z)
  have k24_7 : W24 a12 = some ((101, 12, 0), fw_ia (fw_cI G) 12 (fun _ => 0)) := by rw [hFW24]; exact fw_up_tag k23_7 k23_11 (by intro z; cases z)
  have k24_8 : W24 a13 = some ((101, 13, 0), fw_ia (fw_cI G) 12 (fun _ => 0)) := by rw [hFW24]; exact fw_up_tag k23_8 k23_11 (by intro z; cases z)
  have k24_9 : W24 a14 = some ((101, 14, 0), fw_ia (fw_cZ G) 12 (fun _ => 0)) := by rw [hFW24]; exact fw_up_tag k23_9 k23_11 (by intro z; cases z)
  have k24_10 : W24 a15 = some ((101, 15, 0), fw_ia (fw_cI G) 48 (fun _ => 0)) := by rw [hFW24]; exact fw_up_tag k23_10 k23_11 (by intro z; cases z)
  have k24_11 : W24 a17 = some ((101, 17, 0), fw_ia (fw_cI G) 96 (fun _ => 0)) := by rw [hFW24]; exact fw_up_tag k23_s k23_11 (by intro z; cases z)
  have k24_s : W24 y = some ((100, 0, 0), fw_obj 10 [.int (nI 0), .int (nI 0), .ref a2, .ref a3, .ref a4, .int (nI 0), .ref a6, .int (nI 0), .ref a8, .ref a9, .ref a10, .int (nI 0), .ref a12, .ref a13, .ref a14, .ref a15, .int (nI 0), .ref a17, .null, .null, .null, .int (nI 0), .null, .null, .null]) := by rw [hFW24]; exact fw_up_self
  have hkp24 : fw_kp F W24 (fun w => w.1 = 100 ∨ w.1 = 101) := by rw [hFW24]; exact hkp23.up k23_11 (Or.inl rfl)
  refine lv_aload_n hx hb dX9_init_100 rfl (lv_at hl 0 rfl) ?_
  refine lv_bipush (v := (nI 96)) hx hb dX9_init_101 (by decide) ?_
  refine fw_newa (101, 18, 0) (atype := .int) (cA := fw_cI G) (n := nI 96) (N' := 96) (a0 := (96, .inl (fun _ => 0))) hx hb (hT _ wd_811) (fun cX h9 => Option.some.inj (h9.symm.trans (hz.1.2 0 _ rfl).2)) hw hAn (fun _ => rfl) (by decide) (nI_clamp (by decide)) (Nat.le_of_ble_eq_true rfl) (Nat.le_of_ble_eq_true rfl) (Nat.le_of_ble_eq_true rfl) dX9_init_103 (fun a18 H hqa18 hw => ?_)
  refine W.widen (k := 13) (n := 430) (Nat.le_of_ble_eq_true rfl) (Nat.le_of_ble_eq_true rfl) ?_
  obtain ⟨W25, hFW25⟩ : ∃ z, z = va_up W24 a18 (some ((101, 18, 0), fw_ia (fw_cI G) 96 (fun _ => 0))) := ⟨_, rfl⟩
  rw [← hFW25] at hw
  have k25_0 : W25 a2 = some ((101, 2, 0), fw_ia (fw_cI G) 10 (fun _ => 0)) := by rw [hFW25]; exact fw_up_new k24_0 hqa18
  have k25_1 : W25 a3 = some ((101, 3, 0), fw_ia (fw_cI G) 10 (fun _ => 0)) := by rw [hFW25]; exact fw_up_new k24_1 hqa18
  have k25_2 : W25 a4 = some ((101, 4, 0), fw_ia (fw_cI G) 10 (fun _ => 0)) := by rw [hFW25]; exact fw_up_new k24_2 hqa18
  have k25_3 : W25 a6 = some ((101, 6, 0), fw_ia (fw_cI G) 12 (fun _ => 0)) := by rw [hFW25]; exact fw_up_new k24_3 hqa18
  have k25_4 : W25 a8 = some ((101, 8, 0), fw_ia (fw_cI G) 8 (fun _ => 0)) := by rw [hFW25]; exact fw_up_new k24_4 hqa18
  have k25_5 : W25 a9 = some ((101, 9, 0), fw_ia (fw_cI G) 96 (fun _ => 0)) := by rw [hFW25]; exact fw_up_new k24_5 hqa18
  have k25_6 : W25 a10 = some ((101, 10, 0), fw_ia (fw_cI G) 8 (fun _ => 0)) := by rw [hFW25]; exact fw_up_new k24_6 hqa18
  have k25_7 : W25 a12 = some ((101, 12, 0), fw_ia (fw_cI G) 12 (fun _ => 0)) := by rw [hFW25]; exact fw_up_new k24_7 hqa18
  have k25_8 : W25 a13 = some ((101, 13, 0), fw_ia (fw_cI G) 12 (fun _ => 0)) := by rw [hFW25]; exact fw_up_new k24_8 hqa18
  have k25_9 : W25 a14 = some ((101, 14, 0), fw_ia (fw_cZ G) 12 (fun _ => 0)) := by rw [hFW25]; exact fw_up_new k24_9 hqa18
  have k25_10 : W25 a15 = some ((101, 15, 0), fw_ia (fw_cI G) 48 (fun _ => 0)) := by rw [hFW25]; exact fw_up_new k24_10 hqa18
  have k25_11 : W25 a17 = some ((101, 17, 0), fw_ia (fw_cI G) 96 (fun _ => 0)) := by rw [hFW25]; exact fw_up_new k24_11 hqa18
  have k25_12 : W25 y = some ((100, 0, 0), fw_obj 10 [.int (nI 0), .int (nI 0), .ref a2, .ref a3, .ref a4, .int (nI 0), .ref a6, .int (nI 0), .ref a8, .ref a9, .ref a10, .int (nI 0), .ref a12, .ref a13, .ref a14, .ref a15, .int (nI 0), .ref a17, .null, .null, .null, .int (nI 0), .null, .null, .null]) := by rw [hFW25]; exact fw_up_new k24_s hqa18
  have k25_s : W25 a18 = some ((101, 18, 0), fw_ia (fw_cI G) 96 (fun _ => 0)) := by rw [hFW25]; exact fw_up_self
  have hkp25 : fw_kp F W25 (fun w => w.1 = 100 ∨ w.1 = 101) := by rw [hFW25]; exact hkp24.new hqa18
  refine fw_putF (v := .ref a18) (fs' := [.int (nI 0), .int (nI 0), .ref a2, .ref a3, .ref a4, .int (nI 0), .ref a6, .int (nI 0), .ref a8, .ref a9, .ref a10, .int (nI 0), .ref a12, .ref a13, .ref a14, .ref a15, .int (nI 0), .ref a17, .ref a18, .null, .null, .int (nI 0), .null, .null, .null]) hx hb hT fi_RX9 tyX9 tyX9_ok nmX9 hown hz hw k25_12 rfl 18 (by decide) (hT _ wd_753) (fun _ h9 => h9) rfl (hin rfl) rfl (ty := tyX9 18) (by decide +kernel) rfl rfl (Nat.le_of_ble_eq_true rfl) rfl dX9_init_105 (fun H locs hw => ?_)
  obtain ⟨W26, hFW26⟩ : ∃ z, z = va_up W25 y (some ((100, 0, 0), fw_obj 10 [.int (nI 0), .int (nI 0), .ref a2, .ref a3, .ref a4, .int (nI 0), .ref a6, .int (nI 0), .ref a8, .ref a9, .ref a10, .int (nI 0), .ref a12, .ref a13, .ref a14, .ref a15, .int (nI 0), .ref a17, .ref a18, .null, .null, .int (nI 0), .null, .null, .null])) := ⟨_, rfl⟩
  rw [← hFW26] at hw
  have k26_0 : W26 a2 = some ((101, 2, 0), fw_ia (fw_cI G) 10 (fun _ => 0)) := by rw [hFW26]; exact fw_up_tag k25_0 k25_12 (by intro z; cases z)
  have k26_1 : W26 a3 = some ((101, 3, 0), fw_ia (fw_cI G) 10 (fun _ => 0)) := by rw [hFW26]; exact fw_up_tag k25_1 k25_12 (by intro z; cases z)
  have k26_2 : W26 a4 = some ((101, 4, 0), fw_ia (fw_cI G) 10 (fun _ => 0)) := by rw [hFW26]; exact fw_up_tag k25_2 k25_12 (by intro z; cases z)
  have k26_3 : W26 a6 = some ((101, 6, 0), fw_ia (fw_cI G) 12 (fun _ => 0)) := by rw [hFW26]; exact fw_up_tag k25_3 k25_12 (by intro z; cases z)
  have k26_4 : W26 a8 = some ((101, 8, 0), fw_ia (fw_cI G) 8 (fun _ => 0)) := by rw [hFW26]; exact fw_up_tag k25_4 k25_12 (by intro z; cases z)
  have k26_5 : W26 a9 = some ((101, 9, 0), fw_ia (fw_cI G) 96 (fun _ => 0)) := by rw [hFW26]; exact fw_up_tag k25_5 k25_12 (by intro z; cases z)
  have k26_6 : W26 a10 = some ((101, 10, 0), fw_ia (fw_cI G) 8 (fun _ => 0)) := by rw [hFW26]; exact fw_up_tag k25_6 k25_12 (by intro z; cases z)
  have k26_7 : W26 a12 = some ((101, 12, 0), fw_ia (fw_cI G) 12 (fun _ => 0)) := by rw [hFW26]; exact fw_up_tag k25_7 k25_12 (by intro z; cases z)
  have k26_8 : W26 a13 = some ((101, 13, 0), fw_ia (fw_cI G) 12 (fun _ => 0)) := by rw [hFW26]; exact fw_up_tag k25_8 k25_12 (by intro z; cases z)
  have k26_9 : W26 a14 = some ((101, 14, 0), fw_ia (fw_cZ G) 12 (fun _ => 0)) := by rw [hFW26]; exact fw_up_tag k25_9 k25_12 (by intro z; cases z)
  have k26_10 : W26 a15 = some ((101, 15, 0), fw_ia (fw_cI G) 48 (fun _ => 0)) := by rw [hFW26]; exact fw_up_tag k25_10 k25_12 (by intro z; cases z)
  have k26_11 : W26 a17 = some ((101, 17, 0), fw_ia (fw_cI G) 96 (fun _ => 0)) := by rw [hFW26]; exact fw_up_tag k25_11 k25_12 (by intro z; cases z)
  have k26_12 : W26 a18 = some ((101, 18, 0), fw_ia (fw_cI G) 96 (fun _ => 0)) := by rw [hFW26]; exact fw_up_tag k25_s k25_12 (by intro z; cases z)
  have k26_s : W26 y = some ((100, 0, 0), fw_obj 10 [.int (nI 0), .int (nI 0), .ref a2, .ref a3, .ref a4, .int (nI 0), .ref a6, .int (nI 0), .ref a8, .ref a9, .ref a10, .int (nI 0), .ref a12, .ref a13, .ref a14, .ref a15, .int (nI 0), .ref a17, .ref a18, .null, .null, .int (nI 0), .null, .null, .null]) := by rw [hFW26]; exact fw_up_self
  have hkp26 : fw_kp F W26 (fun w => w.1 = 100 ∨ w.1 = 101) := by rw [hFW26]; exact hkp25.up k25_12 (Or.inl rfl)
  refine lv_aload_n hx hb dX9_init_108 rfl (lv_at hl 0 rfl) ?_
  refine lv_bipush (v := (nI 96)) hx hb dX9_init_109 (by decide) ?_
  refine fw_newa (101, 19, 0) (atype := .int) (cA := fw_cI G) (n := nI 96) (N' := 96) (a0 := (96, .inl (fun _ => 0))) hx hb (hT _ wd_811) (fun cX h9 => Option.some.inj (h9.symm.trans (hz.1.2 0 _ rfl).2)) hw hAn (fun _ => rfl) (by decide) (nI_clamp (by decide)) (Nat.le_of_ble_eq_true rfl) (Nat.le_of_ble_eq_true rfl) (Nat.le_of_ble_eq_true rfl) dX9_init_111 (fun a19 H hqa19 hw => ?_)
  refine W.widen (k := 14) (n := 526) (Nat.le_of_ble_eq_true rfl) (Nat.le_of_ble_eq_true rfl) ?_
  obtain ⟨W27, hFW27⟩ : ∃ z, z = va_up W26 a19 (some ((101, 19, 0), fw_ia (fw_cI G) 96 (fun _ => 0))) := ⟨_, rfl⟩
  rw [← hFW27] at hw
  have k27_0 : W27 a2 = some ((101, 2, 0), fw_ia (fw_cI G) 10 (fun _ => 0)) := by rw [hFW27]; exact fw_up_new k26_0 hqa19
  have k27_1 : W27 a3 = some ((101, 3, 0), fw_ia (fw_cI G) 10 (fun _ => 0)) := by rw [hFW27]; exact fw_up_new k26_1 hqa19
  have k27_2 : W27 a4 = some ((101, 4, 0), fw_ia (fw_cI G) 10 (fun _ => 0)) := by rw [hFW27]; exact fw_up_new k26_2 hqa19
  have k27_3 : W27 a6 = some ((101, 6, 0), fw_ia (fw_cI G) 12 (fun _ => 0)) := by rw [hFW27]; exact fw_up_new k26_3 hqa19
  have k27_4 : W27 a8 = some ((101, 8, 0), fw_ia (fw_cI G) 8 (fun _ => 0)) := by rw [hFW27]; exact fw_up_new k26_4 hqa19
  have k27_5 : W27 a9 = some ((101, 9, 0), fw_ia (fw_cI G) 96 (fun _ => 0)) := by rw [hFW27]; exact fw_up_new k26_5 hqa19
  have k27_6 : W27 a10 = some ((101, 10, 0), fw_ia (fw_cI G) 8 (fun _ => 0)) := by rw [hFW27]; exact fw_up_new k26_6 hqa19
  have k27_7 : W27 a12 = some ((101, 12, 0), fw_ia (fw_cI G) 12 (fun _ => 0)) := by rw [hFW27]; exact fw_up_new k26_7 hqa19
  have k27_8 : W27 a13 = some ((101, 13, 0), fw_ia (fw_cI G) 12 (fun _ => 0)) := by rw [hFW27]; exact fw_up_new k26_8 hqa19
  have k27_9 : W27 a14 = some ((101, 14, 0), fw_ia (fw_cZ G) 12 (fun _ => 0)) := by rw [hFW27]; exact fw_up_new k26_9 hqa19
  have k27_10 : W27 a15 = some ((101, 15, 0), fw_ia (fw_cI G) 48 (fun _ => 0)) := by rw [hFW27]; exact fw_up_new k26_10 hqa19
  have k27_11 : W27 a17 = some ((101, 17, 0), fw_ia (fw_cI G) 96 (fun _ => 0)) := by rw [hFW27]; exact fw_up_new k26_11 hqa19
  have k27_12 : W27 a18 = some ((101, 18, 0), fw_ia (fw_cI G) 96 (fun _ => 0)) := by rw [hFW27]; exact fw_up_new k26_12 hqa19
  have k27_13 : W27 y = some ((100, 0, 0), fw_obj 10 [.int (nI 0), .int (nI 0), .ref a2, .ref a3, .ref a4, .int (nI 0), .ref a6, .int (nI 0), .ref a8, .ref a9, .ref a10, .int (nI 0), .ref a12, .ref a13, .ref a14, .ref a15, .int (nI 0), .ref a17, .ref a18, .null, .null, .int (nI 0), .null, .null, .null]) := by rw [hFW27]; exact fw_up_new k26_s hqa19
  have k27_s : W27 a19 = some ((101, 19, 0), fw_ia (fw_cI G) 96 (fun _ => 0)) := by rw [hFW27]; exact fw_up_self
  have hkp27 : fw_kp F W27 (fun w => w.1 = 100 ∨ w.1 = 101) := by rw [hFW27]; exact hkp26.new hqa19
  refine fw_putF (v := .ref a19) (fs' := [.int (nI 0), .int (nI 0), .ref a2, .ref a3, .ref a4, .int (nI 0), .ref a6, .int (nI 0), .ref a8, .ref a9, .ref a10, .int (nI 0), .ref a12, .ref a13, .ref a14, .ref a15, .int (nI 0), .ref a17, .ref a18, .ref a19, .null, .int (nI 0), .null, .null, .null]) hx hb hT fi_RX9 tyX9 tyX9_ok nmX9 hown hz hw k27_13 rfl 19 (by decide) (hT _ wd_754) (fun _ h9 => h9) rfl (hin rfl) rfl (ty := tyX9 19) (by decide +kernel) rfl rfl (Nat.le_of_ble_eq_true rfl) rfl dX9_init_113 (fun H locs hw => ?_)
  obtain ⟨W28, hFW28⟩ : ∃ z, z = va_up W27 y (some ((100, 0, 0), fw_obj 10 [.int (nI 0), .int (nI 0), .ref a2, .ref a3, .ref a4, .int (nI 0), .ref a6, .int (nI 0), .ref a8, .ref a9, .ref a10, .int (nI 0), .ref a12, .ref a13, .ref a14, .ref a15, .int (nI 0), .ref a17, .ref a18, .ref a19, .null, .int (nI 0), .null, .null, .null])) := ⟨_, rfl⟩
  rw [← hFW28] at hw
  have k28_0 : W28 a2 = some ((101, 2, 0), fw_ia (fw_cI G) 10 (fun _ => 0)) := by rw [hFW28]; exact fw_up_tag k27_0 k27_13 (by intro z; cases z)
  have k28_1 : W28 a3 = some ((101, 3, 0), fw_ia (fw_cI G) 10 (fun _ => 0)) := by rw [hFW28]; exact fw_up_tag k27_1 k27_13 (by intro z; cases z)
  have k28_2 : W28 a4 = some ((101, 4, 0), fw_ia (fw_cI G) 10 (fun _ => 0)) := by rw [hFW28]; exact fw_up_tag k27_2 k27_13 (by intro z; cases z)
  have k28_3 : W28 a6 = some ((101, 6, 0), fw_ia (fw_cI G) 12 (fun _ => 0)) := by rw [hFW28]; exact fw_up_tag k27_3 k27_13 (by intro z; cases z)
  have k28_4 : W28 a8 = some ((101, 8, 0), fw_ia (fw_cI G) 8 (fun _ => 0)) := by rw [hFW28]; exact fw_up_tag k27_4 k27_13 (by intro z; cases z)
  have k28_5 : W28 a9 = some ((101, 9, 0), fw_ia (fw_cI G) 96 (fun _ => 0)) := by rw [hFW28]; exact fw_up_tag k27_5 k27_13 (by intro z; cases z)
  have k28_6 : W28 a10 = some ((101, 10, 0), fw_ia (fw_cI G) 8 (fun _ => 0)) := by rw [hFW28]; exact fw_up_tag k27_6 k27_13 (by intro z; cases z)
  have k28_7 : W28 a12 = some ((101, 12, 0), fw_ia (fw_cI G) 12 (fun _ => 0)) := by rw [hFW28]; exact fw_up_tag k27_7 k27_13 (by intro z; cases z)
  have k28_8 : W28 a13 = some ((101, 13, 0), fw_ia (fw_cI G) 12 (fun _ => 0)) := by rw [hFW28]; exact fw_up_tag k27_8 k27_13 (by intro z; cases z)
  have k28_9 : W28 a14 = some ((101, 14, 0), fw_ia (fw_cZ G) 12 (fun _ => 0)) := by rw [hFW28]; exact fw_up_tag k27_9 k27_13 (by intro z; cases z)
  have k28_10 : W28 a15 = some ((101, 15, 0), fw_ia (fw_cI G) 48 (fun _ => 0)) := by rw [hFW28]; exact fw_up_tag k27_10 k27_13 (by intro z; cases z)
  have k28_11 : W28 a17 = some ((101, 17, 0), fw_ia (fw_cI G) 96 (fun _ => 0)) := by rw [hFW28]; exact fw_up_tag k27_11 k27_13 (by intro z; cases z)
  have k28_12 : W28 a18 = some ((101, 18, 0), fw_ia (fw_cI G) 96 (fun _ => 0)) := by rw [hFW28]; exact fw_up_tag k27_12 k27_13 (by intro z; cases z)
  have k28_13 : W28 a19 = some ((101, 19, 0), fw_ia (fw_cI G) 96 (fun _ => 0)) := by rw [hFW28]; exact fw_up_tag k27_s k27_13 (by intro z; cases z)
  have k28_s : W28 y = some ((100, 0, 0), fw_obj 10 [.int (nI 0), .int (nI 0), .ref a2, .ref a3, .ref a4, .int (nI 0), .ref a6, .int (nI 0), .ref a8, .ref a9, .ref a10, .int (nI 0), .ref a12, .ref a13, .ref a14, .ref a15, .int (nI 0), .ref a17, .ref a18, .ref a19, .null, .int (nI 0), .null, .null, .null]) := by rw [hFW28]; exact fw_up_self
  have hkp28 : fw_kp F W28 (fun w => w.1 = 100 ∨ w.1 = 101) := by rw [hFW28]; exact hkp27.up k27_13 (Or.inl rfl)
  refine lv_aload_n hx hb dX9_init_116 rfl (lv_at hl 0 rfl) ?_
  refine lv_bipush (v := (nI 96)) hx hb dX9_init_117 (by decide) ?_
  refine fw_newa (101, 20, 0) (atype := .int) (cA := fw_cI G) (n := nI 96) (N' := 96) (a0 := (96, .inl (fun _ => 0))) hx hb (hT _ wd_811) (fun cX h9 => Option.some.inj (h9.symm.trans (hz.1.2 0 _ rfl).2)) hw hAn (fun _ => rfl) (by decide) (nI_clamp (by decide)) (Nat.le_of_ble_eq_true rfl) (Nat.le_of_ble_eq_true rfl) (Nat.le_of_ble_eq_true rfl) dX9_init_119 (fun a20 H hqa20 hw => ?_)
  refine W.widen (k := 15) (n := 622) (Nat.le_of_ble_eq_true rfl) (Nat.le_of_ble_eq_true rfl) ?_
  obtain ⟨W29, hFW29⟩ : ∃ z, z = va_up W28 a20 (some ((101, 20, 0), fw_ia (fw_cI G) 96 (fun _ => 0))) := ⟨_, rfl⟩
  rw [← hFW29] at hw
  have k29_0 : W29 a2 = some ((101, 2, 0), fw_ia (fw_cI G) 10 (fun _ => 0)) := by rw [hFW29]; exact fw_up_new k28_0 hqa20
  have k29_1 : W29 a3 = some ((101, 3, 0), fw_ia (fw_cI G) 10 (fun _ => 0)) := by rw [hFW29]; exact fw_up_new k28_1 hqa20
  have k29_2 : W29 a4 = some ((101, 4, 0), fw_ia (fw_cI G) 10 (fun _ => 0)) := by rw [hFW29]; exact fw_up_new k28_2 hqa20
  have k29_3 : W29 a6 = some ((101, 6, 0), fw_ia (fw_cI G) 12 (fun _ => 0)) := by rw [hFW29]; exact fw_up_new k28_3 hqa20
  have k29_4 : W29 a8 = some ((101, 8, 0), fw_ia (fw_cI G) 8 (fun _ => 0)) := by rw [hFW29]; exact fw_up_new k28_4 hqa20
  have k29_5 : W29 a9 = some ((101, 9, 0), fw_ia (fw_cI G) 96 (fun _ => 0)) := by rw [hFW29]; exact fw_up_new k28_5 hqa20
  have k29_6 : W29 a10 = some ((101, 10, 0), fw_ia (fw_cI G) 8 (fun _ => 0)) := by rw [hFW29]; exact fw_up_new k28_6 hqa20
  have k29_7 : W29 a12 = some ((101, 12, 0), fw_ia (fw_cI G) 12 (fun _ => 0)) := by rw [hFW29]; exact fw_up_new k28_7 hqa20
  have k29_8 : W29 a13 = some ((101, 13, 0), fw_ia (fw_cI G) 12 (fun _ => 0)) := by rw [hFW29]; exact fw_up_new k28_8 hqa20
  have k29_9 : W29 a14 = some ((101, 14, 0), fw_ia (fw_cZ G) 12 (fun _ => 0)) := by rw [hFW29]; exact fw_up_new k28_9 hqa20
  have k29_10 : W29 a15 = some ((101, 15, 0), fw_ia (fw_cI G) 48 (fun _ => 0)) := by rw [hFW29]; exact fw_up_new k28_10 hqa20
  have k29_11 : W29 a17 = some ((101, 17, 0), fw_ia (fw_cI G) 96 (fun _ => 0)) := by rw [hFW29]; exact fw_up_new k28_11 hqa20
  have k29_12 : W29 a18 = some ((101, 18, 0), fw_ia (fw_cI G) 96 (fun _ => 0)) := by rw [hFW29]; exact fw_up_new k28_12 hqa20
  have k29_13 : W29 a19 = some ((101, 19, 0), fw_ia (fw_cI G) 96 (fun _ => 0)) := by rw [hFW29]; exact fw_up_new k28_13 hqa20
  have k29_14 : W29 y = some ((100, 0, 0), fw_obj 10 [.int (nI 0), .int (nI 0), .ref a2, .ref a3, .ref a4, .int (nI 0), .ref a6, .int (nI 0), .ref a8, .ref a9, .ref a10, .int (nI 0), .ref a12, .ref a13, .ref a14, .ref a15, .int (nI 0), .ref a17, .ref a18, .ref a19, .null, .int (nI 0), .null, .null, .null]) := by rw [hFW29]; exact fw_up_new k28_s hqa20
  have k29_s : W29 a20 = some ((101, 20, 0), fw_ia (fw_cI G) 96 (fun _ => 0)) := by rw [hFW29]; exact fw_up_self
  have hkp29 : fw_kp F W29 (fun w => w.1 = 100 ∨ w.1 = 101) := by rw [hFW29]; exact hkp28.new hqa20
  refine fw_putF (v := .ref a20) (fs' := [.int (nI 0), .int (nI 0), .ref a2, .ref a3, .ref a4, .int (nI 0), .ref a6, .int (nI 0), .ref a8, .ref a9, .ref a10, .int (nI 0), .ref a12, .ref a13, .ref a14, .ref a15, .int (nI 0), .ref a17, .ref a18, .ref a19, .ref a20, .int (nI 0), .null, .null, .null]) hx hb hT fi_RX9 tyX9 tyX9_ok nmX9 hown hz hw k29_14 rfl 20 (by decide) (hT _ wd_755) (fun _ h9 => h9) rfl (hin rfl) rfl (ty := tyX9 20) (by decide +kernel) rfl rfl (Nat.le_of_ble_eq_true rfl) rfl dX9_init_121 (fun H locs hw => ?_)
  obtain ⟨W30, hFW30⟩ : ∃ z, z = va_up W29 y (some ((100, 0, 0), fw_obj 10 [.int (nI 0), .int (nI 0), .ref a2, .ref a3, .ref a4, .int (nI 0), .ref a6, .int (nI 0), .ref a8, .ref a9, .ref a10, .int (nI 0), .ref a12, .ref a13, .ref a14, .ref a15, .int (nI 0), .ref a17, .ref a18, .ref a19, .ref a20, .int (nI 0), .null, .null, .null])) := ⟨_, rfl⟩
  rw [← hFW30] at hw
  have k30_0 : W30 a2 = some ((101, 2, 0), fw_ia (fw_cI G) 10 (fun _ => 0)) := by rw [hFW30]; exact fw_up_tag k29_0 k29_14 (by intro z; cases z)
  have k30_1 : W30 a3 = some ((101, 3, 0), fw_ia (fw_cI G) 10 (fun _ => 0)) := by rw [hFW30]; exact fw_up_tag k29_1 k29_14 (by intro z; cases z)
  have k30_2 : W30 a4 = some ((101, 4, 0), fw_ia (fw_cI G) 10 (fun _ => 0)) := by rw [hFW30]; exact fw_up_tag k29_2 k29_14 (by intro z; cases z)
  have k30_3 : W30 a6 = some ((101, 6, 0), fw_ia (fw_cI G) 12 (fun _ => 0)) := by rw [hFW30]; exact fw_up_tag k29_3 k29_14 (by intro z; cases z)
  have k30_4 : W30 a8 = some ((101, 8, 0), fw_ia (fw_cI G) 8 (fun _ => 0)) := by rw [hFW30]; exact fw_up_tag k29_4 k29_14 (by intro z; cases z)
  have k30_5 : W30 a9 = some ((101, 9, 0), fw_ia (fw_cI G) 96 (fun _ => 0)) := by rw [hFW30]; exact fw_up_tag k29_5 k29_14 (by intro z; cases z)
  have k30_6 : W30 a10 = some ((101, 10, 0), fw_ia (fw_cI G) 8 (fun _ => 0)) := by rw [hFW30]; exact fw_up_tag k29_6 k29_14 (by intro z; cases z)
  have k30_7 : W30 a12 = some ((101, 12, 0), fw_ia (fw_cI G) 12 (fun _ => 0)) := by rw [hFW30]; exact fw_up_tag k29_7 k29_14 (by intro z; cases z)
  have k30_8 : W30 a13 = some ((101, 13, 0), fw_ia (fw_cI G) 12 (fun _ => 0)) := by rw [hFW30]; exact fw_up_tag k29_8 k29_14 (by intro z; cases z)
  have k30_9 : W30 a14 = some ((101, 14, 0), fw_ia (fw_cZ G) 12 (fun _ => 0)) := by rw [hFW30]; exact fw_up_tag k29_9 k29_14 (by intro z; cases z)
  have k30_10 : W30 a15 = some ((101, 15, 0), fw_ia (fw_cI G) 48 (fun _ => 0)) := by rw [hFW30]; exact fw_up_tag k29_10 k29_14 (by intro z; cases z)
  have k30_11 : W30 a17 = some ((101, 17, 0), fw_ia (fw_cI G) 96 (fun _ => 0)) := by rw [hFW30]; exact fw_up_tag k29_11 k29_14 (by intro z; cases z)
  have k30_12 : W30 a18 = some ((101, 18, 0), fw_ia (fw_cI G) 96 (fun _ => 0)) := by rw [hFW30]; exact fw_up_tag k29_12 k29_14 (by intro z; cases z)
  have k30_13 : W30 a19 = some ((101, 19, 0), fw_ia (fw_cI G) 96 (fun _ => 0)) := by rw [hFW30]; exact fw_up_tag k29_13 k29_14 (by intro z; cases z)
  have k30_14 : W30 a20 = some ((101, 20, 0), fw_ia (fw_cI G) 96 (fun _ => 0)) := by rw [hFW30]; exact fw_up_tag k29_s k29_14 (by intro z; cases z)
  have k30_s : W30 y = some ((100, 0, 0), fw_obj 10 [.int (nI 0), .int (nI 0), .ref a2, .ref a3, .ref a4, .int (nI 0), .ref a6, .int (nI 0), .ref a8, .ref a9, .ref a10, .int (nI 0), .ref a12, .ref a13, .ref a14, .ref a15, .int (nI 0), .ref a17, .ref a18, .ref a19, .ref a20, .int (nI 0), .null, .null, .null]) := by rw [hFW30]; exact fw_up_self
  have hkp30 : fw_kp F W30 (fun w => w.1 = 100 ∨ w.1 = 101) := by rw [hFW30]; exact hkp29.up k29_14 (Or.inl rfl)
  refine lv_aload_n hx hb dX9_init_124 rfl (lv_at hl 0 rfl) ?_
  refine lv_iconst (v := (nI 3)) hx hb dX9_init_125 (by decide) ?_
  refine fw_newa (101, 22, 0) (atype := .int) (cA := fw_cI G) (n := nI 3) (N' := 3) (a0 := (3, .inl (fun _ => 0))) hx hb (hT _ wd_811) (fun cX h9 => Option.some.inj (h9.symm.trans (hz.1.2 0 _ rfl).2)) hw hAn (fun _ => rfl) (by decide) (nI_clamp (by decide)) (Nat.le_of_ble_eq_true rfl) (Nat.le_of_ble_eq_true rfl) (Nat.le_of_ble_eq_true rfl) dX9_init_126 (fun a22 H hqa22 hw => ?_)
  refine W.widen (k := 16) (n := 625) (Nat.le_of_ble_eq_true rfl) (Nat.le_of_ble_eq_true rfl) ?_
  obtain ⟨W31, hFW31⟩ : ∃ z, z = va_up W30 a22 (some ((101, 22, 0), fw_ia (fw_cI G) 3 (fun _ => 0))) := ⟨_, rfl⟩
  rw [← hFW31] at hw
  have k31_0 : W31 a2 = some ((101, 2, 0), fw_ia (fw_cI G) 10 (fun _ => 0)) := by rw [hFW31]; exact fw_up_new k30_0 hqa22
  have k31_1 : W31 a3 = some ((101, 3, 0), fw_ia (fw_cI G) 10 (fun _ => 0)) := by rw [hFW31]; exact fw_up_new k30_1 hqa22
  have k31_2 : W31 a4 = some ((101, 4, 0), fw_ia (fw_cI G) 10 (fun _ => 0)) := by rw [hFW31]; exact fw_up_new k30_2 hqa22
  have k31_3 : W31 a6 = some ((101, 6, 0), fw_ia (fw_cI G) 12 (fun _ => 0)) := by rw [hFW31]; exact fw_up_new k30_3 hqa22
  have k31_4 : W31 a8 = some ((101, 8, 0), fw_ia (fw_cI G) 8 (fun _ => 0)) := by rw [hFW31]; exact fw_up_new k30_4 hqa22
  have k31_5 : W31 a9 = some ((101, 9, 0), fw_ia (fw_cI G) 96 (fun _ => 0)) := by rw [hFW31]; exact fw_up_new k30_5 hqa22
  have k31_6 : W31 a10 = some ((101, 10, 0), fw_ia (fw_cI G) 8 (fun _ => 0)) := by rw [hFW31]; exact fw_up_new k30_6 hqa22
  have k31_7 : W31 a12 = some ((101, 12, 0), fw_ia (fw_cI G) 12 (fun _ => 0)) := by rw [hFW31]; exact fw_up_new k30_7 hqa22
  have k31_8 : W31 a13 = some ((101, 13, 0), fw_ia (fw_cI G) 12 (fun _ => 0)) := by rw [hFW31]; exact fw_up_new k30_8 hqa22
  have k31_9 : W31 a14 = some ((101, 14, 0), fw_ia (fw_cZ G) 12 (fun _ => 0)) := by rw [hFW31]; exact fw_up_new k30_9 hqa22
  have k31_10 : W31 a15 = some ((101, 15, 0), fw_ia (fw_cI G) 48 (fun _ => 0)) := by rw [hFW31]; exact fw_up_new k30_10 hqa22
  have k31_11 : W31 a17 = some ((101, 17, 0), fw_ia (fw_cI G) 96 (fun _ => 0)) := by rw [hFW31]; exact fw_up_new k30_11 hqa22
  have k31_12 : W31 a18 = some ((101, 18, 0), fw_ia (fw_cI G) 96 (fun _ => 0)) := by rw [hFW31]; exact fw_up_new k30_12 hqa22
  have k31_13 : W31 a19 = some ((101, 19, 0), fw_ia (fw_cI G) 96 (fun _ => 0)) := by rw [hFW31]; exact fw_up_new k30_13 hqa22
  have k31_14 : W31 a20 = some ((101, 20, 0), fw_ia (fw_cI G) 96 (fun _ => 0)) := by rw [hFW31]; exact fw_up_new k30_14 hqa22
  have k31_15 : W31 y = some ((100, 0, 0), fw_obj 10 [.int (nI 0), .int (nI 0), .ref a2, .ref a3, .ref a4, .int (nI 0), .ref a6, .int (nI 0), .ref a8, .ref a9, .ref a10, .int (nI 0), .ref a12, .ref a13, .ref a14, .ref a15, .int (nI 0), .ref a17, .ref a18, .ref a19, .ref a20, .int (nI 0), .null, .null, .null]) := by rw [hFW31]; exact fw_up_new k30_s hqa22
  have k31_s : W31 a22 = some ((101, 22, 0), fw_ia (fw_cI G) 3 (fun _ => 0)) := by rw [hFW31]; exact fw_up_self
  have hkp31 : fw_kp F W31 (fun w => w.1 = 100 ∨ w.1 = 101) := by rw [hFW31]; exact hkp30.new hqa22
  refine fw_putF (v := .ref a22) (fs' := [.int (nI 0), .int (nI 0), .ref a2, .ref a3, .ref a4, .int (nI 0), .ref a6, .int (nI 0), .ref a8, .ref a9, .ref a10, .int (nI 0), .ref a12, .ref a13, .ref a14, .ref a15, .int (nI 0), .ref a17, .ref a18, .ref a19, .ref a20, .int (nI 0), .ref a22, .null, .null]) hx hb hT fi_RX9 tyX9 tyX9_ok nmX9 hown hz hw k31_15 rfl 22 (by decide) (hT _ wd_757) (fun _ h9 => h9) rfl (hin rfl) rfl (ty := tyX9 22) (by decide +kernel) rfl rfl (Nat.le_of_ble_eq_true rfl) rfl dX9_init_128 (fun H locs hw => ?_)
  obtain ⟨W32, hFW32⟩ : ∃ z, z = va_up W31 y (some ((100, 0, 0), fw_obj 10 [.int (nI 0), .int (nI 0), .ref a2, .ref a3, .ref a4, .int (nI 0), .ref a6, .int (nI 0), .ref a8, .ref a9, .ref a10, .int (nI 0), .ref a12, .ref a13, .ref a14, .ref a15, .int (nI 0), .ref a17, .ref a18, .ref a19, .ref a20, .int (nI 0), .ref a22, .null, .null])) := ⟨_, rfl⟩
  rw [← hFW32] at hw
  have k32_0 : W32 a2 = some ((101, 2, 0), fw_ia (fw_cI G) 10 (fun _ => 0)) := by rw [hFW32]; exact fw_up_tag k31_0 k31_15 (by intro z; cases z)
  have k32_1 : W32 a3 = some ((101, 3, 0), fw_ia (fw_cI G) 10 (fun _ => 0)) := by rw [hFW32]; exact fw_up_tag k31_1 k31_15 (by intro z; cases z)
  have k32_2 : W32 a4 = some ((101, 4, 0), fw_ia (fw_cI G) 10 (fun _ => 0)) := by rw [hFW32]; exact fw_up_tag k31_2 k31_15 (by intro z; cases z)
  have k32_3 : W32 a6 = some ((101, 6, 0), fw_ia (fw_cI G) 12 (fun _ => 0)) := by rw [hFW32]; exact fw_up_tag k31_3 k31_15 (by intro z; cases z)
  have k32_4 : W32 a8 = some ((101, 8, 0), fw_ia (fw_cI G) 8 (fun _ => 0)) := by rw [hFW32]; exact fw_up_tag k31_4 k31_15 (by intro z; cases z)
  have k32_5 : W32 a9 = some ((101, 9, 0), fw_ia (fw_cI G) 96 (fun _ => 0)) := by rw [hFW32]; exact fw_up_tag k31_5 k31_15 (by intro z; cases z)
  have k32_6 : W32 a10 = some ((101, 10, 0), fw_ia (fw_cI G) 8 (fun _ => 0)) := by rw [hFW32]; exact fw_up_tag k31_6 k31_15 (by intro z; cases z)
  have k32_7 : W32 a12 = some ((101, 12, 0), fw_ia (fw_cI G) 12 (fun _ => 0)) := by rw [hFW32]; exact fw_up_tag k31_7 k31_15 (by intro z; cases z)
  have k32_8 : W32 a13 = some ((101, 13, 0), fw_ia (fw_cI G) 12 (fun _ => 0)) := by rw [hFW32]; exact fw_up_tag k31_8 k31_15 (by intro z; cases z)
  have k32_9 : W32 a14 = some ((101, 14, 0), fw_ia (fw_cZ G) 12 (fun _ => 0)) := by rw [hFW32]; exact fw_up_tag k31_9 k31_15 (by intro z; cases z)
  have k32_10 : W32 a15 = some ((101, 15, 0), fw_ia (fw_cI G) 48 (fun _ => 0)) := by rw [hFW32]; exact fw_up_tag k31_10 k31_15 (by intro z; cases z)
  have k32_11 : W32 a17 = some ((101, 17, 0), fw_ia (fw_cI G) 96 (fun _ => 0)) := by rw [hFW32]; exact fw_up_tag k31_11 k31_15 (by intro z; cases z)
  have k32_12 : W32 a18 = some ((101, 18, 0), fw_ia (fw_cI G) 96 (fun _ => 0)) := by rw [hFW32]; exact fw_up_tag k31_12 k31_15 (by intro z; cases z)
  have k32_13 : W32 a19 = some ((101, 19, 0), fw_ia (fw_cI G) 96 (fun _ => 0)) := by rw [hFW32]; exact fw_up_tag k31_13 k31_15 (by intro z; cases z)
  have k32_14 : W32 a20 = some ((101, 20, 0), fw_ia (fw_cI G) 96 (fun _ => 0)) := by rw [hFW32]; exact fw_up_tag k31_14 k31_15 (by intro z; cases z)
  have k32_15 : W32 a22 = some ((101, 22, 0), fw_ia (fw_cI G) 3 (fun _ => 0)) := by rw [hFW32]; exact fw_up_tag k31_s k31_15 (by intro z; cases z)
  have k32_s : W32 y = some ((100, 0, 0), fw_obj 10 [.int (nI 0), .int (nI 0), .ref a2, .ref a3, .ref a4, .int (nI 0), .ref a6, .int (nI 0), .ref a8, .ref a9, .ref a10, .int (nI 0), .ref a12, .ref a13, .ref a14, .ref a15, .int (nI 0), .ref a17, .ref a18, .ref a19, .ref a20, .int (nI 0), .ref a22, .null, .null]) := by rw [hFW32]; exact fw_up_self
  have hkp32 : fw_kp F W32 (fun w => w.1 = 100 ∨ w.1 = 101) := by rw [hFW32]; exact hkp31.up k31_15 (Or.inl rfl)
  refine lv_aload_n hx hb dX9_init_131 rfl (lv_at hl 0 rfl) ?_
  refine lv_iconst (v := (nI 3)) hx hb dX9_init_132 (by decide) ?_
  refine fw_newa (101, 23, 0) (atype := .int) (cA := fw_cI G) (n := nI 3) (N' := 3) (a0 := (3, .inl (fun _ => 0))) hx hb (hT _ wd_811) (fun cX h9 => Option.some.inj (h9.symm.trans (hz.1.2 0 _ rfl).2)) hw hAn (fun _ => rfl) (by decide) (nI_clamp (by decide)) (Nat.le_of_ble_eq_true rfl) (Nat.le_of_ble_eq_true rfl) (Nat.le_of_ble_eq_true rfl) dX9_init_133 (fun a23 H hqa23 hw => ?_)
  refine W.widen (k := 17) (n := 628) (Nat.le_of_ble_eq_true rfl) (Nat.le_of_ble_eq_true rfl) ?_
  obtain ⟨W33, hFW33⟩ : ∃ z, z = va_up W32 a23 (some ((101, 23, 0), fw_ia (fw_cI G) 3 (fun _ => 0))) := ⟨_, rfl⟩
  rw [← hFW33] at hw
  have k33_0 : W33 a2 = some ((101, 2, 0), fw_ia (fw_cI G) 10 (fun _ => 0)) := by rw [hFW33]; exact fw_up_new k32_0 hqa23
  have k33_1 : W33 a3 = some ((101, 3, 0), fw_ia (fw_cI G) 10 (fun _ => 0)) := by rw [hFW33]; exact fw_up_new k32_1 hqa23
  have k33_2 : W33 a4 = some ((101, 4, 0), fw_ia (fw_cI G) 10 (fun _ => 0)) := by rw [hFW33]; exact fw_up_new k32_2 hqa23
  have k33_3 : W33 a6 = some ((101, 6, 0), fw_ia (fw_cI G) 12 (fun _ => 0)) := by rw [hFW33]; exact fw_up_new k32_3 hqa23
  have k33_4 : W33 a8 = some ((101, 8, 0), fw_ia (fw_cI G) 8 (fun _ => 0)) := by rw [hFW33]; exact fw_up_new k32_4 hqa23
  have k33_5 : W33 a9 = some ((101, 9, 0), fw_ia (fw_cI G) 96 (fun _ => 0)) := by rw [hFW33]; exact fw_up_new k32_5 hqa23
  have k33_6 : W33 a10 = some ((101, 10, 0), fw_ia (fw_cI G) 8 (fun _ => 0)) := by rw [hFW33]; exact fw_up_new k32_6 hqa23
  have k33_7 : W33 a12 = some ((101, 12, 0), fw_ia (fw_cI G) 12 (fun _ => 0)) := by rw [hFW33]; exact fw_up_new k32_7 hqa23
  have k33_8 : W33 a13 = some ((101, 13, 0), fw_ia (fw_cI G) 12 (fun _ => 0)) := by rw [hFW33]; exact fw_up_new k32_8 hqa23
  have k33_9 : W33 a14 = some ((101, 14, 0), fw_ia (fw_cZ G) 12 (fun _ => 0)) := by rw [hFW33]; exact fw_up_new k32_9 hqa23
  have k33_10 : W33 a15 = some ((101, 15, 0), fw_ia (fw_cI G) 48 (fun _ => 0)) := by rw [hFW33]; exact fw_up_new k32_10 hqa23
  have k33_11 : W33 a17 = some ((101, 17, 0), fw_ia (fw_cI G) 96 (fun _ => 0)) := by rw [hFW33]; exact fw_up_new k32_11 hqa23
  have k33_12 : W33 a18 = some ((101, 18, 0), fw_ia (fw_cI G) 96 (fun _ => 0)) := by rw [hFW33]; exact fw_up_new k32_12 hqa23
  have k33_13 : W33 a19 = some ((101, 19, 0), fw_ia (fw_cI G) 96 (fun _ => 0)) := by rw [hFW33]; exact fw_up_new k32_13 hqa23
  have k33_14 : W33 a20 = some ((101, 20, 0), fw_ia (fw_cI G) 96 (fun _ => 0)) := by rw [hFW33]; exact fw_up_new k32_14 hqa23
  have k33_15 : W33 a22 = some ((101, 22, 0), fw_ia (fw_cI G) 3 (fun _ => 0)) := by rw [hFW33]; exact fw_up_new k32_15 hqa23
  have k33_16 : W33 y = some ((100, 0, 0), fw_obj 10 [.int (nI 0), .int (nI 0), .ref a2, .ref a3, .ref a4, .int (nI 0), .ref a6, .int (nI 0), .ref a8, .ref a9, .ref a10, .int (nI 0), .ref a12, .ref a13, .ref a14, .ref a15, .int (nI 0), .ref a17, .ref a18, .ref a19, .ref a20, .int (nI 0), .ref a22, .null, .null]) := by rw [hFW33]; exact fw_up_new k32_s hqa23
  have k33_s : W33 a23 = some ((101, 23, 0), fw_ia (fw_cI G) 3 (fun _ => 0)) := by rw [hFW33]; exact fw_up_self
  have hkp33 : fw_kp F W33 (fun w => w.1 = 100 ∨ w.1 = 101) := by rw [hFW33]; exact hkp32.new hqa23
  refine fw_putF (v := .ref a23) (fs' := [.int (nI 0), .int (nI 0), .ref a2, .ref a3, .ref a4, .int (nI 0), .ref a6, .int (nI 0), .ref a8, .ref a9, .ref a10, .int (nI 0), .ref a12, .ref a13, .ref a14, .ref a15, .int (nI 0), .ref a17, .ref a18, .ref a19, .ref a20, .int (nI 0), .ref a22, .ref a23, .null]) hx hb hT fi_RX9 tyX9 tyX9_ok nmX9 hown hz hw k33_16 rfl 23 (by decide) (hT _ wd_758) (fun _ h9 => h9) rfl (hin rfl) rfl (ty := tyX9 23) (by decide +kernel) rfl rfl (Nat.le_of_ble_eq_true rfl) rfl dX9_init_135 (fun H locs hw => ?_)
  obtain ⟨W34, hFW34⟩ : ∃ z, z = va_up W33 y (some ((100, 0, 0), fw_obj 10 [.int (nI 0), .int (nI 0), .ref a2, .ref a3, .ref a4, .int (nI 0), .ref a6, .int (nI 0), .ref a8, .ref a9, .ref a10, .int (nI 0), .ref a12, .ref a13, .ref a14, .ref a15, .int (nI 0), .ref a17, .ref a18, .ref a19, .ref a20, .int (nI 0), .ref a22, .ref a23, .null])) := ⟨_, rfl⟩
  rw [← hFW34] at hw
  have k34_0 : W34 a2 = some ((101, 2, 0), fw_ia (fw_cI G) 10 (fun _ => 0)) := by rw [hFW34]; exact fw_up_tag k33_0 k33_16 (by intro z; cases z)
  have k34_1 : W34 a3 = some ((101, 3, 0), fw_ia (fw_cI G) 10 (fun _ => 0)) := by rw [hFW34]; exact fw_up_tag k33_1 k33_16 (by intro z; cases z)
  have k34_2 : W34 a4 = some ((101, 4, 0), fw_ia (fw_cI G) 10 (fun _ => 0)) := by rw [hFW34]; exact fw_up_tag k33_2 k33_16 (by intro z; cases z)
  have k34_3 : W34 a6 = some ((101, 6, 0), fw_ia (fw_cI G) 12 (fun _ => 0)) := by rw [hFW34]; exact fw_up_tag k33_3 k33_16 (by intro z; cases z)
  have k34_4 : W34 a8 = some ((101, 8, 0), fw_ia (fw_cI G) 8 (fun _ => 0)) := by rw [hFW34]; exact fw_up_tag k33_4 k33_16 (by intro z; cases z)
  have k34_5 : W34 a9 = some ((101, 9, 0), fw_ia (fw_cI G) 96 (fun _ => 0)) := by rw [hFW34]; exact fw_up_tag k33_5 k33_16 (by intro z; cases z)
  have k34_6 : W34 a10 = some ((101, 10, 0), fw_ia (fw_cI G) 8 (fun _ => 0)) := by rw [hFW34]; exact fw_up_tag k33_6 k33_16 (by intro z; cases z)
  have k34_7 : W34 a12 = some ((101, 12, 0), fw_ia (fw_cI G) 12 (fun _ => 0)) := by rw [hFW34]; exact fw_up_tag k33_7 k33_16 (by intro z; cases z)
  have k34_8 : W34 a13 = some ((101, 13, 0), fw_ia (fw_cI G) 12 (fun _ => 0)) := by rw [hFW34]; exact fw_up_tag k33_8 k33_16 (by intro z; cases z)
  have k34_9 : W34 a14 = some ((101, 14, 0), fw_ia (fw_cZ G) 12 (fun _ => 0)) := by rw [hFW34]; exact fw_up_tag k33_9 k33_16 (by intro z; cases z)
  have k34_10 : W34 a15 = some ((101, 15, 0), fw_ia (fw_cI G) 48 (fun _ => 0)) := by rw [hFW34]; exact fw_up_tag k33_10 k33_16 (by intro z; cases z)
  have k34_11 : W34 a17 = some ((101, 17, 0), fw_ia (fw_cI G) 96 (fun _ => 0)) := by rw [hFW34]; exact fw_up_tag k33_11 k33_16 (by intro z; cases z)
  have k34_12 : W34 a18 = some ((101, 18, 0), fw_ia (fw_cI G) 96 (fun _ => 0)) := by rw [hFW34]; exact fw_up_tag k33_12 k33_16 (by intro z; cases z)
  have k34_13 : W34 a19 = some ((101, 19, 0), fw_ia (fw_cI G) 96 (fun _ => 0)) := by rw [hFW34]; exact fw_up_tag k33_13 k33_16 (by intro z; cases z)
  have k34_14 : W34 a20 = some ((101, 20, 0), fw_ia (fw_cI G) 96 (fun _ => 0)) := by rw [hFW34]; exact fw_up_tag k33_14 k33_16 (by intro z; cases z)
  have k34_15 : W34 a22 = some ((101, 22, 0), fw_ia (fw_cI G) 3 (fun _ => 0)) := by rw [hFW34]; exact fw_up_tag k33_15 k33_16 (by intro z; cases z)
  have k34_16 : W34 a23 = some ((101, 23, 0), fw_ia (fw_cI G) 3 (fun _ => 0)) := by rw [hFW34]; exact fw_up_tag k33_s k33_16 (by intro z; cases z)
  have k34_s : W34 y = some ((100, 0, 0), fw_obj 10 [.int (nI 0), .int (nI 0), .ref a2, .ref a3, .ref a4, .int (nI 0), .ref a6, .int (nI 0), .ref a8, .ref a9, .ref a10, .int (nI 0), .ref a12, .ref a13, .ref a14, .ref a15, .int (nI 0), .ref a17, .ref a18, .ref a19, .ref a20, .int (nI 0), .ref a22, .ref a23, .null]) := by rw [hFW34]; exact fw_up_self
  have hkp34 : fw_kp F W34 (fun w => w.1 = 100 ∨ w.1 = 101) := by rw [hFW34]; exact hkp33.up k33_16 (Or.inl rfl)
  refine lv_aload_n hx hb dX9_init_138 rfl (lv_at hl 0 rfl) ?_
  refine lv_iconst (v := (nI 3)) hx hb dX9_init_139 (by decide) ?_
  refine fw_newa (101, 24, 0) (atype := .int) (cA := fw_cI G) (n := nI 3) (N' := 3) (a0 := (3, .inl (fun _ => 0))) hx hb (hT _ wd_811) (fun cX h9 => Option.some.inj (h9.symm.trans (hz.1.2 0 _ rfl).2)) hw hAn (fun _ => rfl) (by decide) (nI_clamp (by decide)) (Nat.le_of_ble_eq_true rfl) (Nat.le_of_ble_eq_true rfl) (Nat.le_of_ble_eq_true rfl) dX9_init_140 (fun a24 H hqa24 hw => ?_)
  refine W.widen (k := 18) (n := 631) (Nat.le_of_ble_eq_true rfl) (Nat.le_of_ble_eq_true rfl) ?_
  obtain ⟨W35, hFW35⟩ : ∃ z, z = va_up W34 a24 (some ((101, 24, 0), fw_ia (fw_cI G) 3 (fun _ => 0))) := ⟨_, rfl⟩
  rw [← hFW35] at hw
  have k35_0 : W35 a2 = some ((101, 2, 0), fw_ia (fw_cI G) 10 (fun _ => 0)) := by rw [hFW35]; exact fw_up_new k34_0 hqa24
  have k35_1 : W35 a3 = some ((101, 3, 0), fw_ia (fw_cI G) 10 (fun _ => 0)) := by rw [hFW35]; exact fw_up_new k34_1 hqa24
  have k35_2 : W35 a4 = some ((101, 4, 0), fw_ia (fw_cI G) 10 (fun _ => 0)) := by rw [hFW35]; exact fw_up_new k34_2 hqa24
  have k35_3 : W35 a6 = some ((101, 6, 0), fw_ia (fw_cI G) 12 (fun _ => 0)) := by rw [hFW35]; exact fw_up_new k34_3 hqa24
  have k35_4 : W35 a8 = some ((101, 8, 0), fw_ia (fw_cI G) 8 (fun _ => 0)) := by rw [hFW35]; exact fw_up_new k34_4 hqa24
  have k35_5 : W35 a9 = some ((101, 9, 0), fw_ia (fw_cI G) 96 (fun _ => 0)) := by rw [hFW35]; exact fw_up_new k34_5 hqa24
  have k35_6 : W35 a10 = some ((101, 10, 0), fw_ia (fw_cI G) 8 (fun _ => 0)) := by rw [hFW35]; exact fw_up_new k34_6 hqa24
  have k35_7 : W35 a12 = some ((101, 12, 0), fw_ia (fw_cI G) 12 (fun _ => 0)) := by rw [hFW35]; exact fw_up_new k34_7 hqa24
  have k35_8 : W35 a13 = some ((101, 13, 0), fw_ia (fw_cI G) 12 (fun _ => 0)) := by rw [hFW35]; exact fw_up_new k34_8 hqa24
  have k35_9 : W35 a14 = some ((101, 14, 0), fw_ia (fw_cZ G) 12 (fun _ => 0)) := by rw [hFW35]; exact fw_up_new k34_9 hqa24
  have k35_10 : W35 a15 = some ((101, 15, 0), fw_ia (fw_cI G) 48 (fun _ => 0)) := by rw [hFW35]; exact fw_up_new k34_10 hqa24
  have k35_11 : W35 a17 = some ((101, 17, 0), fw_ia (fw_cI G) 96 (fun _ => 0)) := by rw [hFW35]; exact fw_up_new k34_11 hqa24
  have k35_12 : W35 a18 = some ((101, 18, 0), fw_ia (fw_cI G) 96 (fun _ => 0)) := by rw [hFW35]; exact fw_up_new k34_12 hqa24
  have k35_13 : W35 a19 = some ((101, 19, 0), fw_ia (fw_cI G) 96 (fun _ => 0)) := by rw [hFW35]; exact fw_up_new k34_13 hqa24
  have k35_14 : W35 a20 = some ((101, 20, 0), fw_ia (fw_cI G) 96 (fun _ => 0)) := by rw [hFW35]; exact fw_up_new k34_14 hqa24
  have k35_15 : W35 a22 = some ((101, 22, 0), fw_ia (fw_cI G) 3 (fun _ => 0)) := by rw [hFW35]; exact fw_up_new k34_15 hqa24
  have k35_16 : W35 a23 = some ((101, 23, 0), fw_ia (fw_cI G) 3 (fun _ => 0)) := by rw [hFW35]; exact fw_up_new k34_16 hqa24
  have k35_17 : W35 y = some ((100, 0, 0), fw_obj 10 [.int (nI 0), .int (nI 0), .ref a2, .ref a3, .ref a4, .int (nI 0), .ref a6, .int (nI 0), .ref a8, .ref a9, .ref a10, .int (nI 0), .ref a12, .ref a13, .ref a14, .ref a15, .int (nI 0), .ref a17, .ref a18, .ref a19, .ref a20, .int (nI 0), .ref a22, .ref a23, .null]) := by rw [hFW35]; exact fw_up_new k34_s hqa24
  have k35_s : W35 a24 = some ((101, 24, 0), fw_ia (fw_cI G) 3 (fun _ => 0)) := by rw [hFW35]; exact fw_up_self
  have hkp35 : fw_kp F W35 (fun w => w.1 = 100 ∨ w.1 = 101) := by rw [hFW35]; exact hkp34.new hqa24
  refine fw_putF (v := .ref a24) (fs' := [.int (nI 0), .int (nI 0), .ref a2, .ref a3, .ref a4, .int (nI 0), .ref a6, .int (nI 0), .ref a8, .ref a9, .ref a10, .int (nI 0), .ref a12, .ref a13, .ref a14, .ref a15, .int (nI 0), .ref a17, .ref a18, .ref a19, .ref a20, .int (nI 0), .ref a22, .ref a23, .ref a24]) hx hb hT fi_RX9 tyX9 tyX9_ok nmX9 hown hz hw k35_17 rfl 24 (by decide) (hT _ wd_759) (fun _ h9 => h9) rfl (hin rfl) rfl (ty := tyX9 24) (by decide +kernel) rfl rfl (Nat.le_of_ble_eq_true rfl) rfl dX9_init_142 (fun H locs hw => ?_)
  obtain ⟨W36, hFW36⟩ : ∃ z, z = va_up W35 y (some ((100, 0, 0), fw_obj 10 [.int (nI 0), .int (nI 0), .ref a2, .ref a3, .ref a4, .int (nI 0), .ref a6, .int (nI 0), .ref a8, .ref a9, .ref a10, .int (nI 0), .ref a12, .ref a13, .ref a14, .ref a15, .int (nI 0), .ref a17, .ref a18, .ref a19, .ref a20, .int (nI 0), .ref a22, .ref a23, .ref a24])) := ⟨_, rfl⟩
  rw [← hFW36] at hw
  have k36_0 : W36 a2 = some ((101, 2, 0), fw_ia (fw_cI G) 10 (fun _ => 0)) := by rw [hFW36]; exact fw_up_tag k35_0 k35_17 (by intro z; cases z)
  have k36_1 : W36 a3 = some ((101, 3, 0), fw_ia (fw_cI G) 10 (fun _ => 0)) := by rw [hFW36]; exact fw_up_tag k35_1 k35_17 (by intro z; cases z)
  have k36_2 : W36 a4 = some ((101, 4, 0), fw_ia (fw_cI G) 10 (fun _ => 0)) := by rw [hFW36]; exact fw_up_tag k35_2 k35_17 (by intro z; cases z)
  have k36_3 : W36 a6 = some ((101, 6, 0), fw_ia (fw_cI G) 12 (fun _ => 0)) := by rw [hFW36]; exact fw_up_tag k35_3 k35_17 (by intro z; cases z)
  have k36_4 : W36 a8 = some ((101, 8, 0), fw_ia (fw_cI G) 8 (fun _ => 0)) := by rw [hFW36]; exact fw_up_tag k35_4 k35_17 (by intro z; cases z)
  have k36_5 : W36 a9 = some ((101, 9, 0), fw_ia (fw_cI G) 96 (fun _ => 0)) := by rw [hFW36]; exact fw_up_tag k35_5 k35_17 (by intro z; cases z)
  have k36_6 : W36 a10 = some ((101, 10, 0), fw_ia (fw_cI G) 8 (fun _ => 0)) := by rw [hFW36]; exact fw_up_tag k35_6 k35_17 (by intro z; cases z)
  have k36_7 : W36 a12 = some ((101, 12, 0), fw_ia (fw_cI G) 12 (fun _ => 0)) := by rw [hFW36]; exact fw_up_tag k35_7 k35_17 (by intro z; cases z)
  have k36_8 : W36 a13 = some ((101, 13, 0), fw_ia (fw_cI G) 12 (fun _ => 0)) := by rw [hFW36]; exact fw_up_tag k35_8 k35_17 (by intro z; cases z)
  have k36_9 : W36 a14 = some ((101, 14, 0), fw_ia (fw_cZ G) 12 (fun _ => 0)) := by rw [hFW36]; exact fw_up_tag k35_9 k35_17 (by intro z; cases z)
  have k36_10 : W36 a15 = some ((101, 15, 0), fw_ia (fw_cI G) 48 (fun _ => 0)) := by rw [hFW36]; exact fw_up_tag k35_10 k35_17 (by intro z; cases z)
  have k36_11 : W36 a17 = some ((101, 17, 0), fw_ia (fw_cI G) 96 (fun _ => 0)) := by rw [hFW36]; exact fw_up_tag k35_11 k35_17 (by intro z; cases z)
  have k36_12 : W36 a18 = some ((101, 18, 0), fw_ia (fw_cI G) 96 (fun _ => 0)) := by rw [hFW36]; exact fw_up_tag k35_12 k35_17 (by intro z; cases z)
  have k36_13 : W36 a19 = some ((101, 19, 0), fw_ia (fw_cI G) 96 (fun _ => 0)) := by rw [hFW36]; exact fw_up_tag k35_13 k35_17 (by intro z; cases z)
  have k36_14 : W36 a20 = some ((101, 20, 0), fw_ia (fw_cI G) 96 (fun _ => 0)) := by rw [hFW36]; exact fw_up_tag k35_14 k35_17 (by intro z; cases z)
  have k36_15 : W36 a22 = some ((101, 22, 0), fw_ia (fw_cI G) 3 (fun _ => 0)) := by rw [hFW36]; exact fw_up_tag k35_15 k35_17 (by intro z; cases z)
  have k36_16 : W36 a23 = some ((101, 23, 0), fw_ia (fw_cI G) 3 (fun _ => 0)) := by rw [hFW36]; exact fw_up_tag k35_16 k35_17 (by intro z; cases z)
  have k36_17 : W36 a24 = some ((101, 24, 0), fw_ia (fw_cI G) 3 (fun _ => 0)) := by rw [hFW36]; exact fw_up_tag k35_s k35_17 (by intro z; cases z)
  have k36_s : W36 y = some ((100, 0, 0), fw_obj 10 [.int (nI 0), .int (nI 0), .ref a2, .ref a3, .ref a4, .int (nI 0), .ref a6, .int (nI 0), .ref a8, .ref a9, .ref a10, .int (nI 0), .ref a12, .ref a13, .ref a14, .ref a15, .int (nI 0), .ref a17, .ref a18, .ref a19, .ref a20, .int (nI 0), .ref a22, .ref a23, .ref a24]) := by rw [hFW36]; exact fw_up_self
  have hkp36 : fw_kp F W36 (fun w => w.1 = 100 ∨ w.1 = 101) := by rw [hFW36]; exact hkp35.up k35_17 (Or.inl rfl)
  refine lv_iconst (v := (nI 0)) hx hb dX9_init_145 (by decide) ?_
  refine lv_istore_n (lv' := [(1, .int (nI 0)), (0, .ref y)]) hx hb dX9_init_146 rfl hl (by decide) rfl (fun ls hl => ?_)
  refine lv_iload_n hx hb dX9_init_147 rfl (lv_at hl 0 rfl) ?_
  refine lv_iconst (v := (nI 3)) hx hb dX9_init_148 (by decide) ?_
  refine lv_icmp_ge (tgt := 172) hx hb dX9_init_149 (by decide) (fun cx => absurd cx (by decide)) (fun cx => ?_)
  refine lv_aload_n hx hb dX9_init_152 rfl (lv_at hl 1 rfl) ?_
  refine fw_get (v := .ref a22) hx hb hT fi_RX9 hown hz hw k36_s rfl 22 (by decide) (hT _ wd_757) (fun _ h9 => h9) rfl dX9_init_153 ?_
  refine lv_iload_n hx hb dX9_init_156 rfl (lv_at hl 0 rfl) ?_
  refine lv_iconst (v := (-1)) hx hb dX9_init_157 (by decide) ?_
  refine fw_iast hx hb hz hw k36_15 (i := nI (0)) (vp_in_nI (by decide) (by decide)) dX9_init_158 (fun H locs hw => ?_)
  rw [show (nI (0)).toNatClampNeg = 0 from nI_clamp (by decide)] at hw
  obtain ⟨W37, hFW37⟩ : ∃ z, z = va_up W36 a22 (some ((101, 22, 0), fw_ia (fw_cI G) 3 (upd (fun _ => 0) 0 (-1)))) := ⟨_, rfl⟩
  rw [← hFW37] at hw
  have k37_0 : W37 a2 = some ((101, 2, 0), fw_ia (fw_cI G) 10 (fun _ => 0)) := by rw [hFW37]; exact fw_up_tag k36_0 k36_15 (by intro z; cases z)
  have k37_1 : W37 a3 = some ((101, 3, 0), fw_ia (fw_cI G) 10 (fun _ => 0)) := by rw [hFW37]; exact fw_up_tag k36_1 k36_15 (by intro z; cases z)
  have k37_2 : W37 a4 = some ((101, 4, 0), fw_ia (fw_cI G) 10 (fun _ => 0)) := by rw [hFW37]; exact fw_up_tag k36_2 k36_15 (by intro z; cases z)
  have k37_3 : W37 a6 = some ((101, 6, 0), fw_ia (fw_cI G) 12 (fun _ => 0)) := by rw [hFW37]; exact fw_up_tag k36_3 k36_15 (by intro z; cases z)
  have k37_4 : W37 a8 = some ((101, 8, 0), fw_ia (fw_cI G) 8 (fun _ => 0)) := by rw [hFW37]; exact fw_up_tag k36_4 k36_15 (by intro z; cases z)
  have k37_5 : W37 a9 = some ((101, 9, 0), fw_ia (fw_cI G) 96 (fun _ => 0)) := by rw [hFW37]; exact fw_up_tag k36_5 k36_15 (by intro z; cases z)
  have k37_6 : W37 a10 = some ((101, 10, 0), fw_ia (fw_cI G) 8 (fun _ => 0)) := by rw [hFW37]; exact fw_up_tag k36_6 k36_15 (by intro z; cases z)
  have k37_7 : W37 a12 = some ((101, 12, 0), fw_ia (fw_cI G) 12 (fun _ => 0)) := by rw [hFW37]; exact fw_up_tag k36_7 k36_15 (by intro z; cases z)
  have k37_8 : W37 a13 = some ((101, 13, 0), fw_ia (fw_cI G) 12 (fun _ => 0)) := by rw [hFW37]; exact fw_up_tag k36_8 k36_15 (by intro z; cases z)
  have k37_9 : W37 a14 = some ((101, 14, 0), fw_ia (fw_cZ G) 12 (fun _ => 0)) := by rw [hFW37]; exact fw_up_tag k36_9 k36_15 (by intro z; cases z)
  have k37_10 : W37 a15 = some ((101, 15, 0), fw_ia (fw_cI G) 48 (fun _ => 0)) := by rw [hFW37]; exact fw_up_tag k36_10 k36_15 (by intro z; cases z)
  have k37_11 : W37 a17 = some ((101, 17, 0), fw_ia (fw_cI G) 96 (fun _ => 0)) := by rw [hFW37]; exact fw_up_tag k36_11 k36_15 (by intro z; cases z)
  have k37_12 : W37 a18 = some ((101, 18, 0), fw_ia (fw_cI G) 96 (fun _ => 0)) := by rw [hFW37]; exact fw_up_tag k36_12 k36_15 (by intro z; cases z)
  have k37_13 : W37 a19 = some ((101, 19, 0), fw_ia (fw_cI G) 96 (fun _ => 0)) := by rw [hFW37]; exact fw_up_tag k36_13 k36_15 (by intro z; cases z)
  have k37_14 : W37 a20 = some ((101, 20, 0), fw_ia (fw_cI G) 96 (fun _ => 0)) := by rw [hFW37]; exact fw_up_tag k36_14 k36_15 (by intro z; cases z)
  have k37_15 : W37 a23 = some ((101, 23, 0), fw_ia (fw_cI G) 3 (fun _ => 0)) := by rw [hFW37]; exact fw_up_tag k36_16 k36_15 (by intro z; cases z)
  have k37_16 : W37 a24 = some ((101, 24, 0), fw_ia (fw_cI G) 3 (fun _ => 0)) := by rw [hFW37]; exact fw_up_tag k36_17 k36_15 (by intro z; cases z)
  have k37_17 : W37 y = some ((100, 0, 0), fw_obj 10 [.int (nI 0), .int (nI 0), .ref a2, .ref a3, .ref a4, .int (nI 0), .ref a6, .int (nI 0), .ref a8, .ref a9, .ref a10, .int (nI 0), .ref a12, .ref a13, .ref a14, .ref a15, .int (nI 0), .ref a17, .ref a18, .ref a19, .ref a20, .int (nI 0), .ref a22, .ref a23, .ref a24]) := by rw [hFW37]; exact fw_up_tag k36_s k36_15 (by intro z; cases z)
  have k37_s : W37 a22 = some ((101, 22, 0), fw_ia (fw_cI G) 3 (upd (fun _ => 0) 0 (-1))) := by rw [hFW37]; exact fw_up_self
  have hkp37 : fw_kp F W37 (fun w => w.1 = 100 ∨ w.1 = 101) := by rw [hFW37]; exact hkp36.up k36_15 (Or.inr rfl)
  refine lv_aload_n hx hb dX9_init_159 rfl (lv_at hl 1 rfl) ?_
  refine fw_get (v := .ref a23) hx hb hT fi_RX9 hown hz hw k37_17 rfl 23 (by decide) (hT _ wd_758) (fun _ h9 => h9) rfl dX9_init_160 ?_
  refine lv_iload_n hx hb dX9_init_163 rfl (lv_at hl 0 rfl) ?_
  refine lv_iconst (v := (-1)) hx hb dX9_init_164 (by decide) ?_
  refine fw_iast hx hb hz hw k37_15 (i := nI (0)) (vp_in_nI (by decide) (by decide)) dX9_init_165 (fun H locs hw => ?_)
  rw [show (nI (0)).toNatClampNeg = 0 from nI_clamp (by decide)] at hw
  obtain ⟨W38, hFW38⟩ : ∃ z, z = va_up W37 a23 (some ((101, 23, 0), fw_ia (fw_cI G) 3 (upd (fun _ => 0) 0 (-1)))) := ⟨_, rfl⟩
  rw [← hFW38] at hw
  have k38_0 : W38 a2 = some ((101, 2, 0), fw_ia (fw_cI G) 10 (fun _ => 0)) := by rw [hFW38]; exact fw_up_tag k37_0 k37_15 (by intro z; cases z)
  have k38_1 : W38 a3 = some ((101, 3, 0), fw_ia (fw_cI G) 10 (fun _ => 0)) := by rw [hFW38]; exact fw_up_tag k37_1 k37_15 (by intro z; cases z)
  have k38_2 : W38 a4 = some ((101, 4, 0), fw_ia (fw_cI G) 10 (fun _ => 0)) := by rw [hFW38]; exact fw_up_tag k37_2 k37_15 (by intro z; cases z)
  have k38_3 : W38 a6 = some ((101, 6, 0), fw_ia (fw_cI G) 12 (fun _ => 0)) := by rw [hFW38]; exact fw_up_tag k37_3 k37_15 (by intro z; cases z)
  have k38_4 : W38 a8 = some ((101, 8, 0), fw_ia (fw_cI G) 8 (fun _ => 0)) := by rw [hFW38]; exact fw_up_tag k37_4 k37_15 (by intro z; cases z)
  have k38_5 : W38 a9 = some ((101, 9, 0), fw_ia (fw_cI G) 96 (fun _ => 0)) := by rw [hFW38]; exact fw_up_tag k37_5 k37_15 (by intro z; cases z)
  have k38_6 : W38 a10 = some ((101, 10, 0), fw_ia (fw_cI G) 8 (fun _ => 0)) := by rw [hFW38]; exact fw_up_tag k37_6 k37_15 (by intro z; cases z)
  have k38_7 : W38 a12 = some ((101, 12, 0), fw_ia (fw_cI G) 12 (fun _ => 0)) := by rw [hFW38]; exact fw_up_tag k37_7 k37_15 (by intro z; cases z)
  have k38_8 : W38 a13 = some ((101, 13, 0), fw_ia (fw_cI G) 12 (fun _ => 0)) := by rw [hFW38]; exact fw_up_tag k37_8 k37_15 (by intro z; cases z)
  have k38_9 : W38 a14 = some ((101, 14, 0), fw_ia (fw_cZ G) 12 (fun _ => 0)) := by rw [hFW38]; exact fw_up_tag k37_9 k37_15 (by intro z; cases z)
  have k38_10 : W38 a15 = some ((101, 15, 0), fw_ia (fw_cI G) 48 (fun _ => 0)) := by rw [hFW38]; exact fw_up_tag k37_10 k37_15 (by intro z; cases z)
  have k38_11 : W38 a17 = some ((101, 17, 0), fw_ia (fw_cI G) 96 (fun _ => 0)) := by rw [hFW38]; exact fw_up_tag k37_11 k37_15 (by intro z; cases z)
  have k38_12 : W38 a18 = some ((101, 18, 0), fw_ia (fw_cI G) 96 (fun _ => 0)) := by rw [hFW38]; exact fw_up_tag k37_12 k37_15 (by intro z; cases z)
  have k38_13 : W38 a19 = some ((101, 19, 0), fw_ia (fw_cI G) 96 (fun _ => 0)) := by rw [hFW38]; exact fw_up_tag k37_13 k37_15 (by intro z; cases z)
  have k38_14 : W38 a20 = some ((101, 20, 0), fw_ia (fw_cI G) 96 (fun _ => 0)) := by rw [hFW38]; exact fw_up_tag k37_14 k37_15 (by intro z; cases z)
  have k38_15 : W38 a24 = some ((101, 24, 0), fw_ia (fw_cI G) 3 (fun _ => 0)) := by rw [hFW38]; exact fw_up_tag k37_16 k37_15 (by intro z; cases z)
  have k38_16 : W38 y = some ((100, 0, 0), fw_obj 10 [.int (nI 0), .int (nI 0), .ref a2, .ref a3, .ref a4, .int (nI 0), .ref a6, .int (nI 0), .ref a8, .ref a9, .ref a10, .int (nI 0), .ref a12, .ref a13, .ref a14, .ref a15, .int (nI 0), .ref a17, .ref a18, .ref a19, .ref a20, .int (nI 0), .ref a22, .ref a23, .ref a24]) := by rw [hFW38]; exact fw_up_tag k37_17 k37_15 (by intro z; cases z)
  have k38_17 : W38 a22 = some ((101, 22, 0), fw_ia (fw_cI G) 3 (upd (fun _ => 0) 0 (-1))) := by rw [hFW38]; exact fw_up_tag k37_s k37_15 (by intro z; cases z)
  have k38_s : W38 a23 = some ((101, 23, 0), fw_ia (fw_cI G) 3 (upd (fun _ => 0) 0 (-1))) := by rw [hFW38]; exact fw_up_self
  have hkp38 : fw_kp F W38 (fun w => w.1 = 100 ∨ w.1 = 101) := by rw [hFW38]; exact hkp37.up k37_15 (Or.inr rfl)
  refine lv_iinc (v := (nI (0 + 1))) (lv' := [(1, .int (nI (0 + 1))), (0, .ref y)]) hx hb dX9_init_166 hl (k := 0) rfl (nI_1 _) (by decide) rfl (fun ls hl => ?_)
  refine lv_goto (tgt := 147) hx hb dX9_init_169 (by decide) ?_
  refine lv_iload_n hx hb dX9_init_147 rfl (lv_at hl 0 rfl) ?_
  refine lv_iconst (v := (nI 3)) hx hb dX9_init_148 (by decide) ?_
  refine lv_icmp_ge (tgt := 172) hx hb dX9_init_149 (by decide) (fun cx => absurd cx (by decide)) (fun cx => ?_)
  refine lv_aload_n hx hb dX9_init_152 rfl (lv_at hl 1 rfl) ?_
  refine fw_get (v := .ref a22) hx hb hT fi_RX9 hown hz hw k38_16 rfl 22 (by decide) (hT _ wd_757) (fun _ h9 => h9) rfl dX9_init_153 ?_
  refine lv_iload_n hx hb dX9_init_156 rfl (lv_at hl 0 rfl) ?_
  refine lv_iconst (v := (-1)) hx hb dX9_init_157 (by decide) ?_
  refine fw_iast hx hb hz hw k38_17 (i := nI (0 + 1)) (vp_in_nI (by decide) (by decide)) dX9_init_158 (fun H locs hw => ?_)
  rw [show (nI (0 + 1)).toNatClampNeg = 1 from nI_clamp (by decide)] at hw
  obtain ⟨W39, hFW39⟩ : ∃ z, z = va_up W38 a22 (some ((101, 22, 0), fw_ia (fw_cI G) 3 (upd (upd (fun _ => 0) 0 (-1)) 1 (-1)))) := ⟨_, rfl⟩
  rw [← hFW39] at hw
  have k39_0 : W39 a2 = some ((101, 2, 0), fw_ia (fw_cI G) 10 (fun _ => 0)) := by rw [hFW39]; exact fw_up_tag k38_0 k38_17 (by intro z; cases z)
  have k39_1 : W39 a3 = some ((101, 3, 0), fw_ia (fw_cI G) 10 (fun _ => 0)) := by rw [hFW39]; exact fw_up_tag k38_1 k38_17 (by intro z; cases z)
  have k39_2 : W39 a4 = some ((101, 4, 0), fw_ia (fw_cI G) 10 (fun _ => 0)) := by rw [hFW39]; exact fw_up_tag k38_2 k38_17 (by intro z; cases z)
  have k39_3 : W39 a6 = some ((101, 6, 0), fw_ia (fw_cI G) 12 (fun _ => 0)) := by rw [hFW39]; exact fw_up_tag k38_3 k38_17 (by intro z; cases z)
  have k39_4 : W39 a8 = some ((101, 8, 0), fw_ia (fw_cI G) 8 (fun _ => 0)) := by rw [hFW39]; exact fw_up_tag k38_4 k38_17 (by intro z; cases z)
  have k39_5 : W39 a9 = some ((101, 9, 0), fw_ia (fw_cI G) 96 (fun _ => 0)) := by rw [hFW39]; exact fw_up_tag k38_5 k38_17 (by intro z; cases z)
  have k39_6 : W39 a10 = some ((101, 10, 0), fw_ia (fw_cI G) 8 (fun _ => 0)) := by rw [hFW39]; exact fw_up_tag k38_6 k38_17 (by intro z; cases z)
  have k39_7 : W39 a12 = some ((101, 12, 0), fw_ia (fw_cI G) 12 (fun _ => 0)) := by rw [hFW39]; exact fw_up_tag k38_7 k38_17 (by intro z; cases z)
  have k39_8 : W39 a13 = some ((101, 13, 0), fw_ia (fw_cI G) 12 (fun _ => 0)) := by rw [hFW39]; exact fw_up_tag k38_8 k38_17 (by intro z; cases z)
  have k39_9 : W39 a14 = some ((101, 14, 0), fw_ia (fw_cZ G) 12 (fun _ => 0)) := by rw [hFW39]; exact fw_up_tag k38_9 k38_17 (by intro z; cases z)
  have k39_10 : W39 a15 = some ((101, 15, 0), fw_ia (fw_cI G) 48 (fun _ => 0)) := by rw [hFW39]; exact fw_up_tag k38_10 k38_17 (by intro z; cases z)
  have k39_11 : W39 a17 = some ((101, 17, 0), fw_ia (fw_cI G) 96 (fun _ => 0)) := by rw [hFW39]; exact fw_up_tag k38_11 k38_17 (by intro z; cases z)
  have k39_12 : W39 a18 = some ((101, 18, 0), fw_ia (fw_cI G) 96 (fun _ => 0)) := by rw [hFW39]; exact fw_up_tag k38_12 k38_17 (by intro z; cases z)
  have k39_13 : W39 a19 = some ((101, 19, 0), fw_ia (fw_cI G) 96 (fun _ => 0)) := by rw [hFW39]; exact fw_up_tag k38_13 k38_17 (by intro z; cases z)
  have k39_14 : W39 a20 = some ((101, 20, 0), fw_ia (fw_cI G) 96 (fun _ => 0)) := by rw [hFW39]; exact fw_up_tag k38_14 k38_17 (by intro z; cases z)
  have k39_15 : W39 a24 = some ((101, 24, 0), fw_ia (fw_cI G) 3 (fun _ => 0)) := by rw [hFW39]; exact fw_up_tag k38_15 k38_17 (by intro z; cases z)
  have k39_16 : W39 y = some ((100, 0, 0), fw_obj 10 [.int (nI 0), .int (nI 0), .ref a2, .ref a3, .ref a4, .int (nI 0), .ref a6, .int (nI 0), .ref a8, .ref a9, .ref a10, .int (nI 0), .ref a12, .ref a13, .ref a14, .ref a15, .int (nI 0), .ref a17, .ref a18, .ref a19, .ref a20, .int (nI 0), .ref a22, .ref a23, .ref a24]) := by rw [hFW39]; exact fw_up_tag k38_16 k38_17 (by intro z; cases z)
  have k39_17 : W39 a23 = some ((101, 23, 0), fw_ia (fw_cI G) 3 (upd (fun _ => 0) 0 (-1))) := by rw [hFW39]; exact fw_up_tag k38_s k38_17 (by intro z; cases z)
  have k39_s : W39 a22 = some ((101, 22, 0), fw_ia (fw_cI G) 3 (upd (upd (fun _ => 0) 0 (-1)) 1 (-1))) := by rw [hFW39]; exact fw_up_self
  have hkp39 : fw_kp F W39 (fun w => w.1 = 100 ∨ w.1 = 101) := by rw [hFW39]; exact hkp38.up k38_17 (Or.inr rfl)
  refine lv_aload_n hx hb dX9_init_159 rfl (lv_at hl 1 rfl) ?_
  refine fw_get (v := .ref a23) hx hb hT fi_RX9 hown hz hw k39_16 rfl 23 (by decide) (hT _ wd_758) (fun _ h9 => h9) rfl dX9_init_160 ?_
  refine lv_iload_n hx hb dX9_init_163 rfl (lv_at hl 0 rfl) ?_
  refine lv_iconst (v := (-1)) hx hb dX9_init_164 (by decide) ?_
  refine fw_iast hx hb hz hw k39_17 (i := nI (0 + 1)) (vp_in_nI (by decide) (by decide)) dX9_init_165 (fun H locs hw => ?_)
  rw [show (nI (0 + 1)).toNatClampNeg = 1 from nI_clamp (by decide)] at hw
  obtain ⟨W40, hFW40⟩ : ∃ z, z = va_up W39 a23 (some ((101, 23, 0), fw_ia (fw_cI G) 3 (upd (upd (fun _ => 0) 0 (-1)) 1 (-1)))) := ⟨_, rfl⟩
  rw [← hFW40] at hw
  have k40_0 : W40 a2 = some ((101, 2, 0), fw_ia (fw_cI G) 10 (fun _ => 0)) := by rw [hFW40]; exact fw_up_tag k39_0 k39_17 (by intro z; cases z)
  have k40_1 : W40 a3 = some ((101, 3, 0), fw_ia (fw_cI G) 10 (fun _ => 0)) := by rw [hFW40]; exact fw_up_tag k39_1 k39_17 (by intro z; cases z)
  have k40_2 : W40 a4 = some ((101, 4, 0), fw_ia (fw_cI G) 10 (fun _ => 0)) := by rw [hFW40]; exact fw_up_tag k39_2 k39_17 (by intro z; cases z)
  have k40_3 : W40 a6 = some ((101, 6, 0), fw_ia (fw_cI G) 12 (fun _ => 0)) := by rw [hFW40]; exact fw_up_tag k39_3 k39_17 (by intro z; cases z)
  have k40_4 : W40 a8 = some ((101, 8, 0), fw_ia (fw_cI G) 8 (fun _ => 0)) := by rw [hFW40]; exact fw_up_tag k39_4 k39_17 (by intro z; cases z)
  have k40_5 : W40 a9 = some ((101, 9, 0), fw_ia (fw_cI G) 96 (fun _ => 0)) := by rw [hFW40]; exact fw_up_tag k39_5 k39_17 (by intro z; cases z)
  have k40_6 : W40 a10 = some ((101, 10, 0), fw_ia (fw_cI G) 8 (fun _ => 0)) := by rw [hFW40]; exact fw_up_tag k39_6 k39_17 (by intro z; cases z)
  have k40_7 : W40 a12 = some ((101, 12, 0), fw_ia (fw_cI G) 12 (fun _ => 0)) := by rw [hFW40]; exact fw_up_tag k39_7 k39_17 (by intro z; cases z)
  have k40_8 : W40 a13 = some ((101, 13, 0), fw_ia (fw_cI G) 12 (fun _ => 0)) := by rw [hFW40]; exact fw_up_tag k39_8 k39_17 (by intro z; cases z)
  have k40_9 : W40 a14 = some ((101, 14, 0), fw_ia (fw_cZ G) 12 (fun _ => 0)) := by rw [hFW40]; exact fw_up_tag k39_9 k39_17 (by intro z; cases z)
  have k40_10 : W40 a15 = some ((101, 15, 0), fw_ia (fw_cI G) 48 (fun _ => 0)) := by rw [hFW40]; exact fw_up_tag k39_10 k39_17 (by intro z; cases z)
  have k40_11 : W40 a17 = some ((101, 17, 0), fw_ia (fw_cI G) 96 (fun _ => 0)) := by rw [hFW40]; exact fw_up_tag k39_11 k39_17 (by intro z; cases z)
  have k40_12 : W40 a18 = some ((101, 18, 0), fw_ia (fw_cI G) 96 (fun _ => 0)) := by rw [hFW40]; exact fw_up_tag k39_12 k39_17 (by intro z; cases z)
  have k40_13 : W40 a19 = some ((101, 19, 0), fw_ia (fw_cI G) 96 (fun _ => 0)) := by rw [hFW40]; exact fw_up_tag k39_13 k39_17 (by intro z; cases z)
  have k40_14 : W40 a20 = some ((101, 20, 0), fw_ia (fw_cI G) 96 (fun _ => 0)) := by rw [hFW40]; exact fw_up_tag k39_14 k39_17 (by intro z; cases z)
  have k40_15 : W40 a24 = some ((101, 24, 0), fw_ia (fw_cI G) 3 (fun _ => 0)) := by rw [hFW40]; exact fw_up_tag k39_15 k39_17 (by intro z; cases z)
  have k40_16 : W40 y = some ((100, 0, 0), fw_obj 10 [.int (nI 0), .int (nI 0), .ref a2, .ref a3, .ref a4, .int (nI 0), .ref a6, .int (nI 0), .ref a8, .ref a9, .ref a10, .int (nI 0), .ref a12, .ref a13, .ref a14, .ref a15, .int (nI 0), .ref a17, .ref a18, .ref a19, .ref a20, .int (nI 0), .ref a22, .ref a23, .ref a24]) := by rw [hFW40]; exact fw_up_tag k39_16 k39_17 (by intro z; cases z)
  have k40_17 : W40 a22 = some ((101, 22, 0), fw_ia (fw_cI G) 3 (upd (upd (fun _ => 0) 0 (-1)) 1 (-1))) := by rw [hFW40]; exact fw_up_tag k39_s k39_17 (by intro z; cases z)
  have k40_s : W40 a23 = some ((101, 23, 0), fw_ia (fw_cI G) 3 (upd (upd (fun _ => 0) 0 (-1)) 1 (-1))) := by rw [hFW40]; exact fw_up_self
  have hkp40 : fw_kp F W40 (fun w => w.1 = 100 ∨ w.1 = 101) := by rw [hFW40]; exact hkp39.up k39_17 (Or.inr rfl)
  refine lv_iinc (v := (nI (0 + 1 + 1))) (lv' := [(1, .int (nI (0 + 1 + 1))), (0, .ref y)]) hx hb dX9_init_166 hl (k := 0) rfl (nI_1 _) (by decide) rfl (fun ls hl => ?_)
  refine lv_goto (tgt := 147) hx hb dX9_init_169 (by decide) ?_
  refine lv_iload_n hx hb dX9_init_147 rfl (lv_at hl 0 rfl) ?_
  refine lv_iconst (v := (nI 3)) hx hb dX9_init_148 (by decide) ?_
  refine lv_icmp_ge (tgt := 172) hx hb dX9_init_149 (by decide) (fun cx => absurd cx (by decide)) (fun cx => ?_)
  refine lv_aload_n hx hb dX9_init_152 rfl (lv_at hl 1 rfl) ?_
  refine fw_get (v := .ref a22) hx hb hT fi_RX9 hown hz hw k40_16 rfl 22 (by decide) (hT _ wd_757) (fun _ h9 => h9) rfl dX9_init_153 ?_
  refine lv_iload_n hx hb dX9_init_156 rfl (lv_at hl 0 rfl) ?_
  refine lv_iconst (v := (-1)) hx hb dX9_init_157 (by decide) ?_
  refine fw_iast hx hb hz hw k40_17 (i := nI (0 + 1 + 1)) (vp_in_nI (by decide) (by decide)) dX9_init_158 (fun H locs hw => ?_)
  rw [show (nI (0 + 1 + 1)).toNatClampNeg = 2 from nI_clamp (by decide)] at hw
  obtain ⟨W41, hFW41⟩ : ∃ z, z = va_up W40 a22 (some ((101, 22, 0), fw_ia (fw_cI G) 3 (upd (upd (upd (fun _ => 0) 0 (-1)) 1 (-1)) 2 (-1)))) := ⟨_, rfl⟩
  rw [← hFW41] at hw
  have k41_0 : W41 a2 = some ((101, 2, 0), fw_ia (fw_cI G) 10 (fun _ => 0)) := by rw [hFW41]; exact fw_up_tag k40_0 k40_17 (by intro z; cases z)
  have k41_1 : W41 a3 = some ((101, 3, 0), fw_ia (fw_cI G) 10 (fun _ => 0)) := by rw [hFW41]; exact fw_up_tag k40_1 k40_17 (by intro z; cases z)
  have k41_2 : W41 a4 = some ((101, 4, 0), fw_ia (fw_cI G) 10 (fun _ => 0)) := by rw [hFW41]; exact fw_up_tag k40_2 k40_17 (by intro z; cases z)
  have k41_3 : W41 a6 = some ((101, 6, 0), fw_ia (fw_cI G) 12 (fun _ => 0)) := by rw [hFW41]; exact fw_up_tag k40_3 k40_17 (by intro z; cases z)
  have k41_4 : W41 a8 = some ((101, 8, 0), fw_ia (fw_cI G) 8 (fun _ => 0)) := by rw [hFW41]; exact fw_up_tag k40_4 k40_17 (by intro z; cases z)
  have k41_5 : W41 a9 = some ((101, 9, 0), fw_ia (fw_cI G) 96 (fun _ => 0)) := by rw [hFW41]; exact fw_up_tag k40_5 k40_17 (by intro z; cases z)
  have k41_6 : W41 a10 = some ((101, 10, 0), fw_ia (fw_cI G) 8 (fun _ => 0)) := by rw [hFW41]; exact fw_up_tag k40_6 k40_17 (by intro z; cases z)
  have k41_7 : W41 a12 = some ((101, 12, 0), fw_ia (fw_cI G) 12 (fun _ => 0)) := by rw [hFW41]; exact fw_up_tag k40_7 k40_17 (by intro z; cases z)
  have k41_8 : W41 a13 = some ((101, 13, 0), fw_ia (fw_cI G) 12 (fun _ => 0)) := by rw [hFW41]; exact fw_up_tag k40_8 k40_17 (by intro z; cases z)
  have k41_9 : W41 a14 = some ((101, 14, 0), fw_ia (fw_cZ G) 12 (fun _ => 0)) := by rw [hFW41]; exact fw_up_tag k40_9 k40_17 (by intro z; cases z)
  have k41_10 : W41 a15 = some ((101, 15, 0), fw_ia (fw_cI G) 48 (fun _ => 0)) := by rw [hFW41]; exact fw_up_tag k40_10 k40_17 (by intro z; cases z)
  have k41_11 : W41 a17 = some ((101, 17, 0), fw_ia (fw_cI G) 96 (fun _ => 0)) := by rw [hFW41]; exact fw_up_tag k40_11 k40_17 (by intro z; cases z)
  have k41_12 : W41 a18 = some ((101, 18, 0), fw_ia (fw_cI G) 96 (fun _ => 0)) := by rw [hFW41]; exact fw_up_tag k40_12 k40_17 (by intro z; cases z)
  have k41_13 : W41 a19 = some ((101, 19, 0), fw_ia (fw_cI G) 96 (fun _ => 0)) := by rw [hFW41]; exact fw_up_tag k40_13 k40_17 (by intro z; cases z)
  have k41_14 : W41 a20 = some ((101, 20, 0), fw_ia (fw_cI G) 96 (fun _ => 0)) := by rw [hFW41]; exact fw_up_tag k40_14 k40_17 (by intro z; cases z)
  have k41_15 : W41 a24 = some ((101, 24, 0), fw_ia (fw_cI G) 3 (fun _ => 0)) := by rw [hFW41]; exact fw_up_tag k40_15 k40_17 (by intro z; cases z)
  have k41_16 : W41 y = some ((100, 0, 0), fw_obj 10 [.int (nI 0), .int (nI 0), .ref a2, .ref a3, .ref a4, .int (nI 0), .ref a6, .int (nI 0), .ref a8, .ref a9, .ref a10, .int (nI 0), .ref a12, .ref a13, .ref a14, .ref a15, .int (nI 0), .ref a17, .ref a18, .ref a19, .ref a20, .int (nI 0), .ref a22, .ref a23, .ref a24]) := by rw [hFW41]; exact fw_up_tag k40_16 k40_17 (by intro z; cases z)
  have k41_17 : W41 a23 = some ((101, 23, 0), fw_ia (fw_cI G) 3 (upd (upd (fun _ => 0) 0 (-1)) 1 (-1))) := by rw [hFW41]; exact fw_up_tag k40_s k40_17 (by intro z; cases z)
  have k41_s : W41 a22 = some ((101, 22, 0), fw_ia (fw_cI G) 3 (upd (upd (upd (fun _ => 0) 0 (-1)) 1 (-1)) 2 (-1))) := by rw [hFW41]; exact fw_up_self
  have hkp41 : fw_kp F W41 (fun w => w.1 = 100 ∨ w.1 = 101) := by rw [hFW41]; exact hkp40.up k40_17 (Or.inr rfl)
  refine lv_aload_n hx hb dX9_init_159 rfl (lv_at hl 1 rfl) ?_
  refine fw_get (v := .ref a23) hx hb hT fi_RX9 hown hz hw k41_16 rfl 23 (by decide) (hT _ wd_758) (fun _ h9 => h9) rfl dX9_init_160 ?_
  refine lv_iload_n hx hb dX9_init_163 rfl (lv_at hl 0 rfl) ?_
  refine lv_iconst (v := (-1)) hx hb dX9_init_164 (by decide) ?_
  refine fw_iast hx hb hz hw k41_17 (i := nI (0 + 1 + 1)) (vp_in_nI (by decide) (by decide)) dX9_init_165 (fun H locs hw => ?_)
  rw [show (nI (0 + 1 + 1)).toNatClampNeg = 2 from nI_clamp (by decide)] at hw
  obtain ⟨W42, hFW42⟩ : ∃ z, z = va_up W41 a23 (some ((101, 23, 0), fw_ia (fw_cI G) 3 (upd (upd (upd (fun _ => 0) 0 (-1)) 1 (-1)) 2 (-1)))) := ⟨_, rfl⟩
  rw [← hFW42] at hw
  have k42_0 : W42 a2 = some ((101, 2, 0), fw_ia (fw_cI G) 10 (fun _ => 0)) := by rw [hFW42]; exact fw_up_tag k41_0 k41_17 (by intro z; cases z)
  have k42_1 : W42 a3 = some ((101, 3, 0), fw_ia (fw_cI G) 10 (fun _ => 0)) := by rw [hFW42]; exact fw_up_tag k41_1 k41_17 (by intro z; cases z)
  have k42_2 : W42 a4 = some ((101, 4, 0), fw_ia (fw_cI G) 10 (fun _ => 0)) := by rw [hFW42]; exact fw_up_tag k41_2 k41_17 (by intro z; cases z)
  have k42_3 : W42 a6 = some ((101, 6, 0), fw_ia (fw_cI G) 12 (fun _ => 0)) := by rw [hFW42]; exact fw_up_tag k41_3 k41_17 (by intro z; cases z)
  have k42_4 : W42 a8 = some ((101, 8, 0), fw_ia (fw_cI G) 8 (fun _ => 0)) := by rw [hFW42]; exact fw_up_tag k41_4 k41_17 (by intro z; cases z)
  have k42_5 : W42 a9 = some ((101, 9, 0), fw_ia (fw_cI G) 96 (fun _ => 0)) := by rw [hFW42]; exact fw_up_tag k41_5 k41_17 (by intro z; cases z)
  have k42_6 : W42 a10 = some ((101, 10, 0), fw_ia (fw_cI G) 8 (fun _ => 0)) := by rw [hFW42]; exact fw_up_tag k41_6 k41_17 (by intro z; cases z)
  have k42_7 : W42 a12 = some ((101, 12, 0), fw_ia (fw_cI G) 12 (fun _ => 0)) := by rw [hFW42]; exact fw_up_tag k41_7 k41_17 (by intro z; cases z)
  have k42_8 : W42 a13 = some ((101, 13, 0), fw_ia (fw_cI G) 12 (fun _ => 0)) := by rw [hFW42]; exact fw_up_tag k41_8 k41_17 (by intro z; cases z)
  have k42_9 : W42 a14 = some ((101, 14, 0), fw_ia (fw_cZ G) 12 (fun _ => 0)) := by rw [hFW42]; exact fw_up_tag k41_9 k41_17 (by intro z; cases z)
  have k42_10 : W42 a15 = some ((101, 15, 0), fw_ia (fw_cI G) 48 (fun _ => 0)) := by rw [hFW42]; exact fw_up_tag k41_10 k41_17 (by intro z; cases z)
  have k42_11 : W42 a17 = some ((101, 17, 0), fw_ia (fw_cI G) 96 (fun _ => 0)) := by rw [hFW42]; exact fw_up_tag k41_11 k41_17 (by intro z; cases z)
  have k42_12 : W42 a18 = some ((101, 18, 0), fw_ia (fw_cI G) 96 (fun _ => 0)) := by rw [hFW42]; exact fw_up_tag k41_12 k41_17 (by intro z; cases z)
  have k42_13 : W42 a19 = some ((101, 19, 0), fw_ia (fw_cI G) 96 (fun _ => 0)) := by rw [hFW42]; exact fw_up_tag k41_13 k41_17 (by intro z; cases z)
  have k42_14 : W42 a20 = some ((101, 20, 0), fw_ia (fw_cI G) 96 (fun _ => 0)) := by rw [hFW42]; exact fw_up_tag k41_14 k41_17 (by intro z; cases z)
  have k42_15 : W42 a24 = some ((101, 24, 0), fw_ia (fw_cI G) 3 (fun _ => 0)) := by rw [hFW42]; exact fw_up_tag k41_15 k41_17 (by intro z; cases z)
  have k42_16 : W42 y = some ((100, 0, 0), fw_obj 10 [.int (nI 0), .int (nI 0), .ref a2, .ref a3, .ref a4, .int (nI 0), .ref a6, .int (nI 0), .ref a8, .ref a9, .ref a10, .int (nI 0), .ref a12, .ref a13, .ref a14, .ref a15, .int (nI 0), .ref a17, .ref a18, .ref a19, .ref a20, .int (nI 0), .ref a22, .ref a23, .ref a24]) := by rw [hFW42]; exact fw_up_tag k41_16 k41_17 (by intro z; cases z)
  have k42_17 : W42 a22 = some ((101, 22, 0), fw_ia (fw_cI G) 3 (upd (upd (upd (fun _ => 0) 0 (-1)) 1 (-1)) 2 (-1))) := by rw [hFW42]; exact fw_up_tag k41_s k41_17 (by intro z; cases z)
  have k42_s : W42 a23 = some ((101, 23, 0), fw_ia (fw_cI G) 3 (upd (upd (upd (fun _ => 0) 0 (-1)) 1 (-1)) 2 (-1))) := by rw [hFW42]; exact fw_up_self
  have hkp42 : fw_kp F W42 (fun w => w.1 = 100 ∨ w.1 = 101) := by rw [hFW42]; exact hkp41.up k41_17 (Or.inr rfl)
  refine lv_iinc (v := (nI (0 + 1 + 1 + 1))) (lv' := [(1, .int (nI (0 + 1 + 1 + 1))), (0, .ref y)]) hx hb dX9_init_166 hl (k := 0) rfl (nI_1 _) (by decide) rfl (fun ls hl => ?_)
  refine lv_goto (tgt := 147) hx hb dX9_init_169 (by decide) ?_
  refine lv_iload_n hx hb dX9_init_147 rfl (lv_at hl 0 rfl) ?_
  refine lv_iconst (v := (nI 3)) hx hb dX9_init_148 (by decide) ?_
  refine lv_icmp_ge (tgt := 172) hx hb dX9_init_149 (by decide) (fun cx => ?_) (fun cx => absurd cx (by decide))
  exact fw_vret hx hb hr hlk (Nat.le_of_ble_eq_true rfl) (Nat.le_of_ble_eq_true rfl) hw dX9_init_172 (⟨(va_up (va_up (va_up (va_up (va_up (va_up (va_up (va_up (va_up (va_up (va_up (va_up (va_up (va_up (va_up (va_up (va_up (va_up (fun _ => 0) 2 a2) 3 a3) 4 a4) 6 a6) 8 a8) 9 a9) 10 a10) 12 a12) 13 a13) 14 a14) 15 a15) 17 a17) 18 a18) 19 a19) 20 a20) 22 a22) 23 a23) 24 a24), ⟨k42_16, fun k hk => by
      unfold mm_len at hk
      split at hk
      · exact k42_0
      · exact k42_1
      · exact k42_2
      · exact k42_3
      · exact k42_4
      · exact k42_5
      · exact k42_6
      · exact k42_7
      · exact k42_8
      · exact k42_9
      · exact k42_10
      · exact k42_11
      · exact k42_12
      · exact k42_13
      · exact k42_14
      · exact k42_17
      · exact k42_s
      · exact k42_15
      · exact absurd rfl hk⟩, hkp42⟩)
