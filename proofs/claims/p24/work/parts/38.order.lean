/-! The class: an order is made (straight, for each count of stages). -/
set_option maxHeartbeats 4000000 in
set_option maxRecDepth 100000 in
theorem c_X5_init_1 (l : Launch) (G : fw_G) (F : fw_F) (sz : Nat) (b tb sl fr arr tt i : Nat) (cv : Int32) (sa : Nat → Nat) (v1 v2 v3 : Nat → Int32) (hF : F b = some ((5, i, 0), fw_obj 6 [.null, .null, .int (nI 0), .int (nI 0), .int (nI 0)])) (hB : F tb = some ((3, tt, 0), fw_obj 8 [.ref sl, .ref fr, .int cv])) (hL : F sl = some ((13, tt, 0), fw_ls arr 1 sa)) (hS : ∀ k, k < 1 → F (sa k) = some ((23, tt, k), fw_obj 7 [.int (v1 k), .int (v2 k), .int (v3 k)])) : Met l yX5_init (fw_ws yX5_init cX5_init 3 none) { frames := 7, cells := 3, slots := 245, locals := 171 } (va_Pc [.ref b, .ref tb] (fw_Pre G F sz)) (va_Qv (fun F1 => ∃ q arr1 ms, F1 b = some ((5, i, 0), fw_obj 6 [.ref tb, .ref q, .int (nI 2), .int (-1), .int (nI 0)]) ∧ F1 q = some ((6, i, 0), fw_ls arr1 1 ms) ∧ (∀ k, k < 1 → F1 (ms k) = some ((7, i, k), fw_obj 5 [.ref (sa k), .int (nI 0)])) ∧ fw_kp F F1 (fun w => w.2.1 = i ∧ (w.1 = 5 ∨ w.1 = 6 ∨ w.1 = 7))) (fw_B G (fw_W G F sz)) (fw_W G F sz)) 3 245 (fw_W G F sz) := by
  refine fw_met (lv := [(0, .ref b), (1, .ref tb)]) (by decide +kernel) (Nat.le_of_ble_eq_true rfl) rfl ?_
  intro A hA p e s m below meth c ls hx hb hml hown hT hr hlk hin hz hsz hw hAn hl
  rw [← hA]
  have hown : s.vm.findClass RX5 = some m.cls := hown
  have C : CallFix p m c cX5_init 3 s _ fw_tb RX5 := ⟨hx, hb, hml, hown, hT⟩
  have hs0 := hS 0 (by decide)
  refine lv_aload_n hx hb dX5_init_0 rfl (lv_at hl 0 rfl) ?_
  refine W.objInit hx hb hown (hT _ wd_438) (hT _ wd_31) (hT _ wd_32) rfl (hl.1.trans hml.symm) rfl dX5_init_1 (Nat.le_of_ble_eq_true rfl) (Nat.le_of_ble_eq_true rfl) ?_
  refine W.eq (g2 := F0 m 4 ls []) rfl ?_
  refine lv_aload_n hx hb dX5_init_4 rfl (lv_at hl 0 rfl) ?_
  have hPq := hw.1
  refine fw_new (6, i, 0) (ci := 0) (fs := [.int (nI 0), .null, .int (nI 0)]) hx hb hT fi_RJx4a65c tyJx4a65c tyJx4a65c_ok hown (hT _ wd_439) (hT _ wd_34) (hT _ wd_4) hz hw hAn rfl (by intro j hj; rcases (show j = 0 ∨ j = 1 ∨ j = 2 by omega) with rfl | rfl | rfl <;> rfl) (Nat.le_of_ble_eq_true rfl) (Nat.le_of_ble_eq_true rfl) dX5_init_5 (fun q1 H hqq1 hw => ?_)
  refine W.widen (k := 1) (n := 3) (Nat.le_of_ble_eq_true rfl) (Nat.le_of_ble_eq_true rfl) ?_
  obtain ⟨W1, hFW1⟩ : ∃ z, z = va_up F q1 (some ((6, i, 0), fw_obj 0 [.int (nI 0), .null, .int (nI 0)])) := ⟨_, rfl⟩
  rw [← hFW1] at hw
  have k1_0 : W1 b = some ((5, i, 0), fw_obj 6 [.null, .null, .int (nI 0), .int (nI 0), .int (nI 0)]) := by rw [hFW1]; exact fw_up_new hF hqq1
  have k1_1 : W1 tb = some ((3, tt, 0), fw_obj 8 [.ref sl, .ref fr, .int cv]) := by rw [hFW1]; exact fw_up_new hB hqq1
  have k1_2 : W1 sl = some ((13, tt, 0), fw_ls arr 1 sa) := by rw [hFW1]; exact fw_up_new hL hqq1
  have k1_3 : W1 (sa 0) = some ((23, tt, 0), fw_obj 7 [.int (v1 0), .int (v2 0), .int (v3 0)]) := by rw [hFW1]; exact fw_up_new hs0 hqq1
  have k1_s : W1 q1 = some ((6, i, 0), fw_obj 0 [.int (nI 0), .null, .int (nI 0)]) := by rw [hFW1]; exact fw_up_self
  have hkp1 : fw_kp F W1 (fun w => w.2.1 = i ∧ (w.1 = 5 ∨ w.1 = 6 ∨ w.1 = 7)) := by rw [hFW1]; exact (fw_kp.rf).new hqq1
  refine lv_dup hx hb dX5_init_8 rfl ?_
  refine fw_callv (fw_runI (As := []) (rest := [.ref q1, .ref b]) C hz hw (c_Jx4a65c_init_da8c8 l G _ _ q1 (6, i, 0) (show 6 < 900 by decide) k1_s (by rw [hFW1]; exact fw_nb hPq hqq1 (fun t arr n f h => by cases h))) (fw_cwI hT wd_440 yIJx4a65c_init_da8c8 rfl rfl ⟨Nat.le_of_ble_eq_true rfl, Nat.le_of_ble_eq_true rfl⟩) rfl hl.1 rfl (Nat.le_of_ble_eq_true rfl) dX5_init_9 ⟨Nat.le_of_ble_eq_true rfl, Nat.le_of_ble_eq_true rfl⟩) hw (fun F1 H locs hw hp => ?_)
  refine W.widen (k := 1) (n := 3) (Nat.le_of_ble_eq_true rfl) (Nat.le_of_ble_eq_true rfl) ?_
  rw [hp] at hw
  obtain ⟨W2, hFW2⟩ : ∃ z, z = va_up W1 q1 (some ((6, i, 0), fw_ls (fw_ea G) 0 (fun _ => 0))) := ⟨_, rfl⟩
  rw [← hFW2] at hw
  have k2_0 : W2 b = some ((5, i, 0), fw_obj 6 [.null, .null, .int (nI 0), .int (nI 0), .int (nI 0)]) := by rw [hFW2]; exact fw_up_tag k1_0 k1_s (by intro z; cases z)
  have k2_1 : W2 tb = some ((3, tt, 0), fw_obj 8 [.ref sl, .ref fr, .int cv]) := by rw [hFW2]; exact fw_up_tag k1_1 k1_s (by intro z; cases z)
  have k2_2 : W2 sl = some ((13, tt, 0), fw_ls arr 1 sa) := by rw [hFW2]; exact fw_up_tag k1_2 k1_s (by intro z; cases z)
  have k2_3 : W2 (sa 0) = some ((23, tt, 0), fw_obj 7 [.int (v1 0), .int (v2 0), .int (v3 0)]) := by rw [hFW2]; exact fw_up_tag k1_3 k1_s (by intro z; cases z)
  have k2_s : W2 q1 = some ((6, i, 0), fw_ls (fw_ea G) 0 (fun _ => 0)) := by rw [hFW2]; exact fw_up_self
  have hkp2 : fw_kp F W2 (fun w => w.2.1 = i ∧ (w.1 = 5 ∨ w.1 = 6 ∨ w.1 = 7)) := by rw [hFW2]; exact (hkp1).up k1_s (by simp)
  refine fw_putF (v := .ref q1) (fs' := [.null, .ref q1, .int (nI 0), .int (nI 0), .int (nI 0)]) hx hb hT fi_RX5 tyX5 tyX5_ok nmX5 hown hz hw k2_0 rfl 1 (by decide) (hT _ wd_463) (fun _ h9 => h9) rfl (hin rfl) rfl (ty := tyX5 1) (by decide +kernel) rfl rfl (Nat.le_of_ble_eq_true rfl) rfl dX5_init_12 (fun H locs hw => ?_)
  obtain ⟨W3, hFW3⟩ : ∃ z, z = va_up W2 b (some ((5, i, 0), fw_obj 6 [.null, .ref q1, .int (nI 0), .int (nI 0), .int (nI 0)])) := ⟨_, rfl⟩
  rw [← hFW3] at hw
  have k3_0 : W3 tb = some ((3, tt, 0), fw_obj 8 [.ref sl, .ref fr, .int cv]) := by rw [hFW3]; exact fw_up_tag k2_1 k2_0 (by intro z; cases z)
  have k3_1 : W3 sl = some ((13, tt, 0), fw_ls arr 1 sa) := by rw [hFW3]; exact fw_up_tag k2_2 k2_0 (by intro z; cases z)
  have k3_2 : W3 (sa 0) = some ((23, tt, 0), fw_obj 7 [.int (v1 0), .int (v2 0), .int (v3 0)]) := by rw [hFW3]; exact fw_up_tag k2_3 k2_0 (by intro z; cases z)
  have k3_3 : W3 q1 = some ((6, i, 0), fw_ls (fw_ea G) 0 (fun _ => 0)) := by rw [hFW3]; exact fw_up_tag k2_s k2_0 (by intro z; cases z)
  have k3_s : W3 b = some ((5, i, 0), fw_obj 6 [.null, .ref q1, .int (nI 0), .int (nI 0), .int (nI 0)]) := by rw [hFW3]; exact fw_up_self
  have hkp3 : fw_kp F W3 (fun w => w.2.1 = i ∧ (w.1 = 5 ∨ w.1 = 6 ∨ w.1 = 7)) := by rw [hFW3]; exact (hkp2).up k2_0 (by simp)
  refine lv_aload_n hx hb dX5_init_15 rfl (lv_at hl 0 rfl) ?_
  refine lv_iconst (v := (-1)) hx hb dX5_init_16 (by decide) ?_
  refine fw_put (v := .int (-1)) (fs' := [.null, .ref q1, .int (nI 0), .int (-1), .int (nI 0)]) hx hb hT fi_RX5 tyX5 tyX5_ok nmX5 hown hz hw k3_s rfl 3 (by decide) (hT _ wd_467) (fun _ h9 => h9) rfl (ty := tyX5 3) (by decide +kernel) rfl rfl (Nat.le_of_ble_eq_true rfl) rfl dX5_init_17 (fun H locs hw => ?_)
  obtain ⟨W4, hFW4⟩ : ∃ z, z = va_up W3 b (some ((5, i, 0), fw_obj 6 [.null, .ref q1, .int (nI 0), .int (-1), .int (nI 0)])) := ⟨_, rfl⟩
  rw [← hFW4] at hw
  have k4_0 : W4 tb = some ((3, tt, 0), fw_obj 8 [.ref sl, .ref fr, .int cv]) := by rw [hFW4]; exact fw_up_tag k3_0 k3_s (by intro z; cases z)
  have k4_1 : W4 sl = some ((13, tt, 0), fw_ls arr 1 sa) := by rw [hFW4]; exact fw_up_tag k3_1 k3_s (by intro z; cases z)
  have k4_2 : W4 (sa 0) = some ((23, tt, 0), fw_obj 7 [.int (v1 0), .int (v2 0), .int (v3 0)]) := by rw [hFW4]; exact fw_up_tag k3_2 k3_s (by intro z; cases z)
  have k4_3 : W4 q1 = some ((6, i, 0), fw_ls (fw_ea G) 0 (fun _ => 0)) := by rw [hFW4]; exact fw_up_tag k3_3 k3_s (by intro z; cases z)
  have k4_s : W4 b = some ((5, i, 0), fw_obj 6 [.null, .ref q1, .int (nI 0), .int (-1), .int (nI 0)]) := by rw [hFW4]; exact fw_up_self
  have hkp4 : fw_kp F W4 (fun w => w.2.1 = i ∧ (w.1 = 5 ∨ w.1 = 6 ∨ w.1 = 7)) := by rw [hFW4]; exact (hkp3).up k3_s (by simp)
  refine lv_aload_n hx hb dX5_init_20 rfl (lv_at hl 0 rfl) ?_
  refine lv_iconst (v := (nI 0)) hx hb dX5_init_21 (by decide) ?_
  refine fw_put (v := .int (nI 0)) (fs' := [.null, .ref q1, .int (nI 0), .int (-1), .int (nI 0)]) hx hb hT fi_RX5 tyX5 tyX5_ok nmX5 hown hz hw k4_s rfl 4 (by decide) (hT _ wd_469) (fun _ h9 => h9) rfl (ty := tyX5 4) (by decide +kernel) rfl rfl (Nat.le_of_ble_eq_true rfl) rfl dX5_init_22 (fun H locs hw => ?_)
  obtain ⟨W5, hFW5⟩ : ∃ z, z = va_up W4 b (some ((5, i, 0), fw_obj 6 [.null, .ref q1, .int (nI 0), .int (-1), .int (nI 0)])) := ⟨_, rfl⟩
  rw [← hFW5] at hw
  have k5_0 : W5 tb = some ((3, tt, 0), fw_obj 8 [.ref sl, .ref fr, .int cv]) := by rw [hFW5]; exact fw_up_tag k4_0 k4_s (by intro z; cases z)
  have k5_1 : W5 sl = some ((13, tt, 0), fw_ls arr 1 sa) := by rw [hFW5]; exact fw_up_tag k4_1 k4_s (by intro z; cases z)
  have k5_2 : W5 (sa 0) = some ((23, tt, 0), fw_obj 7 [.int (v1 0), .int (v2 0), .int (v3 0)]) := by rw [hFW5]; exact fw_up_tag k4_2 k4_s (by intro z; cases z)
  have k5_3 : W5 q1 = some ((6, i, 0), fw_ls (fw_ea G) 0 (fun _ => 0)) := by rw [hFW5]; exact fw_up_tag k4_3 k4_s (by intro z; cases z)
  have k5_s : W5 b = some ((5, i, 0), fw_obj 6 [.null, .ref q1, .int (nI 0), .int (-1), .int (nI 0)]) := by rw [hFW5]; exact fw_up_self
  have hkp5 : fw_kp F W5 (fun w => w.2.1 = i ∧ (w.1 = 5 ∨ w.1 = 6 ∨ w.1 = 7)) := by rw [hFW5]; exact (hkp4).up k4_s (by simp)
  refine lv_aload_n hx hb dX5_init_25 rfl (lv_at hl 0 rfl) ?_
  refine lv_aload_n hx hb dX5_init_26 rfl (lv_at hl 1 rfl) ?_
  refine fw_putF (v := .ref tb) (fs' := [.ref tb, .ref q1, .int (nI 0), .int (-1), .int (nI 0)]) hx hb hT fi_RX5 tyX5 tyX5_ok nmX5 hown hz hw k5_s rfl 0 (by decide) (hT _ wd_461) (fun _ h9 => h9) rfl (hin rfl) rfl (ty := tyX5 0) (by decide +kernel) rfl rfl (Nat.le_of_ble_eq_true rfl) rfl dX5_init_27 (fun H locs hw => ?_)
  obtain ⟨W6, hFW6⟩ : ∃ z, z = va_up W5 b (some ((5, i, 0), fw_obj 6 [.ref tb, .ref q1, .int (nI 0), .int (-1), .int (nI 0)])) := ⟨_, rfl⟩
  rw [← hFW6] at hw
  have k6_0 : W6 tb = some ((3, tt, 0), fw_obj 8 [.ref sl, .ref fr, .int cv]) := by rw [hFW6]; exact fw_up_tag k5_0 k5_s (by intro z; cases z)
  have k6_1 : W6 sl = some ((13, tt, 0), fw_ls arr 1 sa) := by rw [hFW6]; exact fw_up_tag k5_1 k5_s (by intro z; cases z)
  have k6_2 : W6 (sa 0) = some ((23, tt, 0), fw_obj 7 [.int (v1 0), .int (v2 0), .int (v3 0)]) := by rw [hFW6]; exact fw_up_tag k5_2 k5_s (by intro z; cases z)
  have k6_3 : W6 q1 = some ((6, i, 0), fw_ls (fw_ea G) 0 (fun _ => 0)) := by rw [hFW6]; exact fw_up_tag k5_3 k5_s (by intro z; cases z)
  have k6_s : W6 b = some ((5, i, 0), fw_obj 6 [.ref tb, .ref q1, .int (nI 0), .int (-1), .int (nI 0)]) := by rw [hFW6]; exact fw_up_self
  have hkp6 : fw_kp F W6 (fun w => w.2.1 = i ∧ (w.1 = 5 ∨ w.1 = 6 ∨ w.1 = 7)) := by rw [hFW6]; exact (hkp5).up k5_s (by simp)
  refine lv_iconst (v := (nI 0)) hx hb dX5_init_30 (by decide) ?_
  refine lv_istore_n (lv' := [(2, .int (nI 0)), (0, .ref b), (1, .ref tb)]) hx hb dX5_init_31 rfl hl (by decide) rfl (fun ls hl => ?_)
  refine lv_iload_n hx hb dX5_init_32 rfl (lv_at hl 0 rfl) ?_
  refine lv_aload_n hx hb dX5_init_33 rfl (lv_at hl 2 rfl) ?_
  refine fw_get (v := .ref sl) hx hb hT fi_RX7 hown hz hw k6_0 rfl 0 (by decide) (hT _ wd_83) (fun _ h9 => h9) rfl dX5_init_34 ?_
  refine fw_calli (fw_runV (As := []) (rest := [.int (nI 0)]) C hz hw (c_Jx4a65c_size_8abf5 l G _ _ sl arr 1 (13, tt, 0) sa k6_1) (fw_cwV hT wd_441 yVJx4a65c_size_8abf5 rfl rfl ⟨Nat.le_of_ble_eq_true rfl, Nat.le_of_ble_eq_true rfl⟩) (fw_recL hz hw k6_1) rfl hl.1 rfl (Nat.le_of_ble_eq_true rfl) dX5_init_37 ⟨Nat.le_of_ble_eq_true rfl, Nat.le_of_ble_eq_true rfl⟩) hw (fun r F1 H locs hw hp => ?_)
  obtain ⟨hp0, hp⟩ := hp
  rw [hp0] at hw
  refine W.widen (k := 1) (n := 3) (Nat.le_of_ble_eq_true rfl) (Nat.le_of_ble_eq_true rfl) ?_
  subst hp
  refine lv_icmp_ge (tgt := 75) hx hb dX5_init_40 (by decide) (fun cx => absurd cx (by decide)) (fun cx => ?_)
  refine lv_aload_n hx hb dX5_init_43 rfl (lv_at hl 1 rfl) ?_
  refine fw_get (v := .ref q1) hx hb hT fi_RX5 hown hz hw k6_s rfl 1 (by decide) (hT _ wd_463) (fun _ h9 => h9) rfl dX5_init_44 ?_
  refine fw_new (7, i, 0) (ci := 5) (fs := [.null, .int (nI 0)]) hx hb hT fi_RX4 tyX4 tyX4_ok hown (hT _ wd_442) (hT _ wd_443) (hT _ wd_23) hz hw hAn rfl (by intro j hj; rcases (show j = 0 ∨ j = 1 by omega) with rfl | rfl <;> rfl) (Nat.le_of_ble_eq_true rfl) (Nat.le_of_ble_eq_true rfl) dX5_init_47 (fun p0 H hqp0 hw => ?_)
  refine W.widen (k := 2) (n := 5) (Nat.le_of_ble_eq_true rfl) (Nat.le_of_ble_eq_true rfl) ?_
  obtain ⟨W7, hFW7⟩ : ∃ z, z = va_up W6 p0 (some ((7, i, 0), fw_obj 5 [.null, .int (nI 0)])) := ⟨_, rfl⟩
  rw [← hFW7] at hw
  have k7_0 : W7 tb = some ((3, tt, 0), fw_obj 8 [.ref sl, .ref fr, .int cv]) := by rw [hFW7]; exact fw_up_new k6_0 hqp0
  have k7_1 : W7 sl = some ((13, tt, 0), fw_ls arr 1 sa) := by rw [hFW7]; exact fw_up_new k6_1 hqp0
  have k7_2 : W7 (sa 0) = some ((23, tt, 0), fw_obj 7 [.int (v1 0), .int (v2 0), .int (v3 0)]) := by rw [hFW7]; exact fw_up_new k6_2 hqp0
  have k7_3 : W7 q1 = some ((6, i, 0), fw_ls (fw_ea G) 0 (fun _ => 0)) := by rw [hFW7]; exact fw_up_new k6_3 hqp0
  have k7_4 : W7 b = some ((5, i, 0), fw_obj 6 [.ref tb, .ref q1, .int (nI 0), .int (-1), .int (nI 0)]) := by rw [hFW7]; exact fw_up_new k6_s hqp0
  have k7_s : W7 p0 = some ((7, i, 0), fw_obj 5 [.null, .int (nI 0)]) := by rw [hFW7]; exact fw_up_self
  have hkp7 : fw_kp F W7 (fun w => w.2.1 = i ∧ (w.1 = 5 ∨ w.1 = 6 ∨ w.1 = 7)) := by rw [hFW7]; exact (hkp6).new hqp0
  refine lv_dup hx hb dX5_init_50 rfl ?_
  refine lv_aload_n hx hb dX5_init_51 rfl (lv_at hl 2 rfl) ?_
  refine fw_get (v := .ref sl) hx hb hT fi_RX7 hown hz hw k7_0 rfl 0 (by decide) (hT _ wd_83) (fun _ h9 => h9) rfl dX5_init_52 ?_
  refine lv_iload_n hx hb dX5_init_55 rfl (lv_at hl 0 rfl) ?_
  refine fw_callo (fw_runV (As := [.int (nI 0)]) (rest := [.ref p0, .ref p0, .ref q1]) C hz hw (c_Jx4a65c_get_915e3 l G _ _ sl arr 1 (13, tt, 0) sa 0 k7_1 (by decide) (by decide)) (fw_cwV hT wd_444 yVJx4a65c_get_915e3 rfl rfl ⟨Nat.le_of_ble_eq_true rfl, Nat.le_of_ble_eq_true rfl⟩) (fw_recL hz hw k7_1) rfl hl.1 rfl (Nat.le_of_ble_eq_true rfl) dX5_init_56 ⟨Nat.le_of_ble_eq_true rfl, Nat.le_of_ble_eq_true rfl⟩) hw (fun r F1 H locs hw hp => ?_)
  obtain ⟨hp0, hp⟩ := hp
  rw [hp0] at hw
  refine W.widen (k := 2) (n := 5) (Nat.le_of_ble_eq_true rfl) (Nat.le_of_ble_eq_true rfl) ?_
  subst hp
  refine fw_cast hx hb hown hz hw k7_2 (q := vwCl[7]) rfl (hT _ wd_445) dX5_init_59 ?_
  refine fw_callv (fw_runI (As := [.ref (sa 0)]) (rest := [.ref p0, .ref q1]) C hz hw (c_X4_init l G _ _ p0 (7, i, 0) (sa 0) k7_s) (fw_cwI hT wd_446 yIX4_init rfl rfl ⟨Nat.le_of_ble_eq_true rfl, Nat.le_of_ble_eq_true rfl⟩) rfl hl.1 rfl (Nat.le_of_ble_eq_true rfl) dX5_init_62 ⟨Nat.le_of_ble_eq_true rfl, Nat.le_of_ble_eq_true rfl⟩) hw (fun F1 H locs hw hp => ?_)
  refine W.widen (k := 2) (n := 5) (Nat.le_of_ble_eq_true rfl) (Nat.le_of_ble_eq_true rfl) ?_
  rw [hp] at hw
  obtain ⟨W8, hFW8⟩ : ∃ z, z = va_up W7 p0 (some ((7, i, 0), fw_obj 5 [.ref (sa 0), .int (nI 0)])) := ⟨_, rfl⟩
  rw [← hFW8] at hw
  have k8_0 : W8 tb = some ((3, tt, 0), fw_obj 8 [.ref sl, .ref fr, .int cv]) := by rw [hFW8]; exact fw_up_tag k7_0 k7_s (by intro z; cases z)
  have k8_1 : W8 sl = some ((13, tt, 0), fw_ls arr 1 sa) := by rw [hFW8]; exact fw_up_tag k7_1 k7_s (by intro z; cases z)
  have k8_2 : W8 (sa 0) = some ((23, tt, 0), fw_obj 7 [.int (v1 0), .int (v2 0), .int (v3 0)]) := by rw [hFW8]; exact fw_up_tag k7_2 k7_s (by intro z; cases z)
  have k8_3 : W8 q1 = some ((6, i, 0), fw_ls (fw_ea G) 0 (fun _ => 0)) := by rw [hFW8]; exact fw_up_tag k7_3 k7_s (by intro z; cases z)
  have k8_4 : W8 b = some ((5, i, 0), fw_obj 6 [.ref tb, .ref q1, .int (nI 0), .int (-1), .int (nI 0)]) := by rw [hFW8]; exact fw_up_tag k7_4 k7_s (by intro z; cases z)
  have k8_s : W8 p0 = some ((7, i, 0), fw_obj 5 [.ref (sa 0), .int (nI 0)]) := by rw [hFW8]; exact fw_up_self
  have hkp8 : fw_kp F W8 (fun w => w.2.1 = i ∧ (w.1 = 5 ∨ w.1 = 6 ∨ w.1 = 7)) := by rw [hFW8]; exact (hkp7).up k7_s (by simp)
  refine fw_calli (fw_runV (As := [.ref p0]) (rest := []) C hz hw (c_Jx4a65c_add_9ea2d l G _ _ q1 (fw_ea G) 0 (6, i, 0) (fun _ => 0) p0 5 (7, i, 0) _ (show 6 < 900 by decide) k8_3 (by decide) k8_s) (fw_cwV hT wd_460 yVJx4a65c_add_9ea2d rfl rfl ⟨Nat.le_of_ble_eq_true rfl, Nat.le_of_ble_eq_true rfl⟩) (fw_recL hz hw k8_3) rfl hl.1 rfl (Nat.le_of_ble_eq_true rfl) dX5_init_65 ⟨Nat.le_of_ble_eq_true rfl, Nat.le_of_ble_eq_true rfl⟩) hw (fun r F1 H locs hw hp => ?_)
  refine W.widen (k := 3) (n := 245) (Nat.le_of_ble_eq_true rfl) (Nat.le_of_ble_eq_true rfl) ?_
  obtain ⟨rfl, r0, hp⟩ := hp
  rw [hp] at hw
  obtain ⟨W9, hFW9⟩ : ∃ z, z = va_up W8 q1 (some ((6, i, 0), fw_ls r0 1 (va_up (fun _ => 0) 0 p0))) := ⟨_, rfl⟩
  rw [← hFW9] at hw
  have k9_0 : W9 tb = some ((3, tt, 0), fw_obj 8 [.ref sl, .ref fr, .int cv]) := by rw [hFW9]; exact fw_up_tag k8_0 k8_3 (by intro z; cases z)
  have k9_1 : W9 sl = some ((13, tt, 0), fw_ls arr 1 sa) := by rw [hFW9]; exact fw_up_tag k8_1 k8_3 (by intro z; cases z)
  have k9_2 : W9 (sa 0) = some ((23, tt, 0), fw_obj 7 [.int (v1 0), .int (v2 0), .int (v3 0)]) := by rw [hFW9]; exact fw_up_tag k8_2 k8_3 (by intro z; cases z)
  have k9_3 : W9 b = some ((5, i, 0), fw_obj 6 [.ref tb, .ref q1, .int (nI 0), .int (-1), .int (nI 0)]) := by rw [hFW9]; exact fw_up_tag k8_4 k8_3 (by intro z; cases z)
  have k9_4 : W9 p0 = some ((7, i, 0), fw_obj 5 [.ref (sa 0), .int (nI 0)]) := by rw [hFW9]; exact fw_up_tag k8_s k8_3 (by intro z; cases z)
  have k9_s : W9 q1 = some ((6, i, 0), fw_ls r0 1 (va_up (fun _ => 0) 0 p0)) := by rw [hFW9]; exact fw_up_self
  have hkp9 : fw_kp F W9 (fun w => w.2.1 = i ∧ (w.1 = 5 ∨ w.1 = 6 ∨ w.1 = 7)) := by rw [hFW9]; exact (hkp8).up k8_3 (by simp)
  refine lv_pop hx hb dX5_init_68 rfl ?_
  refine lv_iinc (v := (nI (0 + 1))) (lv' := [(2, .int (nI (0 + 1))), (0, .ref b), (1, .ref tb)]) hx hb dX5_init_69 hl (k := 0) rfl (nI_1 _) (by decide) rfl (fun ls hl => ?_)
  refine lv_goto (tgt := 32) hx hb dX5_init_72 (by decide) ?_
  refine lv_iload_n hx hb dX5_init_32 rfl (lv_at hl 0 rfl) ?_
  refine lv_aload_n hx hb dX5_init_33 rfl (lv_at hl 2 rfl) ?_
  refine fw_get (v := .ref sl) hx hb hT fi_RX7 hown hz hw k9_0 rfl 0 (by decide) (hT _ wd_83) (fun _ h9 => h9) rfl dX5_init_34 ?_
  refine fw_calli (fw_runV (As := []) (rest := [.int (nI (0 + 1))]) C hz hw (c_Jx4a65c_size_8abf5 l G _ _ sl arr 1 (13, tt, 0) sa k9_1) (fw_cwV hT wd_441 yVJx4a65c_size_8abf5 rfl rfl ⟨Nat.le_of_ble_eq_true rfl, Nat.le_of_ble_eq_true rfl⟩) (fw_recL hz hw k9_1) rfl hl.1 rfl (Nat.le_of_ble_eq_true rfl) dX5_init_37 ⟨Nat.le_of_ble_eq_true rfl, Nat.le_of_ble_eq_true rfl⟩) hw (fun r F1 H locs hw hp => ?_)
  obtain ⟨hp0, hp⟩ := hp
  rw [hp0] at hw
  refine W.widen (k := 3) (n := 245) (Nat.le_of_ble_eq_true rfl) (Nat.le_of_ble_eq_true rfl) ?_
  subst hp
  refine lv_icmp_ge (tgt := 75) hx hb dX5_init_40 (by decide) (fun cx => ?_) (fun cx => absurd cx (by decide))
  refine lv_aload_n hx hb dX5_init_75 rfl (lv_at hl 1 rfl) ?_
  refine lv_iconst (v := (nI 2)) hx hb dX5_init_76 (by decide) ?_
  refine lv_aload_n hx hb dX5_init_77 rfl (lv_at hl 2 rfl) ?_
  refine fw_get (v := .ref sl) hx hb hT fi_RX7 hown hz hw k9_0 rfl 0 (by decide) (hT _ wd_83) (fun _ h9 => h9) rfl dX5_init_78 ?_
  refine fw_calli (fw_runV (As := []) (rest := [.int (nI 2), .ref b]) C hz hw (c_Jx4a65c_size_8abf5 l G _ _ sl arr 1 (13, tt, 0) sa k9_1) (fw_cwV hT wd_441 yVJx4a65c_size_8abf5 rfl rfl ⟨Nat.le_of_ble_eq_true rfl, Nat.le_of_ble_eq_true rfl⟩) (fw_recL hz hw k9_1) rfl hl.1 rfl (Nat.le_of_ble_eq_true rfl) dX5_init_81 ⟨Nat.le_of_ble_eq_true rfl, Nat.le_of_ble_eq_true rfl⟩) hw (fun r F1 H locs hw hp => ?_)
  obtain ⟨hp0, hp⟩ := hp
  rw [hp0] at hw
  refine W.widen (k := 3) (n := 245) (Nat.le_of_ble_eq_true rfl) (Nat.le_of_ble_eq_true rfl) ?_
  subst hp
  refine lv_imul hx hb dX5_init_84 ?_
  refine fw_top (pk_mul _ _) ?_
  refine fw_top (x' := (nI 2)) (rfl) ?_
  refine fw_put (v := .int (nI 2)) (fs' := [.ref tb, .ref q1, .int (nI 2), .int (-1), .int (nI 0)]) hx hb hT fi_RX5 tyX5 tyX5_ok nmX5 hown hz hw k9_3 rfl 2 (by decide) (hT _ wd_465) (fun _ h9 => h9) rfl (ty := tyX5 2) (by decide +kernel) rfl rfl (Nat.le_of_ble_eq_true rfl) rfl dX5_init_85 (fun H locs hw => ?_)
  obtain ⟨W10, hFW10⟩ : ∃ z, z = va_up W9 b (some ((5, i, 0), fw_obj 6 [.ref tb, .ref q1, .int (nI 2), .int (-1), .int (nI 0)])) := ⟨_, rfl⟩
  rw [← hFW10] at hw
  have k10_0 : W10 tb = some ((3, tt, 0), fw_obj 8 [.ref sl, .ref fr, .int cv]) := by rw [hFW10]; exact fw_up_tag k9_0 k9_3 (by intro z; cases z)
  have k10_1 : W10 sl = some ((13, tt, 0), fw_ls arr 1 sa) := by rw [hFW10]; exact fw_up_tag k9_1 k9_3 (by intro z; cases z)
  have k10_2 : W10 (sa 0) = some ((23, tt, 0), fw_obj 7 [.int (v1 0), .int (v2 0), .int (v3 0)]) := by rw [hFW10]; exact fw_up_tag k9_2 k9_3 (by intro z; cases z)
  have k10_3 : W10 p0 = some ((7, i, 0), fw_obj 5 [.ref (sa 0), .int (nI 0)]) := by rw [hFW10]; exact fw_up_tag k9_4 k9_3 (by intro z; cases z)
  have k10_4 : W10 q1 = some ((6, i, 0), fw_ls r0 1 (va_up (fun _ => 0) 0 p0)) := by rw [hFW10]; exact fw_up_tag k9_s k9_3 (by intro z; cases z)
  have k10_s : W10 b = some ((5, i, 0), fw_obj 6 [.ref tb, .ref q1, .int (nI 2), .int (-1), .int (nI 0)]) := by rw [hFW10]; exact fw_up_self
  have hkp10 : fw_kp F W10 (fun w => w.2.1 = i ∧ (w.1 = 5 ∨ w.1 = 6 ∨ w.1 = 7)) := by rw [hFW10]; exact (hkp9).up k9_3 (by simp)
  exact fw_vret hx hb hr hlk (Nat.le_of_ble_eq_true rfl) (Nat.le_of_ble_eq_true rfl) hw dX5_init_88 (⟨q1, r0, (va_up (fun _ => 0) 0 p0), k10_s, k10_4, fun k hk => by
      rcases (show k = 0 by omega) with rfl
      · exact k10_3, hkp10⟩)
set_option maxHeartbeats 4000000 in
set_option maxRecDepth 100000 in
theorem c_X5_init_2 (l : Launch) (G : fw_G) (F : fw_F) (sz : Nat) (b tb sl fr arr tt i : Nat) (cv : Int32) (sa : Nat → Nat) (v1 v2 v3 : Nat → Int32) (hF : F b = some ((5, i, 0), fw_obj 6 [.null, .null, .int (nI 0), .int (nI 0), .int (nI 0)])) (hB : F tb = some ((3, tt, 0), fw_obj 8 [.ref sl, .ref fr, .int cv])) (hL : F sl = some ((13, tt, 0), fw_ls arr 2 sa)) (hS : ∀ k, k < 2 → F (sa k) = some ((23, tt, k), fw_obj 7 [.int (v1 k), .int (v2 k), .int (v3 k)])) : Met l yX5_init (fw_ws yX5_init cX5_init 3 none) { frames := 7, cells := 5, slots := 487, locals := 171 } (va_Pc [.ref b, .ref tb] (fw_Pre G F sz)) (va_Qv (fun F1 => ∃ q arr1 ms, F1 b = some ((5, i, 0), fw_obj 6 [.ref tb, .ref q, .int (nI 4), .int (-1), .int (nI 0)]) ∧ F1 q = some ((6, i, 0), fw_ls arr1 2 ms) ∧ (∀ k, k < 2 → F1 (ms k) = some ((7, i, k), fw_obj 5 [.ref (sa k), .int (nI 0)])) ∧ fw_kp F F1 (fun w => w.2.1 = i ∧ (w.1 = 5 ∨ w.1 = 6 ∨ w.1 = 7))) (fw_B G (fw_W G F sz)) (fw_W G F sz)) 5 487 (fw_W G F sz) := by
  refine fw_met (lv := [(0, .ref b), (1, .ref tb)]) (by decide +kernel) (Nat.le_of_ble_eq_true rfl) rfl ?_
  intro A hA p e s m below meth c ls hx hb hml hown hT hr hlk hin hz hsz hw hAn hl
  rw [← hA]
  have hown : s.vm.findClass RX5 = some m.cls := hown
  have C : CallFix p m c cX5_init 3 s _ fw_tb RX5 := ⟨hx, hb, hml, hown, hT⟩
  have hs0 := hS 0 (by decide)
  have hs1 := hS 1 (by decide)
  refine lv_aload_n hx hb dX5_init_0 rfl (lv_at hl 0 rfl) ?_
  refine W.objInit hx hb hown (hT _ wd_438) (hT _ wd_31) (hT _ wd_32) rfl (hl.1.trans hml.symm) rfl dX5_init_1 (Nat.le_of_ble_eq_true rfl) (Nat.le_of_ble_eq_true rfl) ?_
  refine W.eq (g2 := F0 m 4 ls []) rfl ?_
  refine lv_aload_n hx hb dX5_init_4 rfl (lv_at hl 0 rfl) ?_
  have hPq := hw.1
  refine fw_new (6, i, 0) (ci := 0) (fs := [.int (nI 0), .null, .int (nI 0)]) hx hb hT fi_RJx4a65c tyJx4a65c tyJx4a65c_ok hown (hT _ wd_439) (hT _ wd_34) (hT _ wd_4) hz hw hAn rfl (by intro j hj; rcases (show j = 0 ∨ j = 1 ∨ j = 2 by omega) with rfl | rfl | rfl <;> rfl) (Nat.le_of_ble_eq_true rfl) (Nat.le_of_ble_eq_true rfl) dX5_init_5 (fun q1 H hqq1 hw => ?_)
  refine W.widen (k := 1) (n := 3) (Nat.le_of_ble_eq_true rfl) (Nat.le_of_ble_eq_true rfl) ?_
  obtain ⟨W1, hFW1⟩ : ∃ z, z = va_up F q1 (some ((6, i, 0), fw_obj 0 [.int (nI 0), .null, .int (nI 0)])) := ⟨_, rfl⟩
  rw [← hFW1] at hw
  have k1_0 : W1 b = some ((5, i, 0), fw_obj 6 [.null, .null, .int (nI 0), .int (nI 0), .int (nI 0)]) := by rw [hFW1]; exact fw_up_new hF hqq1
  have k1_1 : W1 tb = some ((3, tt, 0), fw_obj 8 [.ref sl, .ref fr, .int cv]) := by rw [hFW1]; exact fw_up_new hB hqq1
  have k1_2 : W1 sl = some ((13, tt, 0), fw_ls arr 2 sa) := by rw [hFW1]; exact fw_up_new hL hqq1
  have k1_3 : W1 (sa 0) = some ((23, tt, 0), fw_obj 7 [.int (v1 0), .int (v2 0), .int (v3 0)]) := by rw [hFW1]; exact fw_up_new hs0 hqq1
  have k1_4 : W1 (sa 1) = some ((23, tt, 1), fw_obj 7 [.int (v1 1), .int (v2 1), .int (v3 1)]) := by rw [hFW1]; exact fw_up_new hs1 hqq1
  have k1_s : W1 q1 = some ((6, i, 0), fw_obj 0 [.int (nI 0), .null, .int (nI 0)]) := by rw [hFW1]; exact fw_up_self
  have hkp1 : fw_kp F W1 (fun w => w.2.1 = i ∧ (w.1 = 5 ∨ w.1 = 6 ∨ w.1 = 7)) := by rw [hFW1]; exact (fw_kp.rf).new hqq1
  refine lv_dup hx hb dX5_init_8 rfl ?_
  refine fw_callv (fw_runI (As := []) (rest := [.ref q1, .ref b]) C hz hw (c_Jx4a65c_init_da8c8 l G _ _ q1 (6, i, 0) (show 6 < 900 by decide) k1_s (by rw [hFW1]; exact fw_nb hPq hqq1 (fun t arr n f h => by cases h))) (fw_cwI hT wd_440 yIJx4a65c_init_da8c8 rfl rfl ⟨Nat.le_of_ble_eq_true rfl, Nat.le_of_ble_eq_true rfl⟩) rfl hl.1 rfl (Nat.le_of_ble_eq_true rfl) dX5_init_9 ⟨Nat.le_of_ble_eq_true rfl, Nat.le_of_ble_eq_true rfl⟩) hw (fun F1 H locs hw hp => ?_)
  refine W.widen (k := 1) (n := 3) (Nat.le_of_ble_eq_true rfl) (Nat.le_of_ble_eq_true rfl) ?_
  rw [hp] at hw
  obtain ⟨W2, hFW2⟩ : ∃ z, z = va_up W1 q1 (some ((6, i, 0), fw_ls (fw_ea G) 0 (fun _ => 0))) := ⟨_, rfl⟩
  rw [← hFW2] at hw
  have k2_0 : W2 b = some ((5, i, 0), fw_obj 6 [.null, .null, .int (nI 0), .int (nI 0), .int (nI 0)]) := by rw [hFW2]; exact fw_up_tag k1_0 k1_s (by intro z; cases z)
  have k2_1 : W2 tb = some ((3, tt, 0), fw_obj 8 [.ref sl, .ref fr, .int cv]) := by rw [hFW2]; exact fw_up_tag k1_1 k1_s (by intro z; cases z)
  have k2_2 : W2 sl = some ((13, tt, 0), fw_ls arr 2 sa) := by rw [hFW2]; exact fw_up_tag k1_2 k1_s (by intro z; cases z)
  have k2_3 : W2 (sa 0) = some ((23, tt, 0), fw_obj 7 [.int (v1 0), .int (v2 0), .int (v3 0)]) := by rw [hFW2]; exact fw_up_tag k1_3 k1_s (by intro z; cases z)
  have k2_4 : W2 (sa 1) = some ((23, tt, 1), fw_obj 7 [.int (v1 1), .int (v2 1), .int (v3 1)]) := by rw [hFW2]; exact fw_up_tag k1_4 k1_s (by intro z; cases z)
  have k2_s : W2 q1 = some ((6, i, 0), fw_ls (fw_ea G) 0 (fun _ => 0)) := by rw [hFW2]; exact fw_up_self
  have hkp2 : fw_kp F W2 (fun w => w.2.1 = i ∧ (w.1 = 5 ∨ w.1 = 6 ∨ w.1 = 7)) := by rw [hFW2]; exact (hkp1).up k1_s (by simp)
  refine fw_putF (v := .ref q1) (fs' := [.null, .ref q1, .int (nI 0), .int (nI 0), .int (nI 0)]) hx hb hT fi_RX5 tyX5 tyX5_ok nmX5 hown hz hw k2_0 rfl 1 (by decide) (hT _ wd_463) (fun _ h9 => h9) rfl (hin rfl) rfl (ty := tyX5 1) (by decide +kernel) rfl rfl (Nat.le_of_ble_eq_true rfl) rfl dX5_init_12 (fun H locs hw => ?_)
  obtain ⟨W3, hFW3⟩ : ∃ z, z = va_up W2 b (some ((5, i, 0), fw_obj 6 [.null, .ref q1, .int (nI 0), .int (nI 0), .int (nI 0)])) := ⟨_, rfl⟩
  rw [← hFW3] at hw
  have k3_0 : W3 tb = some ((3, tt, 0), fw_obj 8 [.ref sl, .ref fr, .int cv]) := by rw [hFW3]; exact fw_up_tag k2_1 k2_0 (by intro z; cases z)
  have k3_1 : W3 sl = some ((13, tt, 0), fw_ls arr 2 sa) := by rw [hFW3]; exact fw_up_tag k2_2 k2_0 (by intro z; cases z)
  have k3_2 : W3 (sa 0) = some ((23, tt, 0), fw_obj 7 [.int (v1 0), .int (v2 0), .int (v3 0)]) := by rw [hFW3]; exact fw_up_tag k2_3 k2_0 (by intro z; cases z)
  have k3_3 : W3 (sa 1) = some ((23, tt, 1), fw_obj 7 [.int (v1 1), .int (v2 1), .int (v3 1)]) := by rw [hFW3]; exact fw_up_tag k2_4 k2_0 (by intro z; cases z)
  have k3_4 : W3 q1 = some ((6, i, 0), fw_ls (fw_ea G) 0 (fun _ => 0)) := by rw [hFW3]; exact fw_up_tag k2_s k2_0 (by intro z; cases z)
  have k3_s : W3 b = some ((5, i, 0), fw_obj 6 [.null, .ref q1, .int (nI 0), .int (nI 0), .int (nI 0)]) := by rw [hFW3]; exact fw_up_self
  have hkp3 : fw_kp F W3 (fun w => w.2.1 = i ∧ (w.1 = 5 ∨ w.1 = 6 ∨ w.1 = 7)) := by rw [hFW3]; exact (hkp2).up k2_0 (by simp)
  refine lv_aload_n hx hb dX5_init_15 rfl (lv_at hl 0 rfl) ?_
  refine lv_iconst (v := (-1)) hx hb dX5_init_16 (by decide) ?_
  refine fw_put (v := .int (-1)) (fs' := [.null, .ref q1, .int (nI 0), .int (-1), .int (nI 0)]) hx hb hT fi_RX5 tyX5 tyX5_ok nmX5 hown hz hw k3_s rfl 3 (by decide) (hT _ wd_467) (fun _ h9 => h9) rfl (ty := tyX5 3) (by decide +kernel) rfl rfl (Nat.le_of_ble_eq_true rfl) rfl dX5_init_17 (fun H locs hw => ?_)
  obtain ⟨W4, hFW4⟩ : ∃ z, z = va_up W3 b (some ((5, i, 0), fw_obj 6 [.null, .ref q1, .int (nI 0), .int (-1), .int (nI 0)])) := ⟨_, rfl⟩
  rw [← hFW4] at hw
  have k4_0 : W4 tb = some ((3, tt, 0), fw_obj 8 [.ref sl, .ref fr, .int cv]) := by rw [hFW4]; exact fw_up_tag k3_0 k3_s (by intro z; cases z)
  have k4_1 : W4 sl = some ((13, tt, 0), fw_ls arr 2 sa) := by rw [hFW4]; exact fw_up_tag k3_1 k3_s (by intro z; cases z)
  have k4_2 : W4 (sa 0) = some ((23, tt, 0), fw_obj 7 [.int (v1 0), .int (v2 0), .int (v3 0)]) := by rw [hFW4]; exact fw_up_tag k3_2 k3_s (by intro z; cases z)
  have k4_3 : W4 (sa 1) = some ((23, tt, 1), fw_obj 7 [.int (v1 1), .int (v2 1), .int (v3 1)]) := by rw [hFW4]; exact fw_up_tag k3_3 k3_s (by intro z; cases z)
  have k4_4 : W4 q1 = some ((6, i, 0), fw_ls (fw_ea G) 0 (fun _ => 0)) := by rw [hFW4]; exact fw_up_tag k3_4 k3_s (by intro z; cases z)
  have k4_s : W4 b = some ((5, i, 0), fw_obj 6 [.null, .ref q1, .int (nI 0), .int (-1), .int (nI 0)]) := by rw [hFW4]; exact fw_up_self
  have hkp4 : fw_kp F W4 (fun w => w.2.1 = i ∧ (w.1 = 5 ∨ w.1 = 6 ∨ w.1 = 7)) := by rw [hFW4]; exact (hkp3).up k3_s (by simp)
  refine lv_aload_n hx hb dX5_init_20 rfl (lv_at hl 0 rfl) ?_
  refine lv_iconst (v := (nI 0)) hx hb dX5_init_21 (by decide) ?_
  refine fw_put (v := .int (nI 0)) (fs' := [.null, .ref q1, .int (nI 0), .int (-1), .int (nI 0)]) hx hb hT fi_RX5 tyX5 tyX5_ok nmX5 hown hz hw k4_s rfl 4 (by decide) (hT _ wd_469) (fun _ h9 => h9) rfl (ty := tyX5 4) (by decide +kernel) rfl rfl (Nat.le_of_ble_eq_true rfl) rfl dX5_init_22 (fun H locs hw => ?_)
  obtain ⟨W5, hFW5⟩ : ∃ z, z = va_up W4 b (some ((5, i, 0), fw_obj 6 [.null, .ref q1, .int (nI 0), .int (-1), .int (nI 0)])) := ⟨_, rfl⟩
  rw [← hFW5] at hw
  have k5_0 : W5 tb = some ((3, tt, 0), fw_obj 8 [.ref sl, .ref fr, .int cv]) := by rw [hFW5]; exact fw_up_tag k4_0 k4_s (by intro z; cases z)
  have k5_1 : W5 sl = some ((13, tt, 0), fw_ls arr 2 sa) := by rw [hFW5]; exact fw_up_tag k4_1 k4_s (by intro z; cases z)
  have k5_2 : W5 (sa 0) = some ((23, tt, 0), fw_obj 7 [.int (v1 0), .int (v2 0), .int (v3 0)]) := by rw [hFW5]; exact fw_up_tag k4_2 k4_s (by intro z; cases z)
  have k5_3 : W5 (sa 1) = some ((23, tt, 1), fw_obj 7 [.int (v1 1), .int (v2 1), .int (v3 1)]) := by rw [hFW5]; exact fw_up_tag k4_3 k4_s (by intro z; cases z)
  have k5_4 : W5 q1 = some ((6, i, 0), fw_ls (fw_ea G) 0 (fun _ => 0)) := by rw [hFW5]; exact fw_up_tag k4_4 k4_s (by intro z; cases z)
  have k5_s : W5 b = some ((5, i, 0), fw_obj 6 [.null, .ref q1, .int (nI 0), .int (-1), .int (nI 0)]) := by rw [hFW5]; exact fw_up_self
  have hkp5 : fw_kp F W5 (fun w => w.2.1 = i ∧ (w.1 = 5 ∨ w.1 = 6 ∨ w.1 = 7)) := by rw [hFW5]; exact (hkp4).up k4_s (by simp)
  refine lv_aload_n hx hb dX5_init_25 rfl (lv_at hl 0 rfl) ?_
  refine lv_aload_n hx hb dX5_init_26 rfl (lv_at hl 1 rfl) ?_
  refine fw_putF (v := .ref tb) (fs' := [.ref tb, .ref q1, .int (nI 0), .int (-1), .int (nI 0)]) hx hb hT fi_RX5 tyX5 tyX5_ok nmX5 hown hz hw k5_s rfl 0 (by decide) (hT _ wd_461) (fun _ h9 => h9) rfl (hin rfl) rfl (ty := tyX5 0) (by decide +kernel) rfl rfl (Nat.le_of_ble_eq_true rfl) rfl dX5_init_27 (fun H locs hw => ?_)
  obtain ⟨W6, hFW6⟩ : ∃ z, z = va_up W5 b (some ((5, i, 0), fw_obj 6 [.ref tb, .ref q1, .int (nI 0), .int (-1), .int (nI 0)])) := ⟨_, rfl⟩
  rw [← hFW6] at hw
  have k6_0 : W6 tb = some ((3, tt, 0), fw_obj 8 [.ref sl, .ref fr, .int cv]) := by rw [hFW6]; exact fw_up_tag k5_0 k5_s (by intro z; cases z)
  have k6_1 : W6 sl = some ((13, tt, 0), fw_ls arr 2 sa) := by rw [hFW6]; exact fw_up_tag k5_1 k5_s (by intro z; cases z)
  have k6_2 : W6 (sa 0) = some ((23, tt, 0), fw_obj 7 [.int (v1 0), .int (v2 0), .int (v3 0)]) := by rw [hFW6]; exact fw_up_tag k5_2 k5_s (by intro z; cases z)
  have k6_3 : W6 (sa 1) = some ((23, tt, 1), fw_obj 7 [.int (v1 1), .int (v2 1), .int (v3 1)]) := by rw [hFW6]; exact fw_up_tag k5_3 k5_s (by intro z; cases z)
  have k6_4 : W6 q1 = some ((6, i, 0), fw_ls (fw_ea G) 0 (fun _ => 0)) := by rw [hFW6]; exact fw_up_tag k5_4 k5_s (by intro z; cases z)
  have k6_s : W6 b = some ((5, i, 0), fw_obj 6 [.ref tb, .ref q1, .int (nI 0), .int (-1), .int (nI 0)]) := by rw [hFW6]; exact fw_up_self
  have hkp6 : fw_kp F W6 (fun w => w.2.1 = i ∧ (w.1 = 5 ∨ w.1 = 6 ∨ w.1 = 7)) := by rw [hFW6]; exact (hkp5).up k5_s (by simp)
  refine lv_iconst (v := (nI 0)) hx hb dX5_init_30 (by decide) ?_
  refine lv_istore_n (lv' := [(2, .int (nI 0)), (0, .ref b), (1, .ref tb)]) hx hb dX5_init_31 rfl hl (by decide) rfl (fun ls hl => ?_)
  refine lv_iload_n hx hb dX5_init_32 rfl (lv_at hl 0 rfl) ?_
  refine lv_aload_n hx hb dX5_init_33 rfl (lv_at hl 2 rfl) ?_
  refine fw_get (v := .ref sl) hx hb hT fi_RX7 hown hz hw k6_0 rfl 0 (by decide) (hT _ wd_83) (fun _ h9 => h9) rfl dX5_init_34 ?_
  refine fw_calli (fw_runV (As := []) (rest := [.int (nI 0)]) C hz hw (c_Jx4a65c_size_8abf5 l G _ _ sl arr 2 (13, tt, 0) sa k6_1) (fw_cwV hT wd_441 yVJx4a65c_size_8abf5 rfl rfl ⟨Nat.le_of_ble_eq_true rfl, Nat.le_of_ble_eq_true rfl⟩) (fw_recL hz hw k6_1) rfl hl.1 rfl (Nat.le_of_ble_eq_true rfl) dX5_init_37 ⟨Nat.le_of_ble_eq_true rfl, Nat.le_of_ble_eq_true rfl⟩) hw (fun r F1 H locs hw hp => ?_)
  obtain ⟨hp0, hp⟩ := hp
  rw [hp0] at hw
  refine W.widen (k := 1) (n := 3) (Nat.le_of_ble_eq_true rfl) (Nat.le_of_ble_eq_true rfl) ?_
  subst hp
  refine lv_icmp_ge (tgt := 75) hx hb dX5_init_40 (by decide) (fun cx => absurd cx (by decide)) (fun cx => ?_)
  refine lv_aload_n hx hb dX5_init_43 rfl (lv_at hl 1 rfl) ?_
  refine fw_get (v := .ref q1) hx hb hT fi_RX5 hown hz hw k6_s rfl 1 (by decide) (hT _ wd_463) (fun _ h9 => h9) rfl dX5_init_44 ?_
  refine fw_new (7, i, 0) (ci := 5) (fs := [.null, .int (nI 0)]) hx hb hT fi_RX4 tyX4 tyX4_ok hown (hT _ wd_442) (hT _ wd_443) (hT _ wd_23) hz hw hAn rfl (by intro j hj; rcases (show j = 0 ∨ j = 1 by omega) with rfl | rfl <;> rfl) (Nat.le_of_ble_eq_true rfl) (Nat.le_of_ble_eq_true rfl) dX5_init_47 (fun p0 H hqp0 hw => ?_)
  refine W.widen (k := 2) (n := 5) (Nat.le_of_ble_eq_true rfl) (Nat.le_of_ble_eq_true rfl) ?_
  obtain ⟨W7, hFW7⟩ : ∃ z, z = va_up W6 p0 (some ((7, i, 0), fw_obj 5 [.null, .int (nI 0)])) := ⟨_, rfl⟩
  rw [← hFW7] at hw
  have k7_0 : W7 tb = some ((3, tt, 0), fw_obj 8 [.ref sl, .ref fr, .int cv]) := by rw [hFW7]; exact fw_up_new k6_0 hqp0
  have k7_1 : W7 sl = some ((13, tt, 0), fw_ls arr 2 sa) := by rw [hFW7]; exact fw_up_new k6_1 hqp0
  have k7_2 : W7 (sa 0) = some ((23, tt, 0), fw_obj 7 [.int (v1 0), .int (v2 0), .int (v3 0)]) := by rw [hFW7]; exact fw_up_new k6_2 hqp0
  have k7_3 : W7 (sa 1) = some ((23, tt, 1), fw_obj 7 [.int (v1 1), .int (v2 1), .int (v3 1)]) := by rw [hFW7]; exact fw_up_new k6_3 hqp0
  have k7_4 : W7 q1 = some ((6, i, 0), fw_ls (fw_ea G) 0 (fun _ => 0)) := by rw [hFW7]; exact fw_up_new k6_4 hqp0
  have k7_5 : W7 b = some ((5, i, 0), fw_obj 6 [.ref tb, .ref q1, .int (nI 0), .int (-1), .int (nI 0)]) := by rw [hFW7]; exact fw_up_new k6_s hqp0
  have k7_s : W7 p0 = some ((7, i, 0), fw_obj 5 [.null, .int (nI 0)]) := by rw [hFW7]; exact fw_up_self
  have hkp7 : fw_kp F W7 (fun w => w.2.1 = i ∧ (w.1 = 5 ∨ w.1 = 6 ∨ w.1 = 7)) := by rw [hFW7]; exact (hkp6).new hqp0
  refine lv_dup hx hb dX5_init_50 rfl ?_
  refine lv_aload_n hx hb dX5_init_51 rfl (lv_at hl 2 rfl) ?_
  refine fw_get (v := .ref sl) hx hb hT fi_RX7 hown hz hw k7_0 rfl 0 (by decide) (hT _ wd_83) (fun _ h9 => h9) rfl dX5_init_52 ?_
  refine lv_iload_n hx hb dX5_init_55 rfl (lv_at hl 0 rfl) ?_
  refine fw_callo (fw_runV (As := [.int (nI 0)]) (rest := [.ref p0, .ref p0, .ref q1]) C hz hw (c_Jx4a65c_get_915e3 l G _ _ sl arr 2 (13, tt, 0) sa 0 k7_1 (by decide) (by decide)) (fw_cwV hT wd_444 yVJx4a65c_get_915e3 rfl rfl ⟨Nat.le_of_ble_eq_true rfl, Nat.le_of_ble_eq_true rfl⟩) (fw_recL hz hw k7_1) rfl hl.1 rfl (Nat.le_of_ble_eq_true rfl) dX5_init_56 ⟨Nat.le_of_ble_eq_true rfl, Nat.le_of_ble_eq_true rfl⟩) hw (fun r F1 H locs hw hp => ?_)
  obtain ⟨hp0, hp⟩ := hp
  rw [hp0] at hw
  refine W.widen (k := 2) (n := 5) (Nat.le_of_ble_eq_true rfl) (Nat.le_of_ble_eq_true rfl) ?_
  subst hp
  refine fw_cast hx hb hown hz hw k7_2 (q := vwCl[7]) rfl (hT _ wd_445) dX5_init_59 ?_
  refine fw_callv (fw_runI (As := [.ref (sa 0)]) (rest := [.ref p0, .ref q1]) C hz hw (c_X4_init l G _ _ p0 (7, i, 0) (sa 0) k7_s) (fw_cwI hT wd_446 yIX4_init rfl rfl ⟨Nat.le_of_ble_eq_true rfl, Nat.le_of_ble_eq_true rfl⟩) rfl hl.1 rfl (Nat.le_of_ble_eq_true rfl) dX5_init_62 ⟨Nat.le_of_ble_eq_true rfl, Nat.le_of_ble_eq_true rfl⟩) hw (fun F1 H locs hw hp => ?_)
  refine W.widen (k := 2) (n := 5) (Nat.le_of_ble_eq_true rfl) (Nat.le_of_ble_eq_true rfl) ?_
  rw [hp] at hw
  obtain ⟨W8, hFW8⟩ : ∃ z, z = va_up W7 p0 (some ((7, i, 0), fw_obj 5 [.ref (sa 0), .int (nI 0)])) := ⟨_, rfl⟩
  rw [← hFW8] at hw
  have k8_0 : W8 tb = some ((3, tt, 0), fw_obj 8 [.ref sl, .ref fr, .int cv]) := by rw [hFW8]; exact fw_up_tag k7_0 k7_s (by intro z; cases z)
  have k8_1 : W8 sl = some ((13, tt, 0), fw_ls arr 2 sa) := by rw [hFW8]; exact fw_up_tag k7_1 k7_s (by intro z; cases z)
  have k8_2 : W8 (sa 0) = some ((23, tt, 0), fw_obj 7 [.int (v1 0), .int (v2 0), .int (v3 0)]) := by rw [hFW8]; exact fw_up_tag k7_2 k7_s (by intro z; cases z)
  have k8_3 : W8 (sa 1) = some ((23, tt, 1), fw_obj 7 [.int (v1 1), .int (v2 1), .int (v3 1)]) := by rw [hFW8]; exact fw_up_tag k7_3 k7_s (by intro z; cases z)
  have k8_4 : W8 q1 = some ((6, i, 0), fw_ls (fw_ea G) 0 (fun _ => 0)) := by rw [hFW8]; exact fw_up_tag k7_4 k7_s (by intro z; cases z)
  have k8_5 : W8 b = some ((5, i, 0), fw_obj 6 [.ref tb, .ref q1, .int (nI 0), .int (-1), .int (nI 0)]) := by rw [hFW8]; exact fw_up_tag k7_5 k7_s (by intro z; cases z)
  have k8_s : W8 p0 = some ((7, i, 0), fw_obj 5 [.ref (sa 0), .int (nI 0)]) := by rw [hFW8]; exact fw_up_self
  have hkp8 : fw_kp F W8 (fun w => w.2.1 = i ∧ (w.1 = 5 ∨ w.1 = 6 ∨ w.1 = 7)) := by rw [hFW8]; exact (hkp7).up k7_s (by simp)
  refine fw_calli (fw_runV (As := [.ref p0]) (rest := []) C hz hw (c_Jx4a65c_add_9ea2d l G _ _ q1 (fw_ea G) 0 (6, i, 0) (fun _ => 0) p0 5 (7, i, 0) _ (show 6 < 900 by decide) k8_4 (by decide) k8_s) (fw_cwV hT wd_460 yVJx4a65c_add_9ea2d rfl rfl ⟨Nat.le_of_ble_eq_true rfl, Nat.le_of_ble_eq_true rfl⟩) (fw_recL hz hw k8_4) rfl hl.1 rfl (Nat.le_of_ble_eq_true rfl) dX5_init_65 ⟨Nat.le_of_ble_eq_true rfl, Nat.le_of_ble_eq_true rfl⟩) hw (fun r F1 H locs hw hp => ?_)
  refine W.widen (k := 3) (n := 245) (Nat.le_of_ble_eq_true rfl) (Nat.le_of_ble_eq_true rfl) ?_
  obtain ⟨rfl, r0, hp⟩ := hp
  rw [hp] at hw
  obtain ⟨W9, hFW9⟩ : ∃ z, z = va_up W8 q1 (some ((6, i, 0), fw_ls r0 1 (va_up (fun _ => 0) 0 p0))) := ⟨_, rfl⟩
  rw [← hFW9] at hw
  have k9_0 : W9 tb = some ((3, tt, 0), fw_obj 8 [.ref sl, .ref fr, .int cv]) := by rw [hFW9]; exact fw_up_tag k8_0 k8_4 (by intro z; cases z)
  have k9_1 : W9 sl = some ((13, tt, 0), fw_ls arr 2 sa) := by rw [hFW9]; exact fw_up_tag k8_1 k8_4 (by intro z; cases z)
  have k9_2 : W9 (sa 0) = some ((23, tt, 0), fw_obj 7 [.int (v1 0), .int (v2 0), .int (v3 0)]) := by rw [hFW9]; exact fw_up_tag k8_2 k8_4 (by intro z; cases z)
  have k9_3 : W9 (sa 1) = some ((23, tt, 1), fw_obj 7 [.int (v1 1), .int (v2 1), .int (v3 1)]) := by rw [hFW9]; exact fw_up_tag k8_3 k8_4 (by intro z; cases z)
  have k9_4 : W9 b = some ((5, i, 0), fw_obj 6 [.ref tb, .ref q1, .int (nI 0), .int (-1), .int (nI 0)]) := by rw [hFW9]; exact fw_up_tag k8_5 k8_4 (by intro z; cases z)
  have k9_5 : W9 p0 = some ((7, i, 0), fw_obj 5 [.ref (sa 0), .int (nI 0)]) := by rw [hFW9]; exact fw_up_tag k8_s k8_4 (by intro z; cases z)
  have k9_s : W9 q1 = some ((6, i, 0), fw_ls r0 1 (va_up (fun _ => 0) 0 p0)) := by rw [hFW9]; exact fw_up_self
  have hkp9 : fw_kp F W9 (fun w => w.2.1 = i ∧ (w.1 = 5 ∨ w.1 = 6 ∨ w.1 = 7)) := by rw [hFW9]; exact (hkp8).up k8_4 (by simp)
  refine lv_pop hx hb dX5_init_68 rfl ?_
  refine lv_iinc (v := (nI (0 + 1))) (lv' := [(2, .int (nI (0 + 1))), (0, .ref b), (1, .ref tb)]) hx hb dX5_init_69 hl (k := 0) rfl (nI_1 _) (by decide) rfl (fun ls hl => ?_)
  refine lv_goto (tgt := 32) hx hb dX5_init_72 (by decide) ?_
  refine lv_iload_n hx hb dX5_init_32 rfl (lv_at hl 0 rfl) ?_
  refine lv_aload_n hx hb dX5_init_33 rfl (lv_at hl 2 rfl) ?_
  refine fw_get (v := .ref sl) hx hb hT fi_RX7 hown hz hw k9_0 rfl 0 (by decide) (hT _ wd_83) (fun _ h9 => h9) rfl dX5_init_34 ?_
  refine fw_calli (fw_runV (As := []) (rest := [.int (nI (0 + 1))]) C hz hw (c_Jx4a65c_size_8abf5 l G _ _ sl arr 2 (13, tt, 0) sa k9_1) (fw_cwV hT wd_441 yVJx4a65c_size_8abf5 rfl rfl ⟨Nat.le_of_ble_eq_true rfl, Nat.le_of_ble_eq_true rfl⟩) (fw_recL hz hw k9_1) rfl hl.1 rfl (Nat.le_of_ble_eq_true rfl) dX5_init_37 ⟨Nat.le_of_ble_eq_true rfl, Nat.le_of_ble_eq_true rfl⟩) hw (fun r F1 H locs hw hp => ?_)
  obtain ⟨hp0, hp⟩ := hp
  rw [hp0] at hw
  refine W.widen (k := 3) (n := 245) (Nat.le_of_ble_eq_true rfl) (Nat.le_of_ble_eq_true rfl) ?_
  subst hp
  refine lv_icmp_ge (tgt := 75) hx hb dX5_init_40 (by decide) (fun cx => absurd cx (by decide)) (fun cx => ?_)
  refine lv_aload_n hx hb dX5_init_43 rfl (lv_at hl 1 rfl) ?_
  refine fw_get (v := .ref q1) hx hb hT fi_RX5 hown hz hw k9_4 rfl 1 (by decide) (hT _ wd_463) (fun _ h9 => h9) rfl dX5_init_44 ?_
  refine fw_new (7, i, 1) (ci := 5) (fs := [.null, .int (nI 0)]) hx hb hT fi_RX4 tyX4 tyX4_ok hown (hT _ wd_442) (hT _ wd_443) (hT _ wd_23) hz hw hAn rfl (by intro j hj; rcases (show j = 0 ∨ j = 1 by omega) with rfl | rfl <;> rfl) (Nat.le_of_ble_eq_true rfl) (Nat.le_of_ble_eq_true rfl) dX5_init_47 (fun p1 H hqp1 hw => ?_)
  refine W.widen (k := 4) (n := 247) (Nat.le_of_ble_eq_true rfl) (Nat.le_of_ble_eq_true rfl) ?_
  obtain ⟨W10, hFW10⟩ : ∃ z, z = va_up W9 p1 (some ((7, i, 1), fw_obj 5 [.null, .int (nI 0)])) := ⟨_, rfl⟩
  rw [← hFW10] at hw
  have k10_0 : W10 tb = some ((3, tt, 0), fw_obj 8 [.ref sl, .ref fr, .int cv]) := by rw [hFW10]; exact fw_up_new k9_0 hqp1
  have k10_1 : W10 sl = some ((13, tt, 0), fw_ls arr 2 sa) := by rw [hFW10]; exact fw_up_new k9_1 hqp1
  have k10_2 : W10 (sa 0) = some ((23, tt, 0), fw_obj 7 [.int (v1 0), .int (v2 0), .int (v3 0)]) := by rw [hFW10]; exact fw_up_new k9_2 hqp1
  have k10_3 : W10 (sa 1) = some ((23, tt, 1), fw_obj 7 [.int (v1 1), .int (v2 1), .int (v3 1)]) := by rw [hFW10]; exact fw_up_new k9_3 hqp1
  have k10_4 : W10 b = some ((5, i, 0), fw_obj 6 [.ref tb, .ref q1, .int (nI 0), .int (-1), .int (nI 0)]) := by rw [hFW10]; exact fw_up_new k9_4 hqp1
  have k10_5 : W10 p0 = some ((7, i, 0), fw_obj 5 [.ref (sa 0), .int (nI 0)]) := by rw [hFW10]; exact fw_up_new k9_5 hqp1
  have k10_6 : W10 q1 = some ((6, i, 0), fw_ls r0 1 (va_up (fun _ => 0) 0 p0)) := by rw [hFW10]; exact fw_up_new k9_s hqp1
  have k10_s : W10 p1 = some ((7, i, 1), fw_obj 5 [.null, .int (nI 0)]) := by rw [hFW10]; exact fw_up_self
  have hkp10 : fw_kp F W10 (fun w => w.2.1 = i ∧ (w.1 = 5 ∨ w.1 = 6 ∨ w.1 = 7)) := by rw [hFW10]; exact (hkp9).new hqp1
  refine lv_dup hx hb dX5_init_50 rfl ?_
  refine lv_aload_n hx hb dX5_init_51 rfl (lv_at hl 2 rfl) ?_
  refine fw_get (v := .ref sl) hx hb hT fi_RX7 hown hz hw k10_0 rfl 0 (by decide) (hT _ wd_83) (fun _ h9 => h9) rfl dX5_init_52 ?_
  refine lv_iload_n hx hb dX5_init_55 rfl (lv_at hl 0 rfl) ?_
  refine fw_callo (fw_runV (As := [.int (nI (0 + 1))]) (rest := [.ref p1, .ref p1, .ref q1]) C hz hw (c_Jx4a65c_get_915e3 l G _ _ sl arr 2 (13, tt, 0) sa 1 k10_1 (by decide) (by decide)) (fw_cwV hT wd_444 yVJx4a65c_get_915e3 rfl rfl ⟨Nat.le_of_ble_eq_true rfl, Nat.le_of_ble_eq_true rfl⟩) (fw_recL hz hw k10_1) rfl hl.1 rfl (Nat.le_of_ble_eq_true rfl) dX5_init_56 ⟨Nat.le_of_ble_eq_true rfl, Nat.le_of_ble_eq_true rfl⟩) hw (fun r F1 H locs hw hp => ?_)
  obtain ⟨hp0, hp⟩ := hp
  rw [hp0] at hw
  refine W.widen (k := 4) (n := 247) (Nat.le_of_ble_eq_true rfl) (Nat.le_of_ble_eq_true rfl) ?_
  subst hp
  refine fw_cast hx hb hown hz hw k10_3 (q := vwCl[7]) rfl (hT _ wd_445) dX5_init_59 ?_
  refine fw_callv (fw_runI (As := [.ref (sa 1)]) (rest := [.ref p1, .ref q1]) C hz hw (c_X4_init l G _ _ p1 (7, i, 1) (sa 1) k10_s) (fw_cwI hT wd_446 yIX4_init rfl rfl ⟨Nat.le_of_ble_eq_true rfl, Nat.le_of_ble_eq_true rfl⟩) rfl hl.1 rfl (Nat.le_of_ble_eq_true rfl) dX5_init_62 ⟨Nat.le_of_ble_eq_true rfl, Nat.le_of_ble_eq_true rfl⟩) hw (fun F1 H locs hw hp => ?_)
  refine W.widen (k := 4) (n := 247) (Nat.le_of_ble_eq_true rfl) (Nat.le_of_ble_eq_true rfl) ?_
  rw [hp] at hw
  obtain ⟨W11, hFW11⟩ : ∃ z, z = va_up W10 p1 (some ((7, i, 1), fw_obj 5 [.ref (sa 1), .int (nI 0)])) := ⟨_, rfl⟩
  rw [← hFW11] at hw
  have k11_0 : W11 tb = some ((3, tt, 0), fw_obj 8 [.ref sl, .ref fr, .int cv]) := by rw [hFW11]; exact fw_up_tag k10_0 k10_s (by intro z; cases z)
  have k11_1 : W11 sl = some ((13, tt, 0), fw_ls arr 2 sa) := by rw [hFW11]; exact fw_up_tag k10_1 k10_s (by intro z; cases z)
  have k11_2 : W11 (sa 0) = some ((23, tt, 0), fw_obj 7 [.int (v1 0), .int (v2 0), .int (v3 0)]) := by rw [hFW11]; exact fw_up_tag k10_2 k10_s (by intro z; cases z)
  have k11_3 : W11 (sa 1) = some ((23, tt, 1), fw_obj 7 [.int (v1 1), .int (v2 1), .int (v3 1)]) := by rw [hFW11]; exact fw_up_tag k10_3 k10_s (by intro z; cases z)
  have k11_4 : W11 b = some ((5, i, 0), fw_obj 6 [.ref tb, .ref q1, .int (nI 0), .int (-1), .int (nI 0)]) := by rw [hFW11]; exact fw_up_tag k10_4 k10_s (by intro z; cases z)
  have k11_5 : W11 p0 = some ((7, i, 0), fw_obj 5 [.ref (sa 0), .int (nI 0)]) := by rw [hFW11]; exact fw_up_tag k10_5 k10_s (by intro z; cases z)
  have k11_6 : W11 q1 = some ((6, i, 0), fw_ls r0 1 (va_up (fun _ => 0) 0 p0)) := by rw [hFW11]; exact fw_up_tag k10_6 k10_s (by intro z; cases z)
  have k11_s : W11 p1 = some ((7, i, 1), fw_obj 5 [.ref (sa 1), .int (nI 0)]) := by rw [hFW11]; exact fw_up_self
  have hkp11 : fw_kp F W11 (fun w => w.2.1 = i ∧ (w.1 = 5 ∨ w.1 = 6 ∨ w.1 = 7)) := by rw [hFW11]; exact (hkp10).up k10_s (by simp)
  refine fw_calli (fw_runV (As := [.ref p1]) (rest := []) C hz hw (c_Jx4a65c_add_9ea2d l G _ _ q1 r0 1 (6, i, 0) (va_up (fun _ => 0) 0 p0) p1 5 (7, i, 1) _ (show 6 < 900 by decide) k11_6 (by decide) k11_s) (fw_cwV hT wd_460 yVJx4a65c_add_9ea2d rfl rfl ⟨Nat.le_of_ble_eq_true rfl, Nat.le_of_ble_eq_true rfl⟩) (fw_recL hz hw k11_6) rfl hl.1 rfl (Nat.le_of_ble_eq_true rfl) dX5_init_65 ⟨Nat.le_of_ble_eq_true rfl, Nat.le_of_ble_eq_true rfl⟩) hw (fun r F1 H locs hw hp => ?_)
  refine W.widen (k := 5) (n := 487) (Nat.le_of_ble_eq_true rfl) (Nat.le_of_ble_eq_true rfl) ?_
  obtain ⟨rfl, r1, hp⟩ := hp
  rw [hp] at hw
  obtain ⟨W12, hFW12⟩ : ∃ z, z = va_up W11 q1 (some ((6, i, 0), fw_ls r1 2 (va_up (va_up (fun _ => 0) 0 p0) 1 p1))) := ⟨_, rfl⟩
  rw [← hFW12] at hw
  have k12_0 : W12 tb = some ((3, tt, 0), fw_obj 8 [.ref sl, .ref fr, .int cv]) := by rw [hFW12]; exact fw_up_tag k11_0 k11_6 (by intro z; cases z)
  have k12_1 : W12 sl = some ((13, tt, 0), fw_ls arr 2 sa) := by rw [hFW12]; exact fw_up_tag k11_1 k11_6 (by intro z; cases z)
  have k12_2 : W12 (sa 0) = some ((23, tt, 0), fw_obj 7 [.int (v1 0), .int (v2 0), .int (v3 0)]) := by rw [hFW12]; exact fw_up_tag k11_2 k11_6 (by intro z; cases z)
  have k12_3 : W12 (sa 1) = some ((23, tt, 1), fw_obj 7 [.int (v1 1), .int (v2 1), .int (v3 1)]) := by rw [hFW12]; exact fw_up_tag k11_3 k11_6 (by intro z; cases z)
  have k12_4 : W12 b = some ((5, i, 0), fw_obj 6 [.ref tb, .ref q1, .int (nI 0), .int (-1), .int (nI 0)]) := by rw [hFW12]; exact fw_up_tag k11_4 k11_6 (by intro z; cases z)
  have k12_5 : W12 p0 = some ((7, i, 0), fw_obj 5 [.ref (sa 0), .int (nI 0)]) := by rw [hFW12]; exact fw_up_tag k11_5 k11_6 (by intro z; cases z)
  have k12_6 : W12 p1 = some ((7, i, 1), fw_obj 5 [.ref (sa 1), .int (nI 0)]) := by rw [hFW12]; exact fw_up_tag k11_s k11_6 (by intro z; cases z)
  have k12_s : W12 q1 = some ((6, i, 0), fw_ls r1 2 (va_up (va_up (fun _ => 0) 0 p0) 1 p1)) := by rw [hFW12]; exact fw_up_self
  have hkp12 : fw_kp F W12 (fun w => w.2.1 = i ∧ (w.1 = 5 ∨ w.1 = 6 ∨ w.1 = 7)) := by rw [hFW12]; exact (hkp11).up k11_6 (by simp)
  refine lv_pop hx hb dX5_init_68 rfl ?_
  refine lv_iinc (v := (nI (0 + 1 + 1))) (lv' := [(2, .int (nI (0 + 1 + 1))), (0, .ref b), (1, .ref tb)]) hx hb dX5_init_69 hl (k := 0) rfl (nI_1 _) (by decide) rfl (fun ls hl => ?_)
  refine lv_goto (tgt := 32) hx hb dX5_init_72 (by decide) ?_
  refine lv_iload_n hx hb dX5_init_32 rfl (lv_at hl 0 rfl) ?_
  refine lv_aload_n hx hb dX5_init_33 rfl (lv_at hl 2 rfl) ?_
  refine fw_get (v := .ref sl) hx hb hT fi_RX7 hown hz hw k12_0 rfl 0 (by decide) (hT _ wd_83) (fun _ h9 => h9) rfl dX5_init_34 ?_
  refine fw_calli (fw_runV (As := []) (rest := [.int (nI (0 + 1 + 1))]) C hz hw (c_Jx4a65c_size_8abf5 l G _ _ sl arr 2 (13, tt, 0) sa k12_1) (fw_cwV hT wd_441 yVJx4a65c_size_8abf5 rfl rfl ⟨Nat.le_of_ble_eq_true rfl, Nat.le_of_ble_eq_true rfl⟩) (fw_recL hz hw k12_1) rfl hl.1 rfl (Nat.le_of_ble_eq_true rfl) dX5_init_37 ⟨Nat.le_of_ble_eq_true rfl, Nat.le_of_ble_eq_true rfl⟩) hw (fun r F1 H locs hw hp => ?_)
  obtain ⟨hp0, hp⟩ := hp
  rw [hp0] at hw
  refine W.widen (k := 5) (n := 487) (Nat.le_of_ble_eq_true rfl) (Nat.le_of_ble_eq_true rfl) ?_
  subst hp
  refine lv_icmp_ge (tgt := 75) hx hb dX5_init_40 (by decide) (fun cx => ?_) (fun cx => absurd cx (by decide))
  refine lv_aload_n hx hb dX5_init_75 rfl (lv_at hl 1 rfl) ?_
  refine lv_iconst (v := (nI 2)) hx hb dX5_init_76 (by decide) ?_
  refine lv_aload_n hx hb dX5_init_77 rfl (lv_at hl 2 rfl) ?_
  refine fw_get (v := .ref sl) hx hb hT fi_RX7 hown hz hw k12_0 rfl 0 (by decide) (hT _ wd_83) (fun _ h9 => h9) rfl dX5_init_78 ?_
  refine fw_calli (fw_runV (As := []) (rest := [.int (nI 2), .ref b]) C hz hw (c_Jx4a65c_size_8abf5 l G _ _ sl arr 2 (13, tt, 0) sa k12_1) (fw_cwV hT wd_441 yVJx4a65c_size_8abf5 rfl rfl ⟨Nat.le_of_ble_eq_true rfl, Nat.le_of_ble_eq_true rfl⟩) (fw_recL hz hw k12_1) rfl hl.1 rfl (Nat.le_of_ble_eq_true rfl) dX5_init_81 ⟨Nat.le_of_ble_eq_true rfl, Nat.le_of_ble_eq_true rfl⟩) hw (fun r F1 H locs hw hp => ?_)
  obtain ⟨hp0, hp⟩ := hp
  rw [hp0] at hw
  refine W.widen (k := 5) (n := 487) (Nat.le_of_ble_eq_true rfl) (Nat.le_of_ble_eq_true rfl) ?_
  subst hp
  refine lv_imul hx hb dX5_init_84 ?_
  refine fw_top (pk_mul _ _) ?_
  refine fw_top (x' := (nI 4)) (rfl) ?_
  refine fw_put (v := .int (nI 4)) (fs' := [.ref tb, .ref q1, .int (nI 4), .int (-1), .int (nI 0)]) hx hb hT fi_RX5 tyX5 tyX5_ok nmX5 hown hz hw k12_4 rfl 2 (by decide) (hT _ wd_465) (fun _ h9 => h9) rfl (ty := tyX5 2) (by decide +kernel) rfl rfl (Nat.le_of_ble_eq_true rfl) rfl dX5_init_85 (fun H locs hw => ?_)
  obtain ⟨W13, hFW13⟩ : ∃ z, z = va_up W12 b (some ((5, i, 0), fw_obj 6 [.ref tb, .ref q1, .int (nI 4), .int (-1), .int (nI 0)])) := ⟨_, rfl⟩
  rw [← hFW13] at hw
  have k13_0 : W13 tb = some ((3, tt, 0), fw_obj 8 [.ref sl, .ref fr, .int cv]) := by rw [hFW13]; exact fw_up_tag k12_0 k12_4 (by intro z; cases z)
  have k13_1 : W13 sl = some ((13, tt, 0), fw_ls arr 2 sa) := by rw [hFW13]; exact fw_up_tag k12_1 k12_4 (by intro z; cases z)
  have k13_2 : W13 (sa 0) = some ((23, tt, 0), fw_obj 7 [.int (v1 0), .int (v2 0), .int (v3 0)]) := by rw [hFW13]; exact fw_up_tag k12_2 k12_4 (by intro z; cases z)
  have k13_3 : W13 (sa 1) = some ((23, tt, 1), fw_obj 7 [.int (v1 1), .int (v2 1), .int (v3 1)]) := by rw [hFW13]; exact fw_up_tag k12_3 k12_4 (by intro z; cases z)
  have k13_4 : W13 p0 = some ((7, i, 0), fw_obj 5 [.ref (sa 0), .int (nI 0)]) := by rw [hFW13]; exact fw_up_tag k12_5 k12_4 (by intro z; cases z)
  have k13_5 : W13 p1 = some ((7, i, 1), fw_obj 5 [.ref (sa 1), .int (nI 0)]) := by rw [hFW13]; exact fw_up_tag k12_6 k12_4 (by intro z; cases z)
  have k13_6 : W13 q1 = some ((6, i, 0), fw_ls r1 2 (va_up (va_up (fun _ => 0) 0 p0) 1 p1)) := by rw [hFW13]; exact fw_up_tag k12_s k12_4 (by intro z; cases z)
  have k13_s : W13 b = some ((5, i, 0), fw_obj 6 [.ref tb, .ref q1, .int (nI 4), .int (-1), .int (nI 0)]) := by rw [hFW13]; exact fw_up_self
  have hkp13 : fw_kp F W13 (fun w => w.2.1 = i ∧ (w.1 = 5 ∨ w.1 = 6 ∨ w.1 = 7)) := by rw [hFW13]; exact (hkp12).up k12_4 (by simp)
  exact fw_vret hx hb hr hlk (Nat.le_of_ble_eq_true rfl) (Nat.le_of_ble_eq_true rfl) hw dX5_init_88 (⟨q1, r1, (va_up (va_up (fun _ => 0) 0 p0) 1 p1), k13_s, k13_6, fun k hk => by
      rcases (show k = 0 ∨ k = 1 by omega) with rfl | rfl
      · exact k13_4
      · exact k13_5, hkp13⟩)
set_option maxHeartbeats 4000000 in
set_option maxRecDepth 100000 in
theorem c_X5_init_3 (l : Launch) (G : fw_G) (F : fw_F) (sz : Nat) (b tb sl fr arr tt i : Nat) (cv : Int32) (sa : Nat → Nat) (v1 v2 v3 : Nat → Int32) (hF : F b = some ((5, i, 0), fw_obj 6 [.null, .null, .int (nI 0), .int (nI 0), .int (nI 0)])) (hB : F tb = some ((3, tt, 0), fw_obj 8 [.ref sl, .ref fr, .int cv])) (hL : F sl = some ((13, tt, 0), fw_ls arr 3 sa)) (hS : ∀ k, k < 3 → F (sa k) = some ((23, tt, k), fw_obj 7 [.int (v1 k), .int (v2 k), .int (v3 k)])) : Met l yX5_init (fw_ws yX5_init cX5_init 3 none) { frames := 7, cells := 7, slots := 729, locals := 171 } (va_Pc [.ref b, .ref tb] (fw_Pre G F sz)) (va_Qv (fun F1 => ∃ q arr1 ms, F1 b = some ((5, i, 0), fw_obj 6 [.ref tb, .ref q, .int (nI 6), .int (-1), .int (nI 0)]) ∧ F1 q = some ((6, i, 0), fw_ls arr1 3 ms) ∧ (∀ k, k < 3 → F1 (ms k) = some ((7, i, k), fw_obj 5 [.ref (sa k), .int (nI 0)])) ∧ fw_kp F F1 (fun w => w.2.1 = i ∧ (w.1 = 5 ∨ w.1 = 6 ∨ w.1 = 7))) (fw_B G (fw_W G F sz)) (fw_W G F sz)) 7 729 (fw_W G F sz) := by
  refine fw_met (lv := [(0, .ref b), (1, .ref tb)]) (by decide +kernel) (Nat.le_of_ble_eq_true rfl) rfl ?_
  intro A hA p e s m below meth c ls hx hb hml hown hT hr hlk hin hz hsz hw hAn hl
  rw [← hA]
  have hown : s.vm.findClass RX5 = some m.cls := hown
  have C : CallFix p m c cX5_init 3 s _ fw_tb RX5 := ⟨hx, hb, hml, hown, hT⟩
  have hs0 := hS 0 (by decide)
  have hs1 := hS 1 (by decide)
  have hs2 := hS 2 (by decide)
  refine lv_aload_n hx hb dX5_init_0 rfl (lv_at hl 0 rfl) ?_
  refine W.objInit hx hb hown (hT _ wd_438) (hT _ wd_31) (hT _ wd_32) rfl (hl.1.trans hml.symm) rfl dX5_init_1 (Nat.le_of_ble_eq_true rfl) (Nat.le_of_ble_eq_true rfl) ?_
  refine W.eq (g2 := F0 m 4 ls []) rfl ?_
  refine lv_aload_n hx hb dX5_init_4 rfl (lv_at hl 0 rfl) ?_
  have hPq := hw.1
  refine fw_new (6, i, 0) (ci := 0) (fs := [.int (nI 0), .null, .int (nI 0)]) hx hb hT fi_RJx4a65c tyJx4a65c tyJx4a65c_ok hown (hT _ wd_439) (hT _ wd_34) (hT _ wd_4) hz hw hAn rfl (by intro j hj; rcases (show j = 0 ∨ j = 1 ∨ j = 2 by omega) with rfl | rfl | rfl <;> rfl) (Nat.le_of_ble_eq_true rfl) (Nat.le_of_ble_eq_true rfl) dX5_init_5 (fun q1 H hqq1 hw => ?_)
  refine W.widen (k := 1) (n := 3) (Nat.le_of_ble_eq_true rfl) (Nat.le_of_ble_eq_true rfl) ?_
  obtain ⟨W1, hFW1⟩ : ∃ z, z = va_up F q1 (some ((6, i, 0), fw_obj 0 [.int (nI 0), .null, .int (nI 0)])) := ⟨_, rfl⟩
  rw [← hFW1] at hw
  have k1_0 : W1 b = some ((5, i, 0), fw_obj 6 [.null, .null, .int (nI 0), .int (nI 0), .int (nI 0)]) := by rw [hFW1]; exact fw_up_new hF hqq1
  have k1_1 : W1 tb = some ((3, tt, 0), fw_obj 8 [.ref sl, .ref fr, .int cv]) := by rw [hFW1]; exact fw_up_new hB hqq1
  have k1_2 : W1 sl = some ((13, tt, 0), fw_ls arr 3 sa) := by rw [hFW1]; exact fw_up_new hL hqq1
  have k1_3 : W1 (sa 0) = some ((23, tt, 0), fw_obj 7 [.int (v1 0), .int (v2 0), .int (v3 0)]) := by rw [hFW1]; exact fw_up_new hs0 hqq1
  have k1_4 : W1 (sa 1) = some ((23, tt, 1), fw_obj 7 [.int (v1 1), .int (v2 1), .int (v3 1)]) := by rw [hFW1]; exact fw_up_new hs1 hqq1
  have k1_5 : W1 (sa 2) = some ((23, tt, 2), fw_obj 7 [.int (v1 2), .int (v2 2), .int (v3 2)]) := by rw [hFW1]; exact fw_up_new hs2 hqq1
  have k1_s : W1 q1 = some ((6, i, 0), fw_obj 0 [.int (nI 0), .null, .int (nI 0)]) := by rw [hFW1]; exact fw_up_self
  have hkp1 : fw_kp F W1 (fun w => w.2.1 = i ∧ (w.1 = 5 ∨ w.1 = 6 ∨ w.1 = 7)) := by rw [hFW1]; exact (fw_kp.rf).new hqq1
  refine lv_dup hx hb dX5_init_8 rfl ?_
  refine fw_callv (fw_runI (As := []) (rest := [.ref q1, .ref b]) C hz hw (c_Jx4a65c_init_da8c8 l G _ _ q1 (6, i, 0) (show 6 < 900 by decide) k1_s (by rw [hFW1]; exact fw_nb hPq hqq1 (fun t arr n f h => by cases h))) (fw_cwI hT wd_440 yIJx4a65c_init_da8c8 rfl rfl ⟨Nat.le_of_ble_eq_true rfl, Nat.le_of_ble_eq_true rfl⟩) rfl hl.1 rfl (Nat.le_of_ble_eq_true rfl) dX5_init_9 ⟨Nat.le_of_ble_eq_true rfl, Nat.le_of_ble_eq_true rfl⟩) hw (fun F1 H locs hw hp => ?_)
  refine W.widen (k := 1) (n := 3) (Nat.le_of_ble_eq_true rfl) (Nat.le_of_ble_eq_true rfl) ?_
  rw [hp] at hw
  obtain ⟨W2, hFW2⟩ : ∃ z, z = va_up W1 q1 (some ((6, i, 0), fw_ls (fw_ea G) 0 (fun _ => 0))) := ⟨_, rfl⟩
  rw [← hFW2] at hw
  have k2_0 : W2 b = some ((5, i, 0), fw_obj 6 [.null, .null, .int (nI 0), .int (nI 0), .int (nI 0)]) := by rw [hFW2]; exact fw_up_tag k1_0 k1_s (by intro z; cases z)
  have k2_1 : W2 tb = some ((3, tt, 0), fw_obj 8 [.ref sl, .ref fr, .int cv]) := by rw [hFW2]; exact fw_up_tag k1_1 k1_s (by intro z; cases z)
  have k2_2 : W2 sl = some ((13, tt, 0), fw_ls arr 3 sa) := by rw [hFW2]; exact fw_up_tag k1_2 k1_s (by intro z; cases z)
  have k2_3 : W2 (sa 0) = some ((23, tt, 0), fw_obj 7 [.int (v1 0), .int (v2 0), .int (v3 0)]) := by rw [hFW2]; exact fw_up_tag k1_3 k1_s (by intro z; cases z)
  have k2_4 : W2 (sa 1) = some ((23, tt, 1), fw_obj 7 [.int (v1 1), .int (v2 1), .int (v3 1)]) := by rw [hFW2]; exact fw_up_tag k1_4 k1_s (by intro z; cases z)
  have k2_5 : W2 (sa 2) = some ((23, tt, 2), fw_obj 7 [.int (v1 2), .int (v2 2), .int (v3 2)]) := by rw [hFW2]; exact fw_up_tag k1_5 k1_s (by intro z; cases z)
  have k2_s : W2 q1 = some ((6, i, 0), fw_ls (fw_ea G) 0 (fun _ => 0)) := by rw [hFW2]; exact fw_up_self
  have hkp2 : fw_kp F W2 (fun w => w.2.1 = i ∧ (w.1 = 5 ∨ w.1 = 6 ∨ w.1 = 7)) := by rw [hFW2]; exact (hkp1).up k1_s (by simp)
  refine fw_putF (v := .ref q1) (fs' := [.null, .ref q1, .int (nI 0), .int (nI 0), .int (nI 0)]) hx hb hT fi_RX5 tyX5 tyX5_ok nmX5 hown hz hw k2_0 rfl 1 (by decide) (hT _ wd_463) (fun _ h9 => h9) rfl (hin rfl) rfl (ty := tyX5 1) (by decide +kernel) rfl rfl (Nat.le_of_ble_eq_true rfl) rfl dX5_init_12 (fun H locs hw => ?_)
  obtain ⟨W3, hFW3⟩ : ∃ z, z = va_up W2 b (some ((5, i, 0), fw_obj 6 [.null, .ref q1, .int (nI 0), .int (nI 0), .int (nI 0)])) := ⟨_, rfl⟩
  rw [← hFW3] at hw
  have k3_0 : W3 tb = some ((3, tt, 0), fw_obj 8 [.ref sl, .ref fr, .int cv]) := by rw [hFW3]; exact fw_up_tag k2_1 k2_0 (by intro z; cases z)
  have k3_1 : W3 sl = some ((13, tt, 0), fw_ls arr 3 sa) := by rw [hFW3]; exact fw_up_tag k2_2 k2_0 (by intro z; cases z)
  have k3_2 : W3 (sa 0) = some ((23, tt, 0), fw_obj 7 [.int (v1 0), .int (v2 0), .int (v3 0)]) := by rw [hFW3]; exact fw_up_tag k2_3 k2_0 (by intro z; cases z)
  have k3_3 : W3 (sa 1) = some ((23, tt, 1), fw_obj 7 [.int (v1 1), .int (v2 1), .int (v3 1)]) := by rw [hFW3]; exact fw_up_tag k2_4 k2_0 (by intro z; cases z)
  have k3_4 : W3 (sa 2) = some ((23, tt, 2), fw_obj 7 [.int (v1 2), .int (v2 2), .int (v3 2)]) := by rw [hFW3]; exact fw_up_tag k2_5 k2_0 (by intro z; cases z)
  have k3_5 : W3 q1 = some ((6, i, 0), fw_ls (fw_ea G) 0 (fun _ => 0)) := by rw [hFW3]; exact fw_up_tag k2_s k2_0 (by intro z; cases z)
  have k3_s : W3 b = some ((5, i, 0), fw_obj 6 [.null, .ref q1, .int (nI 0), .int (nI 0), .int (nI 0)]) := by rw [hFW3]; exact fw_up_self
  have hkp3 : fw_kp F W3 (fun w => w.2.1 = i ∧ (w.1 = 5 ∨ w.1 = 6 ∨ w.1 = 7)) := by rw [hFW3]; exact (hkp2).up k2_0 (by simp)
  refine lv_aload_n hx hb dX5_init_15 rfl (lv_at hl 0 rfl) ?_
  refine lv_iconst (v := (-1)) hx hb dX5_init_16 (by decide) ?_
  refine fw_put (v := .int (-1)) (fs' := [.null, .ref q1, .int (nI 0), .int (-1), .int (nI 0)]) hx hb hT fi_RX5 tyX5 tyX5_ok nmX5 hown hz hw k3_s rfl 3 (by decide) (hT _ wd_467) (fun _ h9 => h9) rfl (ty := tyX5 3) (by decide +kernel) rfl rfl (Nat.le_of_ble_eq_true rfl) rfl dX5_init_17 (fun H locs hw => ?_)
  obtain ⟨W4, hFW4⟩ : ∃ z, z = va_up W3 b (some ((5, i, 0), fw_obj 6 [.null, .ref q1, .int (nI 0), .int (-1), .int (nI 0)])) := ⟨_, rfl⟩
  rw [← hFW4] at hw
  have k4_0 : W4 tb = some ((3, tt, 0), fw_obj 8 [.ref sl, .ref fr, .int cv]) := by rw [hFW4]; exact fw_up_tag k3_0 k3_s (by intro z; cases z)
  have k4_1 : W4 sl = some ((13, tt, 0), fw_ls arr 3 sa) := by rw [hFW4]; exact fw_up_tag k3_1 k3_s (by intro z; cases z)
  have k4_2 : W4 (sa 0) = some ((23, tt, 0), fw_obj 7 [.int (v1 0), .int (v2 0), .int (v3 0)]) := by rw [hFW4]; exact fw_up_tag k3_2 k3_s (by intro z; cases z)
  have k4_3 : W4 (sa 1) = some ((23, tt, 1), fw_obj 7 [.int (v1 1), .int (v2 1), .int (v3 1)]) := by rw [hFW4]; exact fw_up_tag k3_3 k3_s (by intro z; cases z)
  have k4_4 : W4 (sa 2) = some ((23, tt, 2), fw_obj 7 [.int (v1 2), .int (v2 2), .int (v3 2)]) := by rw [hFW4]; exact fw_up_tag k3_4 k3_s (by intro z; cases z)
  have k4_5 : W4 q1 = some ((6, i, 0), fw_ls (fw_ea G) 0 (fun _ => 0)) := by rw [hFW4]; exact fw_up_tag k3_5 k3_s (by intro z; cases z)
  have k4_s : W4 b = some ((5, i, 0), fw_obj 6 [.null, .ref q1, .int (nI 0), .int (-1), .int (nI 0)]) := by rw [hFW4]; exact fw_up_self
  have hkp4 : fw_kp F W4 (fun w => w.2.1 = i ∧ (w.1 = 5 ∨ w.1 = 6 ∨ w.1 = 7)) := by rw [hFW4]; exact (hkp3).up k3_s (by simp)
  refine lv_aload_n hx hb dX5_init_20 rfl (lv_at hl 0 rfl) ?_
  refine lv_iconst (v := (nI 0)) hx hb dX5_init_21 (by decide) ?_
  refine fw_put (v := .int (nI 0)) (fs' := [.null, .ref q1, .int (nI 0), .int (-1), .int (nI 0)]) hx hb hT fi_RX5 tyX5 tyX5_ok nmX5 hown hz hw k4_s rfl 4 (by decide) (hT _ wd_469) (fun _ h9 => h9) rfl (ty := tyX5 4) (by decide +kernel) rfl rfl (Nat.le_of_ble_eq_true rfl) rfl dX5_init_22 (fun H locs hw => ?_)
  obtain ⟨W5, hFW5⟩ : ∃ z, z = va_up W4 b (some ((5, i, 0), fw_obj 6 [.null, .ref q1, .int (nI 0), .int (-1), .int (nI 0)])) := ⟨_, rfl⟩
  rw [← hFW5] at hw
  have k5_0 : W5 tb = some ((3, tt, 0), fw_obj 8 [.ref sl, .ref fr, .int cv]) := by rw [hFW5]; exact fw_up_tag k4_0 k4_s (by intro z; cases z)
  have k5_1 : W5 sl = some ((13, tt, 0), fw_ls arr 3 sa) := by rw [hFW5]; exact fw_up_tag k4_1 k4_s (by intro z; cases z)
  have k5_2 : W5 (sa 0) = some ((23, tt, 0), fw_obj 7 [.int (v1 0), .int (v2 0), .int (v3 0)]) := by rw [hFW5]; exact fw_up_tag k4_2 k4_s (by intro z; cases z)
  have k5_3 : W5 (sa 1) = some ((23, tt, 1), fw_obj 7 [.int (v1 1), .int (v2 1), .int (v3 1)]) := by rw [hFW5]; exact fw_up_tag k4_3 k4_s (by intro z; cases z)
  have k5_4 : W5 (sa 2) = some ((23, tt, 2), fw_obj 7 [.int (v1 2), .int (v2 2), .int (v3 2)]) := by rw [hFW5]; exact fw_up_tag k4_4 k4_s (by intro z; cases z)
  have k5_5 : W5 q1 = some ((6, i, 0), fw_ls (fw_ea G) 0 (fun _ => 0)) := by rw [hFW5]; exact fw_up_tag k4_5 k4_s (by intro z; cases z)
  have k5_s : W5 b = some ((5, i, 0), fw_obj 6 [.null, .ref q1, .int (nI 0), .int (-1), .int (nI 0)]) := by rw [hFW5]; exact fw_up_self
  have hkp5 : fw_kp F W5 (fun w => w.2.1 = i ∧ (w.1 = 5 ∨ w.1 = 6 ∨ w.1 = 7)) := by rw [hFW5]; exact (hkp4).up k4_s (by simp)
  refine lv_aload_n hx hb dX5_init_25 rfl (lv_at hl 0 rfl) ?_
  refine lv_aload_n hx hb dX5_init_26 rfl (lv_at hl 1 rfl) ?_
  refine fw_putF (v := .ref tb) (fs' := [.ref tb, .ref q1, .int (nI 0), .int (-1), .int (nI 0)]) hx hb hT fi_RX5 tyX5 tyX5_ok nmX5 hown hz hw k5_s rfl 0 (by decide) (hT _ wd_461) (fun _ h9 => h9) rfl (hin rfl) rfl (ty := tyX5 0) (by decide +kernel) rfl rfl (Nat.le_of_ble_eq_true rfl) rfl dX5_init_27 (fun H locs hw => ?_)
  obtain ⟨W6, hFW6⟩ : ∃ z, z = va_up W5 b (some ((5, i, 0), fw_obj 6 [.ref tb, .ref q1, .int (nI 0), .int (-1), .int (nI 0)])) := ⟨_, rfl⟩
  rw [← hFW6] at hw
  have k6_0 : W6 tb = some ((3, tt, 0), fw_obj 8 [.ref sl, .ref fr, .int cv]) := by rw [hFW6]; exact fw_up_tag k5_0 k5_s (by intro z; cases z)
  have k6_1 : W6 sl = some ((13, tt, 0), fw_ls arr 3 sa) := by rw [hFW6]; exact fw_up_tag k5_1 k5_s (by intro z; cases z)
  have k6_2 : W6 (sa 0) = some ((23, tt, 0), fw_obj 7 [.int (v1 0), .int (v2 0), .int (v3 0)]) := by rw [hFW6]; exact fw_up_tag k5_2 k5_s (by intro z; cases z)
  have k6_3 : W6 (sa 1) = some ((23, tt, 1), fw_obj 7 [.int (v1 1), .int (v2 1), .int (v3 1)]) := by rw [hFW6]; exact fw_up_tag k5_3 k5_s (by intro z; cases z)
  have k6_4 : W6 (sa 2) = some ((23, tt, 2), fw_obj 7 [.int (v1 2), .int (v2 2), .int (v3 2)]) := by rw [hFW6]; exact fw_up_tag k5_4 k5_s (by intro z; cases z)
  have k6_5 : W6 q1 = some ((6, i, 0), fw_ls (fw_ea G) 0 (fun _ => 0)) := by rw [hFW6]; exact fw_up_tag k5_5 k5_s (by intro z; cases z)
  have k6_s : W6 b = some ((5, i, 0), fw_obj 6 [.ref tb, .ref q1, .int (nI 0), .int (-1), .int (nI 0)]) := by rw [hFW6]; exact fw_up_self
  have hkp6 : fw_kp F W6 (fun w => w.2.1 = i ∧ (w.1 = 5 ∨ w.1 = 6 ∨ w.1 = 7)) := by rw [hFW6]; exact (hkp5).up k5_s (by simp)
  refine lv_iconst (v := (nI 0)) hx hb dX5_init_30 (by decide) ?_
  refine lv_istore_n (lv' := [(2, .int (nI 0)), (0, .ref b), (1, .ref tb)]) hx hb dX5_init_31 rfl hl (by decide) rfl (fun ls hl => ?_)
  refine lv_iload_n hx hb dX5_init_32 rfl (lv_at hl 0 rfl) ?_
  refine lv_aload_n hx hb dX5_init_33 rfl (lv_at hl 2 rfl) ?_
  refine fw_get (v := .ref sl) hx hb hT fi_RX7 hown hz hw k6_0 rfl 0 (by decide) (hT _ wd_83) (fun _ h9 => h9) rfl dX5_init_34 ?_
  refine fw_calli (fw_runV (As := []) (rest := [.int (nI 0)]) C hz hw (c_Jx4a65c_size_8abf5 l G _ _ sl arr 3 (13, tt, 0) sa k6_1) (fw_cwV hT wd_441 yVJx4a65c_size_8abf5 rfl rfl ⟨Nat.le_of_ble_eq_true rfl, Nat.le_of_ble_eq_true rfl⟩) (fw_recL hz hw k6_1) rfl hl.1 rfl (Nat.le_of_ble_eq_true rfl) dX5_init_37 ⟨Nat.le_of_ble_eq_true rfl, Nat.le_of_ble_eq_true rfl⟩) hw (fun r F1 H locs hw hp => ?_)
  obtain ⟨hp0, hp⟩ := hp
  rw [hp0] at hw
  refine W.widen (k := 1) (n := 3) (Nat.le_of_ble_eq_true rfl) (Nat.le_of_ble_eq_true rfl) ?_
  subst hp
  refine lv_icmp_ge (tgt := 75) hx hb dX5_init_40 (by decide) (fun cx => absurd cx (by decide)) (fun cx => ?_)
  refine lv_aload_n hx hb dX5_init_43 rfl (lv_at hl 1 rfl) ?_
  refine fw_get (v := .ref q1) hx hb hT fi_RX5 hown hz hw k6_s rfl 1 (by decide) (hT _ wd_463) (fun _ h9 => h9) rfl dX5_init_44 ?_
  refine fw_new (7, i, 0) (ci := 5) (fs := [.null, .int (nI 0)]) hx hb hT fi_RX4 tyX4 tyX4_ok hown (hT _ wd_442) (hT _ wd_443) (hT _ wd_23) hz hw hAn rfl (by intro j hj; rcases (show j = 0 ∨ j = 1 by omega) with rfl | rfl <;> rfl) (Nat.le_of_ble_eq_true rfl) (Nat.le_of_ble_eq_true rfl) dX5_init_47 (fun p0 H hqp0 hw => ?_)
  refine W.widen (k := 2) (n := 5) (Nat.le_of_ble_eq_true rfl) (Nat.le_of_ble_eq_true rfl) ?_
  obtain ⟨W7, hFW7⟩ : ∃ z, z = va_up W6 p0 (some ((7, i, 0), fw_obj 5 [.null, .int (nI 0)])) := ⟨_, rfl⟩
  rw [← hFW7] at hw
  have k7_0 : W7 tb = some ((3, tt, 0), fw_obj 8 [.ref sl, .ref fr, .int cv]) := by rw [hFW7]; exact fw_up_new k6_0 hqp0
  have k7_1 : W7 sl = some ((13, tt, 0), fw_ls arr 3 sa) := by rw [hFW7]; exact fw_up_new k6_1 hqp0
  have k7_2 : W7 (sa 0) = some ((23, tt, 0), fw_obj 7 [.int (v1 0), .int (v2 0), .int (v3 0)]) := by rw [hFW7]; exact fw_up_new k6_2 hqp0
  have k7_3 : W7 (sa 1) = some ((23, tt, 1), fw_obj 7 [.int (v1 1), .int (v2 1), .int (v3 1)]) := by rw [hFW7]; exact fw_up_new k6_3 hqp0
  have k7_4 : W7 (sa 2) = some ((23, tt, 2), fw_obj 7 [.int (v1 2), .int (v2 2), .int (v3 2)]) := by rw [hFW7]; exact fw_up_new k6_4 hqp0
  have k7_5 : W7 q1 = some ((6, i, 0), fw_ls (fw_ea G) 0 (fun _ => 0)) := by rw [hFW7]; exact fw_up_new k6_5 hqp0
  have k7_6 : W7 b = some ((5, i, 0), fw_obj 6 [.ref tb, .ref q1, .int (nI 0), .int (-1), .int (nI 0)]) := by rw [hFW7]; exact fw_up_new k6_s hqp0
  have k7_s : W7 p0 = some ((7, i, 0), fw_obj 5 [.null, .int (nI 0)]) := by rw [hFW7]; exact fw_up_self
  have hkp7 : fw_kp F W7 (fun w => w.2.1 = i ∧ (w.1 = 5 ∨ w.1 = 6 ∨ w.1 = 7)) := by rw [hFW7]; exact (hkp6).new hqp0
  refine lv_dup hx hb dX5_init_50 rfl ?_
  refine lv_aload_n hx hb dX5_init_51 rfl (lv_at hl 2 rfl) ?_
  refine fw_get (v := .ref sl) hx hb hT fi_RX7 hown hz hw k7_0 rfl 0 (by decide) (hT _ wd_83) (fun _ h9 => h9) rfl dX5_init_52 ?_
  refine lv_iload_n hx hb dX5_init_55 rfl (lv_at hl 0 rfl) ?_
  refine fw_callo (fw_runV (As := [.int (nI 0)]) (rest := [.ref p0, .ref p0, .ref q1]) C hz hw (c_Jx4a65c_get_915e3 l G _ _ sl arr 3 (13, tt, 0) sa 0 k7_1 (by decide) (by decide)) (fw_cwV hT wd_444 yVJx4a65c_get_915e3 rfl rfl ⟨Nat.le_of_ble_eq_true rfl, Nat.le_of_ble_eq_true rfl⟩) (fw_recL hz hw k7_1) rfl hl.1 rfl (Nat.le_of_ble_eq_true rfl) dX5_init_56 ⟨Nat.le_of_ble_eq_true rfl, Nat.le_of_ble_eq_true rfl⟩) hw (fun r F1 H locs hw hp => ?_)
  obtain ⟨hp0, hp⟩ := hp
  rw [hp0] at hw
  refine W.widen (k := 2) (n := 5) (Nat.le_of_ble_eq_true rfl) (Nat.le_of_ble_eq_true rfl) ?_
  subst hp
  refine fw_cast hx hb hown hz hw k7_2 (q := vwCl[7]) rfl (hT _ wd_445) dX5_init_59 ?_
  refine fw_callv (fw_runI (As := [.ref (sa 0)]) (rest := [.ref p0, .ref q1]) C hz hw (c_X4_init l G _ _ p0 (7, i, 0) (sa 0) k7_s) (fw_cwI hT wd_446 yIX4_init rfl rfl ⟨Nat.le_of_ble_eq_true rfl, Nat.le_of_ble_eq_true rfl⟩) rfl hl.1 rfl (Nat.le_of_ble_eq_true rfl) dX5_init_62 ⟨Nat.le_of_ble_eq_true rfl, Nat.le_of_ble_eq_true rfl⟩) hw (fun F1 H locs hw hp => ?_)
  refine W.widen (k := 2) (n := 5) (Nat.le_of_ble_eq_true rfl) (Nat.le_of_ble_eq_true rfl) ?_
  rw [hp] at hw
  obtain ⟨W8, hFW8⟩ : ∃ z, z = va_up W7 p0 (some ((7, i, 0), fw_obj 5 [.ref (sa 0), .int (nI 0)])) := ⟨_, rfl⟩
  rw [← hFW8] at hw
  have k8_0 : W8 tb = some ((3, tt, 0), fw_obj 8 [.ref sl, .ref fr, .int cv]) := by rw [hFW8]; exact fw_up_tag k7_0 k7_s (by intro z; cases z)
  have k8_1 : W8 sl = some ((13, tt, 0), fw_ls arr 3 sa) := by rw [hFW8]; exact fw_up_tag k7_1 k7_s (by intro z; cases z)
  have k8_2 : W8 (sa 0) = some ((23, tt, 0), fw_obj 7 [.int (v1 0), .int (v2 0), .int (v3 0)]) := by rw [hFW8]; exact fw_up_tag k7_2 k7_s (by intro z; cases z)
  have k8_3 : W8 (sa 1) = some ((23, tt, 1), fw_obj 7 [.int (v1 1), .int (v2 1), .int (v3 1)]) := by rw [hFW8]; exact fw_up_tag k7_3 k7_s (by intro z; cases z)
  have k8_4 : W8 (sa 2) = some ((23, tt, 2), fw_obj 7 [.int (v1 2), .int (v2 2), .int (v3 2)]) := by rw [hFW8]; exact fw_up_tag k7_4 k7_s (by intro z; cases z)
  have k8_5 : W8 q1 = some ((6, i, 0), fw_ls (fw_ea G) 0 (fun _ => 0)) := by rw [hFW8]; exact fw_up_tag k7_5 k7_s (by intro z; cases z)
  have k8_6 : W8 b = some ((5, i, 0), fw_obj 6 [.ref tb, .ref q1, .int (nI 0), .int (-1), .int (nI 0)]) := by rw [hFW8]; exact fw_up_tag k7_6 k7_s (by intro z; cases z)
  have k8_s : W8 p0 = some ((7, i, 0), fw_obj 5 [.ref (sa 0), .int (nI 0)]) := by rw [hFW8]; exact fw_up_self
  have hkp8 : fw_kp F W8 (fun w => w.2.1 = i ∧ (w.1 = 5 ∨ w.1 = 6 ∨ w.1 = 7)) := by rw [hFW8]; exact (hkp7).up k7_s (by simp)
  refine fw_calli (fw_runV (As := [.ref p0]) (rest := []) C hz hw (c_Jx4a65c_add_9ea2d l G _ _ q1 (fw_ea G) 0 (6, i, 0) (fun _ => 0) p0 5 (7, i, 0) _ (show 6 < 900 by decide) k8_5 (by decide) k8_s) (fw_cwV hT wd_460 yVJx4a65c_add_9ea2d rfl rfl ⟨Nat.le_of_ble_eq_true rfl, Nat.le_of_ble_eq_true rfl⟩) (fw_recL hz hw k8_5) rfl hl.1 rfl (Nat.le_of_ble_eq_true rfl) dX5_init_65 ⟨Nat.le_of_ble_eq_true rfl, Nat.le_of_ble_eq_true rfl⟩) hw (fun r F1 H locs hw hp => ?_)
  refine W.widen (k := 3) (n := 245) (Nat.le_of_ble_eq_true rfl) (Nat.le_of_ble_eq_true rfl) ?_
  obtain ⟨rfl, r0, hp⟩ := hp
  rw [hp] at hw
  obtain ⟨W9, hFW9⟩ : ∃ z, z = va_up W8 q1 (some ((6, i, 0), fw_ls r0 1 (va_up (fun _ => 0) 0 p0))) := ⟨_, rfl⟩
  rw [← hFW9] at hw
  have k9_0 : W9 tb = some ((3, tt, 0), fw_obj 8 [.ref sl, .ref fr, .int cv]) := by rw [hFW9]; exact fw_up_tag k8_0 k8_5 (by intro z; cases z)
  have k9_1 : W9 sl = some ((13, tt, 0), fw_ls arr 3 sa) := by rw [hFW9]; exact fw_up_tag k8_1 k8_5 (by intro z; cases z)
  have k9_2 : W9 (sa 0) = some ((23, tt, 0), fw_obj 7 [.int (v1 0), .int (v2 0), .int (v3 0)]) := by rw [hFW9]; exact fw_up_tag k8_2 k8_5 (by intro z; cases z)
  have k9_3 : W9 (sa 1) = some ((23, tt, 1), fw_obj 7 [.int (v1 1), .int (v2 1), .int (v3 1)]) := by rw [hFW9]; exact fw_up_tag k8_3 k8_5 (by intro z; cases z)
  have k9_4 : W9 (sa 2) = some ((23, tt, 2), fw_obj 7 [.int (v1 2), .int (v2 2), .int (v3 2)]) := by rw [hFW9]; exact fw_up_tag k8_4 k8_5 (by intro z; cases z)
  have k9_5 : W9 b = some ((5, i, 0), fw_obj 6 [.ref tb, .ref q1, .int (nI 0), .int (-1), .int (nI 0)]) := by rw [hFW9]; exact fw_up_tag k8_6 k8_5 (by intro z; cases z)
  have k9_6 : W9 p0 = some ((7, i, 0), fw_obj 5 [.ref (sa 0), .int (nI 0)]) := by rw [hFW9]; exact fw_up_tag k8_s k8_5 (by intro z; cases z)
  have k9_s : W9 q1 = some ((6, i, 0), fw_ls r0 1 (va_up (fun _ => 0) 0 p0)) := by rw [hFW9]; exact fw_up_self
  have hkp9 : fw_kp F W9 (fun w => w.2.1 = i ∧ (w.1 = 5 ∨ w.1 = 6 ∨ w.1 = 7)) := by rw [hFW9]; exact (hkp8).up k8_5 (by simp)
  refine lv_pop hx hb dX5_init_68 rfl ?_
  refine lv_iinc (v := (nI (0 + 1))) (lv' := [(2, .int (nI (0 + 1))), (0, .ref b), (1, .ref tb)]) hx hb dX5_init_69 hl (k := 0) rfl (nI_1 _) (by decide) rfl (fun ls hl => ?_)
  refine lv_goto (tgt := 32) hx hb dX5_init_72 (by decide) ?_
  refine lv_iload_n hx hb dX5_init_32 rfl (lv_at hl 0 rfl) ?_
  refine lv_aload_n hx hb dX5_init_33 rfl (lv_at hl 2 rfl) ?_
  refine fw_get (v := .ref sl) hx hb hT fi_RX7 hown hz hw k9_0 rfl 0 (by decide) (hT _ wd_83) (fun _ h9 => h9) rfl dX5_init_34 ?_
  refine fw_calli (fw_runV (As := []) (rest := [.int (nI (0 + 1))]) C hz hw (c_Jx4a65c_size_8abf5 l G _ _ sl arr 3 (13, tt, 0) sa k9_1) (fw_cwV hT wd_441 yVJx4a65c_size_8abf5 rfl rfl ⟨Nat.le_of_ble_eq_true rfl, Nat.le_of_ble_eq_true rfl⟩) (fw_recL hz hw k9_1) rfl hl.1 rfl (Nat.le_of_ble_eq_true rfl) dX5_init_37 ⟨Nat.le_of_ble_eq_true rfl, Nat.le_of_ble_eq_true rfl⟩) hw (fun r F1 H locs hw hp => ?_)
  obtain ⟨hp0, hp⟩ := hp
  rw [hp0] at hw
  refine W.widen (k := 3) (n := 245) (Nat.le_of_ble_eq_true rfl) (Nat.le_of_ble_eq_true rfl) ?_
  subst hp
  refine lv_icmp_ge (tgt := 75) hx hb dX5_init_40 (by decide) (fun cx => absurd cx (by decide)) (fun cx => ?_)
  refine lv_aload_n hx hb dX5_init_43 rfl (lv_at hl 1 rfl) ?_
  refine fw_get (v := .ref q1) hx hb hT fi_RX5 hown hz hw k9_5 rfl 1 (by decide) (hT _ wd_463) (fun _ h9 => h9) rfl dX5_init_44 ?_
  refine fw_new (7, i, 1) (ci := 5) (fs := [.null, .int (nI 0)]) hx hb hT fi_RX4 tyX4 tyX4_ok hown (hT _ wd_442) (hT _ wd_443) (hT _ wd_23) hz hw hAn rfl (by intro j hj; rcases (show j = 0 ∨ j = 1 by omega) with rfl | rfl <;> rfl) (Nat.le_of_ble_eq_true rfl) (Nat.le_of_ble_eq_true rfl) dX5_init_47 (fun p1 H hqp1 hw => ?_)
  refine W.widen (k := 4) (n := 247) (Nat.le_of_ble_eq_true rfl) (Nat.le_of_ble_eq_true rfl) ?_
  obtain ⟨W10, hFW10⟩ : ∃ z, z = va_up W9 p1 (some ((7, i, 1), fw_obj 5 [.null, .int (nI 0)])) := ⟨_, rfl⟩
  rw [← hFW10] at hw
  have k10_0 : W10 tb = some ((3, tt, 0), fw_obj 8 [.ref sl, .ref fr, .int cv]) := by rw [hFW10]; exact fw_up_new k9_0 hqp1
  have k10_1 : W10 sl = some ((13, tt, 0), fw_ls arr 3 sa) := by rw [hFW10]; exact fw_up_new k9_1 hqp1
  have k10_2 : W10 (sa 0) = some ((23, tt, 0), fw_obj 7 [.int (v1 0), .int (v2 0), .int (v3 0)]) := by rw [hFW10]; exact fw_up_new k9_2 hqp1
  have k10_3 : W10 (sa 1) = some ((23, tt, 1), fw_obj 7 [.int (v1 1), .int (v2 1), .int (v3 1)]) := by rw [hFW10]; exact fw_up_new k9_3 hqp1
  have k10_4 : W10 (sa 2) = some ((23, tt, 2), fw_obj 7 [.int (v1 2), .int (v2 2), .int (v3 2)]) := by rw [hFW10]; exact fw_up_new k9_4 hqp1
  have k10_5 : W10 b = some ((5, i, 0), fw_obj 6 [.ref tb, .ref q1, .int (nI 0), .int (-1), .int (nI 0)]) := by rw [hFW10]; exact fw_up_new k9_5 hqp1
  have k10_6 : W10 p0 = some ((7, i, 0), fw_obj 5 [.ref (sa 0), .int (nI 0)]) := by rw [hFW10]; exact fw_up_new k9_6 hqp1
  have k10_7 : W10 q1 = some ((6, i, 0), fw_ls r0 1 (va_up (fun _ => 0) 0 p0)) := by rw [hFW10]; exact fw_up_new k9_s hqp1
  have k10_s : W10 p1 = some ((7, i, 1), fw_obj 5 [.null, .int (nI 0)]) := by rw [hFW10]; exact fw_up_self
  have hkp10 : fw_kp F W10 (fun w => w.2.1 = i ∧ (w.1 = 5 ∨ w.1 = 6 ∨ w.1 = 7)) := by rw [hFW10]; exact (hkp9).new hqp1
  refine lv_dup hx hb dX5_init_50 rfl ?_
  refine lv_aload_n hx hb dX5_init_51 rfl (lv_at hl 2 rfl) ?_
  refine fw_get (v := .ref sl) hx hb hT fi_RX7 hown hz hw k10_0 rfl 0 (by decide) (hT _ wd_83) (fun _ h9 => h9) rfl dX5_init_52 ?_
  refine lv_iload_n hx hb dX5_init_55 rfl (lv_at hl 0 rfl) ?_
  refine fw_callo (fw_runV (As := [.int (nI (0 + 1))]) (rest := [.ref p1, .ref p1, .ref q1]) C hz hw (c_Jx4a65c_get_915e3 l G _ _ sl arr 3 (13, tt, 0) sa 1 k10_1 (by decide) (by decide)) (fw_cwV hT wd_444 yVJx4a65c_get_915e3 rfl rfl ⟨Nat.le_of_ble_eq_true rfl, Nat.le_of_ble_eq_true rfl⟩) (fw_recL hz hw k10_1) rfl hl.1 rfl (Nat.le_of_ble_eq_true rfl) dX5_init_56 ⟨Nat.le_of_ble_eq_true rfl, Nat.le_of_ble_eq_true rfl⟩) hw (fun r F1 H locs hw hp => ?_)
  obtain ⟨hp0, hp⟩ := hp
  rw [hp0] at hw
  refine W.widen (k := 4) (n := 247) (Nat.le_of_ble_eq_true rfl) (Nat.le_of_ble_eq_true rfl) ?_
  subst hp
  refine fw_cast hx hb hown hz hw k10_3 (q := vwCl[7]) rfl (hT _ wd_445) dX5_init_59 ?_
  refine fw_callv (fw_runI (As := [.ref (sa 1)]) (rest := [.ref p1, .ref q1]) C hz hw (c_X4_init l G _ _ p1 (7, i, 1) (sa 1) k10_s) (fw_cwI hT wd_446 yIX4_init rfl rfl ⟨Nat.le_of_ble_eq_true rfl, Nat.le_of_ble_eq_true rfl⟩) rfl hl.1 rfl (Nat.le_of_ble_eq_true rfl) dX5_init_62 ⟨Nat.le_of_ble_eq_true rfl, Nat.le_of_ble_eq_true rfl⟩) hw (fun F1 H locs hw hp => ?_)
  refine W.widen (k := 4) (n := 247) (Nat.le_of_ble_eq_true rfl) (Nat.le_of_ble_eq_true rfl) ?_
  rw [hp] at hw
  obtain ⟨W11, hFW11⟩ : ∃ z, z = va_up W10 p1 (some ((7, i, 1), fw_obj 5 [.ref (sa 1), .int (nI 0)])) := ⟨_, rfl⟩
  rw [← hFW11] at hw
  have k11_0 : W11 tb = some ((3, tt, 0), fw_obj 8 [.ref sl, .ref fr, .int cv]) := by rw [hFW11]; exact fw_up_tag k10_0 k10_s (by intro z; cases z)
  have k11_1 : W11 sl = some ((13, tt, 0), fw_ls arr 3 sa) := by rw [hFW11]; exact fw_up_tag k10_1 k10_s (by intro z; cases z)
  have k11_2 : W11 (sa 0) = some ((23, tt, 0), fw_obj 7 [.int (v1 0), .int (v2 0), .int (v3 0)]) := by rw [hFW11]; exact fw_up_tag k10_2 k10_s (by intro z; cases z)
  have k11_3 : W11 (sa 1) = some ((23, tt, 1), fw_obj 7 [.int (v1 1), .int (v2 1), .int (v3 1)]) := by rw [hFW11]; exact fw_up_tag k10_3 k10_s (by intro z; cases z)
  have k11_4 : W11 (sa 2) = some ((23, tt, 2), fw_obj 7 [.int (v1 2), .int (v2 2), .int (v3 2)]) := by rw [hFW11]; exact fw_up_tag k10_4 k10_s (by intro z; cases z)
  have k11_5 : W11 b = some ((5, i, 0), fw_obj 6 [.ref tb, .ref q1, .int (nI 0), .int (-1), .int (nI 0)]) := by rw [hFW11]; exact fw_up_tag k10_5 k10_s (by intro z; cases z)
  have k11_6 : W11 p0 = some ((7, i, 0), fw_obj 5 [.ref (sa 0), .int (nI 0)]) := by rw [hFW11]; exact fw_up_tag k10_6 k10_s (by intro z; cases z)
  have k11_7 : W11 q1 = some ((6, i, 0), fw_ls r0 1 (va_up (fun _ => 0) 0 p0)) := by rw [hFW11]; exact fw_up_tag k10_7 k10_s (by intro z; cases z)
  have k11_s : W11 p1 = some ((7, i, 1), fw_obj 5 [.ref (sa 1), .int (nI 0)]) := by rw [hFW11]; exact fw_up_self
  have hkp11 : fw_kp F W11 (fun w => w.2.1 = i ∧ (w.1 = 5 ∨ w.1 = 6 ∨ w.1 = 7)) := by rw [hFW11]; exact (hkp10).up k10_s (by simp)
  refine fw_calli (fw_runV (As := [.ref p1]) (rest := []) C hz hw (c_Jx4a65c_add_9ea2d l G _ _ q1 r0 1 (6, i, 0) (va_up (fun _ => 0) 0 p0) p1 5 (7, i, 1) _ (show 6 < 900 by decide) k11_7 (by decide) k11_s) (fw_cwV hT wd_460 yVJx4a65c_add_9ea2d rfl rfl ⟨Nat.le_of_ble_eq_true rfl, Nat.le_of_ble_eq_true rfl⟩) (fw_recL hz hw k11_7) rfl hl.1 rfl (Nat.le_of_ble_eq_true rfl) dX5_init_65 ⟨Nat.le_of_ble_eq_true rfl, Nat.le_of_ble_eq_true rfl⟩) hw (fun r F1 H locs hw hp => ?_)
  refine W.widen (k := 5) (n := 487) (Nat.le_of_ble_eq_true rfl) (Nat.le_of_ble_eq_true rfl) ?_
  obtain ⟨rfl, r1, hp⟩ := hp
  rw [hp] at hw
  obtain ⟨W12, hFW12⟩ : ∃ z, z = va_up W11 q1 (some ((6, i, 0), fw_ls r1 2 (va_up (va_up (fun _ => 0) 0 p0) 1 p1))) := ⟨_, rfl⟩
  rw [← hFW12] at hw
  have k12_0 : W12 tb = some ((3, tt, 0), fw_obj 8 [.ref sl, .ref fr, .int cv]) := by rw [hFW12]; exact fw_up_tag k11_0 k11_7 (by intro z; cases z)
  have k12_1 : W12 sl = some ((13, tt, 0), fw_ls arr 3 sa) := by rw [hFW12]; exact fw_up_tag k11_1 k11_7 (by intro z; cases z)
  have k12_2 : W12 (sa 0) = some ((23, tt, 0), fw_obj 7 [.int (v1 0), .int (v2 0), .int (v3 0)]) := by rw [hFW12]; exact fw_up_tag k11_2 k11_7 (by intro z; cases z)
  have k12_3 : W12 (sa 1) = some ((23, tt, 1), fw_obj 7 [.int (v1 1), .int (v2 1), .int (v3 1)]) := by rw [hFW12]; exact fw_up_tag k11_3 k11_7 (by intro z; cases z)
  have k12_4 : W12 (sa 2) = some ((23, tt, 2), fw_obj 7 [.int (v1 2), .int (v2 2), .int (v3 2)]) := by rw [hFW12]; exact fw_up_tag k11_4 k11_7 (by intro z; cases z)
  have k12_5 : W12 b = some ((5, i, 0), fw_obj 6 [.ref tb, .ref q1, .int (nI 0), .int (-1), .int (nI 0)]) := by rw [hFW12]; exact fw_up_tag k11_5 k11_7 (by intro z; cases z)
  have k12_6 : W12 p0 = some ((7, i, 0), fw_obj 5 [.ref (sa 0), .int (nI 0)]) := by rw [hFW12]; exact fw_up_tag k11_6 k11_7 (by intro z; cases z)
  have k12_7 : W12 p1 = some ((7, i, 1), fw_obj 5 [.ref (sa 1), .int (nI 0)]) := by rw [hFW12]; exact fw_up_tag k11_s k11_7 (by intro z; cases z)
  have k12_s : W12 q1 = some ((6, i, 0), fw_ls r1 2 (va_up (va_up (fun _ => 0) 0 p0) 1 p1)) := by rw [hFW12]; exact fw_up_self
  have hkp12 : fw_kp F W12 (fun w => w.2.1 = i ∧ (w.1 = 5 ∨ w.1 = 6 ∨ w.1 = 7)) := by rw [hFW12]; exact (hkp11).up k11_7 (by simp)
  refine lv_pop hx hb dX5_init_68 rfl ?_
  refine lv_iinc (v := (nI (0 + 1 + 1))) (lv' := [(2, .int (nI (0 + 1 + 1))), (0, .ref b), (1, .ref tb)]) hx hb dX5_init_69 hl (k := 0) rfl (nI_1 _) (by decide) rfl (fun ls hl => ?_)
  refine lv_goto (tgt := 32) hx hb dX5_init_72 (by decide) ?_
  refine lv_iload_n hx hb dX5_init_32 rfl (lv_at hl 0 rfl) ?_
  refine lv_aload_n hx hb dX5_init_33 rfl (lv_at hl 2 rfl) ?_
  refine fw_get (v := .ref sl) hx hb hT fi_RX7 hown hz hw k12_0 rfl 0 (by decide) (hT _ wd_83) (fun _ h9 => h9) rfl dX5_init_34 ?_
  refine fw_calli (fw_runV (As := []) (rest := [.int (nI (0 + 1 + 1))]) C hz hw (c_Jx4a65c_size_8abf5 l G _ _ sl arr 3 (13, tt, 0) sa k12_1) (fw_cwV hT wd_441 yVJx4a65c_size_8abf5 rfl rfl ⟨Nat.le_of_ble_eq_true rfl, Nat.le_of_ble_eq_true rfl⟩) (fw_recL hz hw k12_1) rfl hl.1 rfl (Nat.le_of_ble_eq_true rfl) dX5_init_37 ⟨Nat.le_of_ble_eq_true rfl, Nat.le_of_ble_eq_true rfl⟩) hw (fun r F1 H locs hw hp => ?_)
  obtain ⟨hp0, hp⟩ := hp
  rw [hp0] at hw
  refine W.widen (k := 5) (n := 487) (Nat.le_of_ble_eq_true rfl) (Nat.le_of_ble_eq_true rfl) ?_
  subst hp
  refine lv_icmp_ge (tgt := 75) hx hb dX5_init_40 (by decide) (fun cx => absurd cx (by decide)) (fun cx => ?_)
  refine lv_aload_n hx hb dX5_init_43 rfl (lv_at hl 1 rfl) ?_
  refine fw_get (v := .ref q1) hx hb hT fi_RX5 hown hz hw k12_5 rfl 1 (by decide) (hT _ wd_463) (fun _ h9 => h9) rfl dX5_init_44 ?_
  refine fw_new (7, i, 2) (ci := 5) (fs := [.null, .int (nI 0)]) hx hb hT fi_RX4 tyX4 tyX4_ok hown (hT _ wd_442) (hT _ wd_443) (hT _ wd_23) hz hw hAn rfl (by intro j hj; rcases (show j = 0 ∨ j = 1 by omega) with rfl | rfl <;> rfl) (Nat.le_of_ble_eq_true rfl) (Nat.le_of_ble_eq_true rfl) dX5_init_47 (fun p2 H hqp2 hw => ?_)
  refine W.widen (k := 6) (n := 489) (Nat.le_of_ble_eq_true rfl) (Nat.le_of_ble_eq_true rfl) ?_
  obtain ⟨W13, hFW13⟩ : ∃ z, z = va_up W12 p2 (some ((7, i, 2), fw_obj 5 [.null, .int (nI 0)])) := ⟨_, rfl⟩
  rw [← hFW13] at hw
  have k13_0 : W13 tb = some ((3, tt, 0), fw_obj 8 [.ref sl, .ref fr, .int cv]) := by rw [hFW13]; exact fw_up_new k12_0 hqp2
  have k13_1 : W13 sl = some ((13, tt, 0), fw_ls arr 3 sa) := by rw [hFW13]; exact fw_up_new k12_1 hqp2
  have k13_2 : W13 (sa 0) = some ((23, tt, 0), fw_obj 7 [.int (v1 0), .int (v2 0), .int (v3 0)]) := by rw [hFW13]; exact fw_up_new k12_2 hqp2
  have k13_3 : W13 (sa 1) = some ((23, tt, 1), fw_obj 7 [.int (v1 1), .int (v2 1), .int (v3 1)]) := by rw [hFW13]; exact fw_up_new k12_3 hqp2
  have k13_4 : W13 (sa 2) = some ((23, tt, 2), fw_obj 7 [.int (v1 2), .int (v2 2), .int (v3 2)]) := by rw [hFW13]; exact fw_up_new k12_4 hqp2
  have k13_5 : W13 b = some ((5, i, 0), fw_obj 6 [.ref tb, .ref q1, .int (nI 0), .int (-1), .int (nI 0)]) := by rw [hFW13]; exact fw_up_new k12_5 hqp2
  have k13_6 : W13 p0 = some ((7, i, 0), fw_obj 5 [.ref (sa 0), .int (nI 0)]) := by rw [hFW13]; exact fw_up_new k12_6 hqp2
  have k13_7 : W13 p1 = some ((7, i, 1), fw_obj 5 [.ref (sa 1), .int (nI 0)]) := by rw [hFW13]; exact fw_up_new k12_7 hqp2
  have k13_8 : W13 q1 = some ((6, i, 0), fw_ls r1 2 (va_up (va_up (fun _ => 0) 0 p0) 1 p1)) := by rw [hFW13]; exact fw_up_new k12_s hqp2
  have k13_s : W13 p2 = some ((7, i, 2), fw_obj 5 [.null, .int (nI 0)]) := by rw [hFW13]; exact fw_up_self
  have hkp13 : fw_kp F W13 (fun w => w.2.1 = i ∧ (w.1 = 5 ∨ w.1 = 6 ∨ w.1 = 7)) := by rw [hFW13]; exact (hkp12).new hqp2
  refine lv_dup hx hb dX5_init_50 rfl ?_
  refine lv_aload_n hx hb dX5_init_51 rfl (lv_at hl 2 rfl) ?_
  refine fw_get (v := .ref sl) hx hb hT fi_RX7 hown hz hw k13_0 rfl 0 (by decide) (hT _ wd_83) (fun _ h9 => h9) rfl dX5_init_52 ?_
  refine lv_iload_n hx hb dX5_init_55 rfl (lv_at hl 0 rfl) ?_
  refine fw_callo (fw_runV (As := [.int (nI (0 + 1 + 1))]) (rest := [.ref p2, .ref p2, .ref q1]) C hz hw (c_Jx4a65c_get_915e3 l G _ _ sl arr 3 (13, tt, 0) sa 2 k13_1 (by decide) (by decide)) (fw_cwV hT wd_444 yVJx4a65c_get_915e3 rfl rfl ⟨Nat.le_of_ble_eq_true rfl, Nat.le_of_ble_eq_true rfl⟩) (fw_recL hz hw k13_1) rfl hl.1 rfl (Nat.le_of_ble_eq_true rfl) dX5_init_56 ⟨Nat.le_of_ble_eq_true rfl, Nat.le_of_ble_eq_true rfl⟩) hw (fun r F1 H locs hw hp => ?_)
  obtain ⟨hp0, hp⟩ := hp
  rw [hp0] at hw
  refine W.widen (k := 6) (n := 489) (Nat.le_of_ble_eq_true rfl) (Nat.le_of_ble_eq_true rfl) ?_
  subst hp
  refine fw_cast hx hb hown hz hw k13_4 (q := vwCl[7]) rfl (hT _ wd_445) dX5_init_59 ?_
  refine fw_callv (fw_runI (As := [.ref (sa 2)]) (rest := [.ref p2, .ref q1]) C hz hw (c_X4_init l G _ _ p2 (7, i, 2) (sa 2) k13_s) (fw_cwI hT wd_446 yIX4_init rfl rfl ⟨Nat.le_of_ble_eq_true rfl, Nat.le_of_ble_eq_true rfl⟩) rfl hl.1 rfl (Nat.le_of_ble_eq_true rfl) dX5_init_62 ⟨Nat.le_of_ble_eq_true rfl, Nat.le_of_ble_eq_true rfl⟩) hw (fun F1 H locs hw hp => ?_)
  refine W.widen (k := 6) (n := 489) (Nat.le_of_ble_eq_true rfl) (Nat.le_of_ble_eq_true rfl) ?_
  rw [hp] at hw
  obtain ⟨W14, hFW14⟩ : ∃ z, z = va_up W13 p2 (some ((7, i, 2), fw_obj 5 [.ref (sa 2), .int (nI 0)])) := ⟨_, rfl⟩
  rw [← hFW14] at hw
  have k14_0 : W14 tb = some ((3, tt, 0), fw_obj 8 [.ref sl, .ref fr, .int cv]) := by rw [hFW14]; exact fw_up_tag k13_0 k13_s (by intro z; cases z)
  have k14_1 : W14 sl = some ((13, tt, 0), fw_ls arr 3 sa) := by rw [hFW14]; exact fw_up_tag k13_1 k13_s (by intro z; cases z)
  have k14_2 : W14 (sa 0) = some ((23, tt, 0), fw_obj 7 [.int (v1 0), .int (v2 0), .int (v3 0)]) := by rw [hFW14]; exact fw_up_tag k13_2 k13_s (by intro z; cases z)
  have k14_3 : W14 (sa 1) = some ((23, tt, 1), fw_obj 7 [.int (v1 1), .int (v2 1), .int (v3 1)]) := by rw [hFW14]; exact fw_up_tag k13_3 k13_s (by intro z; cases z)
  have k14_4 : W14 (sa 2) = some ((23, tt, 2), fw_obj 7 [.int (v1 2), .int (v2 2), .int (v3 2)]) := by rw [hFW14]; exact fw_up_tag k13_4 k13_s (by intro z; cases z)
  have k14_5 : W14 b = some ((5, i, 0), fw_obj 6 [.ref tb, .ref q1, .int (nI 0), .int (-1), .int (nI 0)]) := by rw [hFW14]; exact fw_up_tag k13_5 k13_s (by intro z; cases z)
  have k14_6 : W14 p0 = some ((7, i, 0), fw_obj 5 [.ref (sa 0), .int (nI 0)]) := by rw [hFW14]; exact fw_up_tag k13_6 k13_s (by intro z; cases z)
  have k14_7 : W14 p1 = some ((7, i, 1), fw_obj 5 [.ref (sa 1), .int (nI 0)]) := by rw [hFW14]; exact fw_up_tag k13_7 k13_s (by intro z; cases z)
  have k14_8 : W14 q1 = some ((6, i, 0), fw_ls r1 2 (va_up (va_up (fun _ => 0) 0 p0) 1 p1)) := by rw [hFW14]; exact fw_up_tag k13_8 k13_s (by intro z; cases z)
  have k14_s : W14 p2 = some ((7, i, 2), fw_obj 5 [.ref (sa 2), .int (nI 0)]) := by rw [hFW14]; exact fw_up_self
  have hkp14 : fw_kp F W14 (fun w => w.2.1 = i ∧ (w.1 = 5 ∨ w.1 = 6 ∨ w.1 = 7)) := by rw [hFW14]; exact (hkp13).up k13_s (by simp)
  refine fw_calli (fw_runV (As := [.ref p2]) (rest := []) C hz hw (c_Jx4a65c_add_9ea2d l G _ _ q1 r1 2 (6, i, 0) (va_up (va_up (fun _ => 0) 0 p0) 1 p1) p2 5 (7, i, 2) _ (show 6 < 900 by decide) k14_8 (by decide) k14_s) (fw_cwV hT wd_460 yVJx4a65c_add_9ea2d rfl rfl ⟨Nat.le_of_ble_eq_true rfl, Nat.le_of_ble_eq_true rfl⟩) (fw_recL hz hw k14_8) rfl hl.1 rfl (Nat.le_of_ble_eq_true rfl) dX5_init_65 ⟨Nat.le_of_ble_eq_true rfl, Nat.le_of_ble_eq_true rfl⟩) hw (fun r F1 H locs hw hp => ?_)
  refine W.widen (k := 7) (n := 729) (Nat.le_of_ble_eq_true rfl) (Nat.le_of_ble_eq_true rfl) ?_
  obtain ⟨rfl, r2, hp⟩ := hp
  rw [hp] at hw
  obtain ⟨W15, hFW15⟩ : ∃ z, z = va_up W14 q1 (some ((6, i, 0), fw_ls r2 3 (va_up (va_up (va_up (fun _ => 0) 0 p0) 1 p1) 2 p2))) := ⟨_, rfl⟩
  rw [← hFW15] at hw
  have k15_0 : W15 tb = some ((3, tt, 0), fw_obj 8 [.ref sl, .ref fr, .int cv]) := by rw [hFW15]; exact fw_up_tag k14_0 k14_8 (by intro z; cases z)
  have k15_1 : W15 sl = some ((13, tt, 0), fw_ls arr 3 sa) := by rw [hFW15]; exact fw_up_tag k14_1 k14_8 (by intro z; cases z)
  have k15_2 : W15 (sa 0) = some ((23, tt, 0), fw_obj 7 [.int (v1 0), .int (v2 0), .int (v3 0)]) := by rw [hFW15]; exact fw_up_tag k14_2 k14_8 (by intro z; cases z)
  have k15_3 : W15 (sa 1) = some ((23, tt, 1), fw_obj 7 [.int (v1 1), .int (v2 1), .int (v3 1)]) := by rw [hFW15]; exact fw_up_tag k14_3 k14_8 (by intro z; cases z)
  have k15_4 : W15 (sa 2) = some ((23, tt, 2), fw_obj 7 [.int (v1 2), .int (v2 2), .int (v3 2)]) := by rw [hFW15]; exact fw_up_tag k14_4 k14_8 (by intro z; cases z)
  have k15_5 : W15 b = some ((5, i, 0), fw_obj 6 [.ref tb, .ref q1, .int (nI 0), .int (-1), .int (nI 0)]) := by rw [hFW15]; exact fw_up_tag k14_5 k14_8 (by intro z; cases z)
  have k15_6 : W15 p0 = some ((7, i, 0), fw_obj 5 [.ref (sa 0), .int (nI 0)]) := by rw [hFW15]; exact fw_up_tag k14_6 k14_8 (by intro z; cases z)
  have k15_7 : W15 p1 = some ((7, i, 1), fw_obj 5 [.ref (sa 1), .int (nI 0)]) := by rw [hFW15]; exact fw_up_tag k14_7 k14_8 (by intro z; cases z)
  have k15_8 : W15 p2 = some ((7, i, 2), fw_obj 5 [.ref (sa 2), .int (nI 0)]) := by rw [hFW15]; exact fw_up_tag k14_s k14_8 (by intro z; cases z)
  have k15_s : W15 q1 = some ((6, i, 0), fw_ls r2 3 (va_up (va_up (va_up (fun _ => 0) 0 p0) 1 p1) 2 p2)) := by rw [hFW15]; exact fw_up_self
  have hkp15 : fw_kp F W15 (fun w => w.2.1 = i ∧ (w.1 = 5 ∨ w.1 = 6 ∨ w.1 = 7)) := by rw [hFW15]; exact (hkp14).up k14_8 (by simp)
  refine lv_pop hx hb dX5_init_68 rfl ?_
  refine lv_iinc (v := (nI (0 + 1 + 1 + 1))) (lv' := [(2, .int (nI (0 + 1 + 1 + 1))), (0, .ref b), (1, .ref tb)]) hx hb dX5_init_69 hl (k := 0) rfl (nI_1 _) (by decide) rfl (fun ls hl => ?_)
  refine lv_goto (tgt := 32) hx hb dX5_init_72 (by decide) ?_
  refine lv_iload_n hx hb dX5_init_32 rfl (lv_at hl 0 rfl) ?_
  refine lv_aload_n hx hb dX5_init_33 rfl (lv_at hl 2 rfl) ?_
  refine fw_get (v := .ref sl) hx hb hT fi_RX7 hown hz hw k15_0 rfl 0 (by decide) (hT _ wd_83) (fun _ h9 => h9) rfl dX5_init_34 ?_
  refine fw_calli (fw_runV (As := []) (rest := [.int (nI (0 + 1 + 1 + 1))]) C hz hw (c_Jx4a65c_size_8abf5 l G _ _ sl arr 3 (13, tt, 0) sa k15_1) (fw_cwV hT wd_441 yVJx4a65c_size_8abf5 rfl rfl ⟨Nat.le_of_ble_eq_true rfl, Nat.le_of_ble_eq_true rfl⟩) (fw_recL hz hw k15_1) rfl hl.1 rfl (Nat.le_of_ble_eq_true rfl) dX5_init_37 ⟨Nat.le_of_ble_eq_true rfl, Nat.le_of_ble_eq_true rfl⟩) hw (fun r F1 H locs hw hp => ?_)
  obtain ⟨hp0, hp⟩ := hp
  rw [hp0] at hw
  refine W.widen (k := 7) (n := 729) (Nat.le_of_ble_eq_true rfl) (Nat.le_of_ble_eq_true rfl) ?_
  subst hp
  refine lv_icmp_ge (tgt := 75) hx hb dX5_init_40 (by decide) (fun cx => ?_) (fun cx => absurd cx (by decide))
  refine lv_aload_n hx hb dX5_init_75 rfl (lv_at hl 1 rfl) ?_
  refine lv_iconst (v := (nI 2)) hx hb dX5_init_76 (by decide) ?_
  refine lv_aload_n hx hb dX5_init_77 rfl (lv_at hl 2 rfl) ?_
  refine fw_get (v := .ref sl) hx hb hT fi_RX7 hown hz hw k15_0 rfl 0 (by decide) (hT _ wd_83) (fun _ h9 => h9) rfl dX5_init_78 ?_
  refine fw_calli (fw_runV (As := []) (rest := [.int (nI 2), .ref b]) C hz hw (c_Jx4a65c_size_8abf5 l G _ _ sl arr 3 (13, tt, 0) sa k15_1) (fw_cwV hT wd_441 yVJx4a65c_size_8abf5 rfl rfl ⟨Nat.le_of_ble_eq_true rfl, Nat.le_of_ble_eq_true rfl⟩) (fw_recL hz hw k15_1) rfl hl.1 rfl (Nat.le_of_ble_eq_true rfl) dX5_init_81 ⟨Nat.le_of_ble_eq_true rfl, Nat.le_of_ble_eq_true rfl⟩) hw (fun r F1 H locs hw hp => ?_)
  obtain ⟨hp0, hp⟩ := hp
  rw [hp0] at hw
  refine W.widen (k := 7) (n := 729) (Nat.le_of_ble_eq_true rfl) (Nat.le_of_ble_eq_true rfl) ?_
  subst hp
  refine lv_imul hx hb dX5_init_84 ?_
  refine fw_top (pk_mul _ _) ?_
  refine fw_top (x' := (nI 6)) (rfl) ?_
  refine fw_put (v := .int (nI 6)) (fs' := [.ref tb, .ref q1, .int (nI 6), .int (-1), .int (nI 0)]) hx hb hT fi_RX5 tyX5 tyX5_ok nmX5 hown hz hw k15_5 rfl 2 (by decide) (hT _ wd_465) (fun _ h9 => h9) rfl (ty := tyX5 2) (by decide +kernel) rfl rfl (Nat.le_of_ble_eq_true rfl) rfl dX5_init_85 (fun H locs hw => ?_)
  obtain ⟨W16, hFW16⟩ : ∃ z, z = va_up W15 b (some ((5, i, 0), fw_obj 6 [.ref tb, .ref q1, .int (nI 6), .int (-1), .int (nI 0)])) := ⟨_, rfl⟩
  rw [← hFW16] at hw
  have k16_0 : W16 tb = some ((3, tt, 0), fw_obj 8 [.ref sl, .ref fr, .int cv]) := by rw [hFW16]; exact fw_up_tag k15_0 k15_5 (by intro z; cases z)
  have k16_1 : W16 sl = some ((13, tt, 0), fw_ls arr 3 sa) := by rw [hFW16]; exact fw_up_tag k15_1 k15_5 (by intro z; cases z)
  have k16_2 : W16 (sa 0) = some ((23, tt, 0), fw_obj 7 [.int (v1 0), .int (v2 0), .int (v3 0)]) := by rw [hFW16]; exact fw_up_tag k15_2 k15_5 (by intro z; cases z)
  have k16_3 : W16 (sa 1) = some ((23, tt, 1), fw_obj 7 [.int (v1 1), .int (v2 1), .int (v3 1)]) := by rw [hFW16]; exact fw_up_tag k15_3 k15_5 (by intro z; cases z)
  have k16_4 : W16 (sa 2) = some ((23, tt, 2), fw_obj 7 [.int (v1 2), .int (v2 2), .int (v3 2)]) := by rw [hFW16]; exact fw_up_tag k15_4 k15_5 (by intro z; cases z)
  have k16_5 : W16 p0 = some ((7, i, 0), fw_obj 5 [.ref (sa 0), .int (nI 0)]) := by rw [hFW16]; exact fw_up_tag k15_6 k15_5 (by intro z; cases z)
  have k16_6 : W16 p1 = some ((7, i, 1), fw_obj 5 [.ref (sa 1), .int (nI 0)]) := by rw [hFW16]; exact fw_up_tag k15_7 k15_5 (by intro z; cases z)
  have k16_7 : W16 p2 = some ((7, i, 2), fw_obj 5 [.ref (sa 2), .int (nI 0)]) := by rw [hFW16]; exact fw_up_tag k15_8 k15_5 (by intro z; cases z)
  have k16_8 : W16 q1 = some ((6, i, 0), fw_ls r2 3 (va_up (va_up (va_up (fun _ => 0) 0 p0) 1 p1) 2 p2)) := by rw [hFW16]; exact fw_up_tag k15_s k15_5 (by intro z; cases z)
  have k16_s : W16 b = some ((5, i, 0), fw_obj 6 [.ref tb, .ref q1, .int (nI 6), .int (-1), .int (nI 0)]) := by rw [hFW16]; exact fw_up_self
  have hkp16 : fw_kp F W16 (fun w => w.2.1 = i ∧ (w.1 = 5 ∨ w.1 = 6 ∨ w.1 = 7)) := by rw [hFW16]; exact (hkp15).up k15_5 (by simp)
  exact fw_vret hx hb hr hlk (Nat.le_of_ble_eq_true rfl) (Nat.le_of_ble_eq_true rfl) hw dX5_init_88 (⟨q1, r2, (va_up (va_up (va_up (fun _ => 0) 0 p0) 1 p1) 2 p2), k16_s, k16_8, fun k hk => by
      rcases (show k = 0 ∨ k = 1 ∨ k = 2 by omega) with rfl | rfl | rfl
      · exact k16_5
      · exact k16_6
      · exact k16_7, hkp16⟩)
set_option maxHeartbeats 4000000 in
set_option maxRecDepth 100000 in
theorem c_X5_init_4 (l : Launch) (G : fw_G) (F : fw_F) (sz : Nat) (b tb sl fr arr tt i : Nat) (cv : Int32) (sa : Nat → Nat) (v1 v2 v3 : Nat → Int32) (hF : F b = some ((5, i, 0), fw_obj 6 [.null, .null, .int (nI 0), .int (nI 0), .int (nI 0)])) (hB : F tb = some ((3, tt, 0), fw_obj 8 [.ref sl, .ref fr, .int cv])) (hL : F sl = some ((13, tt, 0), fw_ls arr 4 sa)) (hS : ∀ k, k < 4 → F (sa k) = some ((23, tt, k), fw_obj 7 [.int (v1 k), .int (v2 k), .int (v3 k)])) : Met l yX5_init (fw_ws yX5_init cX5_init 3 none) { frames := 7, cells := 9, slots := 971, locals := 171 } (va_Pc [.ref b, .ref tb] (fw_Pre G F sz)) (va_Qv (fun F1 => ∃ q arr1 ms, F1 b = some ((5, i, 0), fw_obj 6 [.ref tb, .ref q, .int (nI 8), .int (-1), .int (nI 0)]) ∧ F1 q = some ((6, i, 0), fw_ls arr1 4 ms) ∧ (∀ k, k < 4 → F1 (ms k) = some ((7, i, k), fw_obj 5 [.ref (sa k), .int (nI 0)])) ∧ fw_kp F F1 (fun w => w.2.1 = i ∧ (w.1 = 5 ∨ w.1 = 6 ∨ w.1 = 7))) (fw_B G (fw_W G F sz)) (fw_W G F sz)) 9 971 (fw_W G F sz) := by
  refine fw_met (lv := [(0, .ref b), (1, .ref tb)]) (by decide +kernel) (Nat.le_of_ble_eq_true rfl) rfl ?_
  intro A hA p e s m below meth c ls hx hb hml hown hT hr hlk hin hz hsz hw hAn hl
  rw [← hA]
  have hown : s.vm.findClass RX5 = some m.cls := hown
  have C : CallFix p m c cX5_init 3 s _ fw_tb RX5 := ⟨hx, hb, hml, hown, hT⟩
  have hs0 := hS 0 (by decide)
  have hs1 := hS 1 (by decide)
  have hs2 := hS 2 (by decide)
  have hs3 := hS 3 (by decide)
  refine lv_aload_n hx hb dX5_init_0 rfl (lv_at hl 0 rfl) ?_
  refine W.objInit hx hb hown (hT _ wd_438) (hT _ wd_31) (hT _ wd_32) rfl (hl.1.trans hml.symm) rfl dX5_init_1 (Nat.le_of_ble_eq_true rfl) (Nat.le_of_ble_eq_true rfl) ?_
  refine W.eq (g2 := F0 m 4 ls []) rfl ?_
  refine lv_aload_n hx hb dX5_init_4 rfl (lv_at hl 0 rfl) ?_
  have hPq := hw.1
  refine fw_new (6, i, 0) (ci := 0) (fs := [.int (nI 0), .null, .int (nI 0)]) hx hb hT fi_RJx4a65c tyJx4a65c tyJx4a65c_ok hown (hT _ wd_439) (hT _ wd_34) (hT _ wd_4) hz hw hAn rfl (by intro j hj; rcases (show j = 0 ∨ j = 1 ∨ j = 2 by omega) with rfl | rfl | rfl <;> rfl) (Nat.le_of_ble_eq_true rfl) (Nat.le_of_ble_eq_true rfl) dX5_init_5 (fun q1 H hqq1 hw => ?_)
  refine W.widen (k := 1) (n := 3) (Nat.le_of_ble_eq_true rfl) (Nat.le_of_ble_eq_true rfl) ?_
  obtain ⟨W1, hFW1⟩ : ∃ z, z = va_up F q1 (some ((6, i, 0), fw_obj 0 [.int (nI 0), .null, .int (nI 0)])) := ⟨_, rfl⟩
  rw [← hFW1] at hw
  have k1_0 : W1 b = some ((5, i, 0), fw_obj 6 [.null, .null, .int (nI 0), .int (nI 0), .int (nI 0)]) := by rw [hFW1]; exact fw_up_new hF hqq1
  have k1_1 : W1 tb = some ((3, tt, 0), fw_obj 8 [.ref sl, .ref fr, .int cv]) := by rw [hFW1]; exact fw_up_new hB hqq1
  have k1_2 : W1 sl = some ((13, tt, 0), fw_ls arr 4 sa) := by rw [hFW1]; exact fw_up_new hL hqq1
  have k1_3 : W1 (sa 0) = some ((23, tt, 0), fw_obj 7 [.int (v1 0), .int (v2 0), .int (v3 0)]) := by rw [hFW1]; exact fw_up_new hs0 hqq1
  have k1_4 : W1 (sa 1) = some ((23, tt, 1), fw_obj 7 [.int (v1 1), .int (v2 1), .int (v3 1)]) := by rw [hFW1]; exact fw_up_new hs1 hqq1
  have k1_5 : W1 (sa 2) = some ((23, tt, 2), fw_obj 7 [.int (v1 2), .int (v2 2), .int (v3 2)]) := by rw [hFW1]; exact fw_up_new hs2 hqq1
  have k1_6 : W1 (sa 3) = some ((23, tt, 3), fw_obj 7 [.int (v1 3), .int (v2 3), .int (v3 3)]) := by rw [hFW1]; exact fw_up_new hs3 hqq1
  have k1_s : W1 q1 = some ((6, i, 0), fw_obj 0 [.int (nI 0), .null, .int (nI 0)]) := by rw [hFW1]; exact fw_up_self
  have hkp1 : fw_kp F W1 (fun w => w.2.1 = i ∧ (w.1 = 5 ∨ w.1 = 6 ∨ w.1 = 7)) := by rw [hFW1]; exact (fw_kp.rf).new hqq1
  refine lv_dup hx hb dX5_init_8 rfl ?_
  refine fw_callv (fw_runI (As := []) (rest := [.ref q1, .ref b]) C hz hw (c_Jx4a65c_init_da8c8 l G _ _ q1 (6, i, 0) (show 6 < 900 by decide) k1_s (by rw [hFW1]; exact fw_nb hPq hqq1 (fun t arr n f h => by cases h))) (fw_cwI hT wd_440 yIJx4a65c_init_da8c8 rfl rfl ⟨Nat.le_of_ble_eq_true rfl, Nat.le_of_ble_eq_true rfl⟩) rfl hl.1 rfl (Nat.le_of_ble_eq_true rfl) dX5_init_9 ⟨Nat.le_of_ble_eq_true rfl, Nat.le_of_ble_eq_true rfl⟩) hw (fun F1 H locs hw hp => ?_)
  refine W.widen (k := 1) (n := 3) (Nat.le_of_ble_eq_true rfl) (Nat.le_of_ble_eq_true rfl) ?_
  rw [hp] at hw
  obtain ⟨W2, hFW2⟩ : ∃ z, z = va_up W1 q1 (some ((6, i, 0), fw_ls (fw_ea G) 0 (fun _ => 0))) := ⟨_, rfl⟩
  rw [← hFW2] at hw
  have k2_0 : W2 b = some ((5, i, 0), fw_obj 6 [.null, .null, .int (nI 0), .int (nI 0), .int (nI 0)]) := by rw [hFW2]; exact fw_up_tag k1_0 k1_s (by intro z; cases z)
  have k2_1 : W2 tb = some ((3, tt, 0), fw_obj 8 [.ref sl, .ref fr, .int cv]) := by rw [hFW2]; exact fw_up_tag k1_1 k1_s (by intro z; cases z)
  have k2_2 : W2 sl = some ((13, tt, 0), fw_ls arr 4 sa) := by rw [hFW2]; exact fw_up_tag k1_2 k1_s (by intro z; cases z)
  have k2_3 : W2 (sa 0) = some ((23, tt, 0), fw_obj 7 [.int (v1 0), .int (v2 0), .int (v3 0)]) := by rw [hFW2]; exact fw_up_tag k1_3 k1_s (by intro z; cases z)
  have k2_4 : W2 (sa 1) = some ((23, tt, 1), fw_obj 7 [.int (v1 1), .int (v2 1), .int (v3 1)]) := by rw [hFW2]; exact fw_up_tag k1_4 k1_s (by intro z; cases z)
  have k2_5 : W2 (sa 2) = some ((23, tt, 2), fw_obj 7 [.int (v1 2), .int (v2 2), .int (v3 2)]) := by rw [hFW2]; exact fw_up_tag k1_5 k1_s (by intro z; cases z)
  have k2_6 : W2 (sa 3) = some ((23, tt, 3), fw_obj 7 [.int (v1 3), .int (v2 3), .int (v3 3)]) := by rw [hFW2]; exact fw_up_tag k1_6 k1_s (by intro z; cases z)
  have k2_s : W2 q1 = some ((6, i, 0), fw_ls (fw_ea G) 0 (fun _ => 0)) := by rw [hFW2]; exact fw_up_self
  have hkp2 : fw_kp F W2 (fun w => w.2.1 = i ∧ (w.1 = 5 ∨ w.1 = 6 ∨ w.1 = 7)) := by rw [hFW2]; exact (hkp1).up k1_s (by simp)
  refine fw_putF (v := .ref q1) (fs' := [.null, .ref q1, .int (nI 0), .int (nI 0), .int (nI 0)]) hx hb hT fi_RX5 tyX5 tyX5_ok nmX5 hown hz hw k2_0 rfl 1 (by decide) (hT _ wd_463) (fun _ h9 => h9) rfl (hin rfl) rfl (ty := tyX5 1) (by decide +kernel) rfl rfl (Nat.le_of_ble_eq_true rfl) rfl dX5_init_12 (fun H locs hw => ?_)
  obtain ⟨W3, hFW3⟩ : ∃ z, z = va_up W2 b (some ((5, i, 0), fw_obj 6 [.null, .ref q1, .int (nI 0), .int (nI 0), .int (nI 0)])) := ⟨_, rfl⟩
  rw [← hFW3] at hw
  have k3_0 : W3 tb = some ((3, tt, 0), fw_obj 8 [.ref sl, .ref fr, .int cv]) := by rw [hFW3]; exact fw_up_tag k2_1 k2_0 (by intro z; cases z)
  have k3_1 : W3 sl = some ((13, tt, 0), fw_ls arr 4 sa) := by rw [hFW3]; exact fw_up_tag k2_2 k2_0 (by intro z; cases z)
  have k3_2 : W3 (sa 0) = some ((23, tt, 0), fw_obj 7 [.int (v1 0), .int (v2 0), .int (v3 0)]) := by rw [hFW3]; exact fw_up_tag k2_3 k2_0 (by intro z; cases z)
  have k3_3 : W3 (sa 1) = some ((23, tt, 1), fw_obj 7 [.int (v1 1), .int (v2 1), .int (v3 1)]) := by rw [hFW3]; exact fw_up_tag k2_4 k2_0 (by intro z; cases z)
  have k3_4 : W3 (sa 2) = some ((23, tt, 2), fw_obj 7 [.int (v1 2), .int (v2 2), .int (v3 2)]) := by rw [hFW3]; exact fw_up_tag k2_5 k2_0 (by intro z; cases z)
  have k3_5 : W3 (sa 3) = some ((23, tt, 3), fw_obj 7 [.int (v1 3), .int (v2 3), .int (v3 3)]) := by rw [hFW3]; exact fw_up_tag k2_6 k2_0 (by intro z; cases z)
  have k3_6 : W3 q1 = some ((6, i, 0), fw_ls (fw_ea G) 0 (fun _ => 0)) := by rw [hFW3]; exact fw_up_tag k2_s k2_0 (by intro z; cases z)
  have k3_s : W3 b = some ((5, i, 0), fw_obj 6 [.null, .ref q1, .int (nI 0), .int (nI 0), .int (nI 0)]) := by rw [hFW3]; exact fw_up_self
  have hkp3 : fw_kp F W3 (fun w => w.2.1 = i ∧ (w.1 = 5 ∨ w.1 = 6 ∨ w.1 = 7)) := by rw [hFW3]; exact (hkp2).up k2_0 (by simp)
  refine lv_aload_n hx hb dX5_init_15 rfl (lv_at hl 0 rfl) ?_
  refine lv_iconst (v := (-1)) hx hb dX5_init_16 (by decide) ?_
  refine fw_put (v := .int (-1)) (fs' := [.null, .ref q1, .int (nI 0), .int (-1), .int (nI 0)]) hx hb hT fi_RX5 tyX5 tyX5_ok nmX5 hown hz hw k3_s rfl 3 (by decide) (hT _ wd_467) (fun _ h9 => h9) rfl (ty := tyX5 3) (by decide +kernel) rfl rfl (Nat.le_of_ble_eq_true rfl) rfl dX5_init_17 (fun H locs hw => ?_)
  obtain ⟨W4, hFW4⟩ : ∃ z, z = va_up W3 b (some ((5, i, 0), fw_obj 6 [.null, .ref q1, .int (nI 0), .int (-1), .int (nI 0)])) := ⟨_, rfl⟩
  rw [← hFW4] at hw
  have k4_0 : W4 tb = some ((3, tt, 0), fw_obj 8 [.ref sl, .ref fr, .int cv]) := by rw [hFW4]; exact fw_up_tag k3_0 k3_s (by intro z; cases z)
  have k4_1 : W4 sl = some ((13, tt, 0), fw_ls arr 4 sa) := by rw [hFW4]; exact fw_up_tag k3_1 k3_s (by intro z; cases z)
  have k4_2 : W4 (sa 0) = some ((23, tt, 0), fw_obj 7 [.int (v1 0), .int (v2 0), .int (v3 0)]) := by rw [hFW4]; exact fw_up_tag k3_2 k3_s (by intro z; cases z)
  have k4_3 : W4 (sa 1) = some ((23, tt, 1), fw_obj 7 [.int (v1 1), .int (v2 1), .int (v3 1)]) := by rw [hFW4]; exact fw_up_tag k3_3 k3_s (by intro z; cases z)
  have k4_4 : W4 (sa 2) = some ((23, tt, 2), fw_obj 7 [.int (v1 2), .int (v2 2), .int (v3 2)]) := by rw [hFW4]; exact fw_up_tag k3_4 k3_s (by intro z; cases z)
  have k4_5 : W4 (sa 3) = some ((23, tt, 3), fw_obj 7 [.int (v1 3), .int (v2 3), .int (v3 3)]) := by rw [hFW4]; exact fw_up_tag k3_5 k3_s (by intro z; cases z)
  have k4_6 : W4 q1 = some ((6, i, 0), fw_ls (fw_ea G) 0 (fun _ => 0)) := by rw [hFW4]; exact fw_up_tag k3_6 k3_s (by intro z; cases z)
  have k4_s : W4 b = some ((5, i, 0), fw_obj 6 [.null, .ref q1, .int (nI 0), .int (-1), .int (nI 0)]) := by rw [hFW4]; exact fw_up_self
  have hkp4 : fw_kp F W4 (fun w => w.2.1 = i ∧ (w.1 = 5 ∨ w.1 = 6 ∨ w.1 = 7)) := by rw [hFW4]; exact (hkp3).up k3_s (by simp)
  refine lv_aload_n hx hb dX5_init_20 rfl (lv_at hl 0 rfl) ?_
  refine lv_iconst (v := (nI 0)) hx hb dX5_init_21 (by decide) ?_
  refine fw_put (v := .int (nI 0)) (fs' := [.null, .ref q1, .int (nI 0), .int (-1), .int (nI 0)]) hx hb hT fi_RX5 tyX5 tyX5_ok nmX5 hown hz hw k4_s rfl 4 (by decide) (hT _ wd_469) (fun _ h9 => h9) rfl (ty := tyX5 4) (by decide +kernel) rfl rfl (Nat.le_of_ble_eq_true rfl) rfl dX5_init_22 (fun H locs hw => ?_)
  obtain ⟨W5, hFW5⟩ : ∃ z, z = va_up W4 b (some ((5, i, 0), fw_obj 6 [.null, .ref q1, .int (nI 0), .int (-1), .int (nI 0)])) := ⟨_, rfl⟩
  rw [← hFW5] at hw
  have k5_0 : W5 tb = some ((3, tt, 0), fw_obj 8 [.ref sl, .ref fr, .int cv]) := by rw [hFW5]; exact fw_up_tag k4_0 k4_s (by intro z; cases z)
  have k5_1 : W5 sl = some ((13, tt, 0), fw_ls arr 4 sa) := by rw [hFW5]; exact fw_up_tag k4_1 k4_s (by intro z; cases z)
  have k5_2 : W5 (sa 0) = some ((23, tt, 0), fw_obj 7 [.int (v1 0), .int (v2 0), .int (v3 0)]) := by rw [hFW5]; exact fw_up_tag k4_2 k4_s (by intro z; cases z)
  have k5_3 : W5 (sa 1) = some ((23, tt, 1), fw_obj 7 [.int (v1 1), .int (v2 1), .int (v3 1)]) := by rw [hFW5]; exact fw_up_tag k4_3 k4_s (by intro z; cases z)
  have k5_4 : W5 (sa 2) = some ((23, tt, 2), fw_obj 7 [.int (v1 2), .int (v2 2), .int (v3 2)]) := by rw [hFW5]; exact fw_up_tag k4_4 k4_s (by intro z; cases z)
  have k5_5 : W5 (sa 3) = some ((23, tt, 3), fw_obj 7 [.int (v1 3), .int (v2 3), .int (v3 3)]) := by rw [hFW5]; exact fw_up_tag k4_5 k4_s (by intro z; cases z)
  have k5_6 : W5 q1 = some ((6, i, 0), fw_ls (fw_ea G) 0 (fun _ => 0)) := by rw [hFW5]; exact fw_up_tag k4_6 k4_s (by intro z; cases z)
  have k5_s : W5 b = some ((5, i, 0), fw_obj 6 [.null, .ref q1, .int (nI 0), .int (-1), .int (nI 0)]) := by rw [hFW5]; exact fw_up_self
  have hkp5 : fw_kp F W5 (fun w => w.2.1 = i ∧ (w.1 = 5 ∨ w.1 = 6 ∨ w.1 = 7)) := by rw [hFW5]; exact (hkp4).up k4_s (by simp)
  refine lv_aload_n hx hb dX5_init_25 rfl (lv_at hl 0 rfl) ?_
  refine lv_aload_n hx hb dX5_init_26 rfl (lv_at hl 1 rfl) ?_
  refine fw_putF (v := .ref tb) (fs' := [.ref tb, .ref q1, .int (nI 0), .int (-1), .int (nI 0)]) hx hb hT fi_RX5 tyX5 tyX5_ok nmX5 hown hz hw k5_s rfl 0 (by decide) (hT _ wd_461) (fun _ h9 => h9) rfl (hin rfl) rfl (ty := tyX5 0) (by decide +kernel) rfl rfl (Nat.le_of_ble_eq_true rfl) rfl dX5_init_27 (fun H locs hw => ?_)
  obtain ⟨W6, hFW6⟩ : ∃ z, z = va_up W5 b (some ((5, i, 0), fw_obj 6 [.ref tb, .ref q1, .int (nI 0), .int (-1), .int (nI 0)])) := ⟨_, rfl⟩
  rw [← hFW6] at hw
  have k6_0 : W6 tb = some ((3, tt, 0), fw_obj 8 [.ref sl, .ref fr, .int cv]) := by rw [hFW6]; exact fw_up_tag k5_0 k5_s (by intro z; cases z)
  have k6_1 : W6 sl = some ((13, tt, 0), fw_ls arr 4 sa) := by rw [hFW6]; exact fw_up_tag k5_1 k5_s (by intro z; cases z)
  have k6_2 : W6 (sa 0) = some ((23, tt, 0), fw_obj 7 [.int (v1 0), .int (v2 0), .int (v3 0)]) := by rw [hFW6]; exact fw_up_tag k5_2 k5_s (by intro z; cases z)
  have k6_3 : W6 (sa 1) = some ((23, tt, 1), fw_obj 7 [.int (v1 1), .int (v2 1), .int (v3 1)]) := by rw [hFW6]; exact fw_up_tag k5_3 k5_s (by intro z; cases z)
  have k6_4 : W6 (sa 2) = some ((23, tt, 2), fw_obj 7 [.int (v1 2), .int (v2 2), .int (v3 2)]) := by rw [hFW6]; exact fw_up_tag k5_4 k5_s (by intro z; cases z)
  have k6_5 : W6 (sa 3) = some ((23, tt, 3), fw_obj 7 [.int (v1 3), .int (v2 3), .int (v3 3)]) := by rw [hFW6]; exact fw_up_tag k5_5 k5_s (by intro z; cases z)
  have k6_6 : W6 q1 = some ((6, i, 0), fw_ls (fw_ea G) 0 (fun _ => 0)) := by rw [hFW6]; exact fw_up_tag k5_6 k5_s (by intro z; cases z)
  have k6_s : W6 b = some ((5, i, 0), fw_obj 6 [.ref tb, .ref q1, .int (nI 0), .int (-1), .int (nI 0)]) := by rw [hFW6]; exact fw_up_self
  have hkp6 : fw_kp F W6 (fun w => w.2.1 = i ∧ (w.1 = 5 ∨ w.1 = 6 ∨ w.1 = 7)) := by rw [hFW6]; exact (hkp5).up k5_s (by simp)
  refine lv_iconst (v := (nI 0)) hx hb dX5_init_30 (by decide) ?_
  refine lv_istore_n (lv' := [(2, .int (nI 0)), (0, .ref b), (1, .ref tb)]) hx hb dX5_init_31 rfl hl (by decide) rfl (fun ls hl => ?_)
  refine lv_iload_n hx hb dX5_init_32 rfl (lv_at hl 0 rfl) ?_
  refine lv_aload_n hx hb dX5_init_33 rfl (lv_at hl 2 rfl) ?_
  refine fw_get (v := .ref sl) hx hb hT fi_RX7 hown hz hw k6_0 rfl 0 (by decide) (hT _ wd_83) (fun _ h9 => h9) rfl dX5_init_34 ?_
  refine fw_calli (fw_runV (As := []) (rest := [.int (nI 0)]) C hz hw (c_Jx4a65c_size_8abf5 l G _ _ sl arr 4 (13, tt, 0) sa k6_1) (fw_cwV hT wd_441 yVJx4a65c_size_8abf5 rfl rfl ⟨Nat.le_of_ble_eq_true rfl, Nat.le_of_ble_eq_true rfl⟩) (fw_recL hz hw k6_1) rfl hl.1 rfl (Nat.le_of_ble_eq_true rfl) dX5_init_37 ⟨Nat.le_of_ble_eq_true rfl, Nat.le_of_ble_eq_true rfl⟩) hw (fun r F1 H locs hw hp => ?_)
  obtain ⟨hp0, hp⟩ := hp
  rw [hp0] at hw
  refine W.widen (k := 1) (n := 3) (Nat.le_of_ble_eq_true rfl) (Nat.le_of_ble_eq_true rfl) ?_
  subst hp
  refine lv_icmp_ge (tgt := 75) hx hb dX5_init_40 (by decide) (fun cx => absurd cx (by decide)) (fun cx => ?_)
  refine lv_aload_n hx hb dX5_init_43 rfl (lv_at hl 1 rfl) ?_
  refine fw_get (v := .ref q1) hx hb hT fi_RX5 hown hz hw k6_s rfl 1 (by decide) (hT _ wd_463) (fun _ h9 => h9) rfl dX5_init_44 ?_
  refine fw_new (7, i, 0) (ci := 5) (fs := [.null, .int (nI 0)]) hx hb hT fi_RX4 tyX4 tyX4_ok hown (hT _ wd_442) (hT _ wd_443) (hT _ wd_23) hz hw hAn rfl (by intro j hj; rcases (show j = 0 ∨ j = 1 by omega) with rfl | rfl <;> rfl) (Nat.le_of_ble_eq_true rfl) (Nat.le_of_ble_eq_true rfl) dX5_init_47 (fun p0 H hqp0 hw => ?_)
  refine W.widen (k := 2) (n := 5) (Nat.le_of_ble_eq_true rfl) (Nat.le_of_ble_eq_true rfl) ?_
  obtain ⟨W7, hFW7⟩ : ∃ z, z = va_up W6 p0 (some ((7, i, 0), fw_obj 5 [.null, .int (nI 0)])) := ⟨_, rfl⟩
  rw [← hFW7] at hw
  have k7_0 : W7 tb = some ((3, tt, 0), fw_obj 8 [.ref sl, .ref fr, .int cv]) := by rw [hFW7]; exact fw_up_new k6_0 hqp0
  have k7_1 : W7 sl = some ((13, tt, 0), fw_ls arr 4 sa) := by rw [hFW7]; exact fw_up_new k6_1 hqp0
  have k7_2 : W7 (sa 0) = some ((23, tt, 0), fw_obj 7 [.int (v1 0), .int (v2 0), .int (v3 0)]) := by rw [hFW7]; exact fw_up_new k6_2 hqp0
  have k7_3 : W7 (sa 1) = some ((23, tt, 1), fw_obj 7 [.int (v1 1), .int (v2 1), .int (v3 1)]) := by rw [hFW7]; exact fw_up_new k6_3 hqp0
  have k7_4 : W7 (sa 2) = some ((23, tt, 2), fw_obj 7 [.int (v1 2), .int (v2 2), .int (v3 2)]) := by rw [hFW7]; exact fw_up_new k6_4 hqp0
  have k7_5 : W7 (sa 3) = some ((23, tt, 3), fw_obj 7 [.int (v1 3), .int (v2 3), .int (v3 3)]) := by rw [hFW7]; exact fw_up_new k6_5 hqp0
  have k7_6 : W7 q1 = some ((6, i, 0), fw_ls (fw_ea G) 0 (fun _ => 0)) := by rw [hFW7]; exact fw_up_new k6_6 hqp0
  have k7_7 : W7 b = some ((5, i, 0), fw_obj 6 [.ref tb, .ref q1, .int (nI 0), .int (-1), .int (nI 0)]) := by rw [hFW7]; exact fw_up_new k6_s hqp0
  have k7_s : W7 p0 = some ((7, i, 0), fw_obj 5 [.null, .int (nI 0)]) := by rw [hFW7]; exact fw_up_self
  have hkp7 : fw_kp F W7 (fun w => w.2.1 = i ∧ (w.1 = 5 ∨ w.1 = 6 ∨ w.1 = 7)) := by rw [hFW7]; exact (hkp6).new hqp0
  refine lv_dup hx hb dX5_init_50 rfl ?_
  refine lv_aload_n hx hb dX5_init_51 rfl (lv_at hl 2 rfl) ?_
  refine fw_get (v := .ref sl) hx hb hT fi_RX7 hown hz hw k7_0 rfl 0 (by decide) (hT _ wd_83) (fun _ h9 => h9) rfl dX5_init_52 ?_
  refine lv_iload_n hx hb dX5_init_55 rfl (lv_at hl 0 rfl) ?_
  refine fw_callo (fw_runV (As := [.int (nI 0)]) (rest := [.ref p0, .ref p0, .ref q1]) C hz hw (c_Jx4a65c_get_915e3 l G _ _ sl arr 4 (13, tt, 0) sa 0 k7_1 (by decide) (by decide)) (fw_cwV hT wd_444 yVJx4a65c_get_915e3 rfl rfl ⟨Nat.le_of_ble_eq_true rfl, Nat.le_of_ble_eq_true rfl⟩) (fw_recL hz hw k7_1) rfl hl.1 rfl (Nat.le_of_ble_eq_true rfl) dX5_init_56 ⟨Nat.le_of_ble_eq_true rfl, Nat.le_of_ble_eq_true rfl⟩) hw (fun r F1 H locs hw hp => ?_)
  obtain ⟨hp0, hp⟩ := hp
  rw [hp0] at hw
  refine W.widen (k := 2) (n := 5) (Nat.le_of_ble_eq_true rfl) (Nat.le_of_ble_eq_true rfl) ?_
  subst hp
  refine fw_cast hx hb hown hz hw k7_2 (q := vwCl[7]) rfl (hT _ wd_445) dX5_init_59 ?_
  refine fw_callv (fw_runI (As := [.ref (sa 0)]) (rest := [.ref p0, .ref q1]) C hz hw (c_X4_init l G _ _ p0 (7, i, 0) (sa 0) k7_s) (fw_cwI hT wd_446 yIX4_init rfl rfl ⟨Nat.le_of_ble_eq_true rfl, Nat.le_of_ble_eq_true rfl⟩) rfl hl.1 rfl (Nat.le_of_ble_eq_true rfl) dX5_init_62 ⟨Nat.le_of_ble_eq_true rfl, Nat.le_of_ble_eq_true rfl⟩) hw (fun F1 H locs hw hp => ?_)
  refine W.widen (k := 2) (n := 5) (Nat.le_of_ble_eq_true rfl) (Nat.le_of_ble_eq_true rfl) ?_
  rw [hp] at hw
  obtain ⟨W8, hFW8⟩ : ∃ z, z = va_up W7 p0 (some ((7, i, 0), fw_obj 5 [.ref (sa 0), .int (nI 0)])) := ⟨_, rfl⟩
  rw [← hFW8] at hw
  have k8_0 : W8 tb = some ((3, tt, 0), fw_obj 8 [.ref sl, .ref fr, .int cv]) := by rw [hFW8]; exact fw_up_tag k7_0 k7_s (by intro z; cases z)
  have k8_1 : W8 sl = some ((13, tt, 0), fw_ls arr 4 sa) := by rw [hFW8]; exact fw_up_tag k7_1 k7_s (by intro z; cases z)
  have k8_2 : W8 (sa 0) = some ((23, tt, 0), fw_obj 7 [.int (v1 0), .int (v2 0), .int (v3 0)]) := by rw [hFW8]; exact fw_up_tag k7_2 k7_s (by intro z; cases z)
  have k8_3 : W8 (sa 1) = some ((23, tt, 1), fw_obj 7 [.int (v1 1), .int (v2 1), .int (v3 1)]) := by rw [hFW8]; exact fw_up_tag k7_3 k7_s (by intro z; cases z)
  have k8_4 : W8 (sa 2) = some ((23, tt, 2), fw_obj 7 [.int (v1 2), .int (v2 2), .int (v3 2)]) := by rw [hFW8]; exact fw_up_tag k7_4 k7_s (by intro z; cases z)
  have k8_5 : W8 (sa 3) = some ((23, tt, 3), fw_obj 7 [.int (v1 3), .int (v2 3), .int (v3 3)]) := by rw [hFW8]; exact fw_up_tag k7_5 k7_s (by intro z; cases z)
  have k8_6 : W8 q1 = some ((6, i, 0), fw_ls (fw_ea G) 0 (fun _ => 0)) := by rw [hFW8]; exact fw_up_tag k7_6 k7_s (by intro z; cases z)
  have k8_7 : W8 b = some ((5, i, 0), fw_obj 6 [.ref tb, .ref q1, .int (nI 0), .int (-1), .int (nI 0)]) := by rw [hFW8]; exact fw_up_tag k7_7 k7_s (by intro z; cases z)
  have k8_s : W8 p0 = some ((7, i, 0), fw_obj 5 [.ref (sa 0), .int (nI 0)]) := by rw [hFW8]; exact fw_up_self
  have hkp8 : fw_kp F W8 (fun w => w.2.1 = i ∧ (w.1 = 5 ∨ w.1 = 6 ∨ w.1 = 7)) := by rw [hFW8]; exact (hkp7).up k7_s (by simp)
  refine fw_calli (fw_runV (As := [.ref p0]) (rest := []) C hz hw (c_Jx4a65c_add_9ea2d l G _ _ q1 (fw_ea G) 0 (6, i, 0) (fun _ => 0) p0 5 (7, i, 0) _ (show 6 < 900 by decide) k8_6 (by decide) k8_s) (fw_cwV hT wd_460 yVJx4a65c_add_9ea2d rfl rfl ⟨Nat.le_of_ble_eq_true rfl, Nat.le_of_ble_eq_true rfl⟩) (fw_recL hz hw k8_6) rfl hl.1 rfl (Nat.le_of_ble_eq_true rfl) dX5_init_65 ⟨Nat.le_of_ble_eq_true rfl, Nat.le_of_ble_eq_true rfl⟩) hw (fun r F1 H locs hw hp => ?_)
  refine W.widen (k := 3) (n := 245) (Nat.le_of_ble_eq_true rfl) (Nat.le_of_ble_eq_true rfl) ?_
  obtain ⟨rfl, r0, hp⟩ := hp
  rw [hp] at hw
  obtain ⟨W9, hFW9⟩ : ∃ z, z = va_up W8 q1 (some ((6, i, 0), fw_ls r0 1 (va_up (fun _ => 0) 0 p0))) := ⟨_, rfl⟩
  rw [← hFW9] at hw
  have k9_0 : W9 tb = some ((3, tt, 0), fw_obj 8 [.ref sl, .ref fr, .int cv]) := by rw [hFW9]; exact fw_up_tag k8_0 k8_6 (by intro z; cases z)
  have k9_1 : W9 sl = some ((13, tt, 0), fw_ls arr 4 sa) := by rw [hFW9]; exact fw_up_tag k8_1 k8_6 (by intro z; cases z)
  have k9_2 : W9 (sa 0) = some ((23, tt, 0), fw_obj 7 [.int (v1 0), .int (v2 0), .int (v3 0)]) := by rw [hFW9]; exact fw_up_tag k8_2 k8_6 (by intro z; cases z)
  have k9_3 : W9 (sa 1) = some ((23, tt, 1), fw_obj 7 [.int (v1 1), .int (v2 1), .int (v3 1)]) := by rw [hFW9]; exact fw_up_tag k8_3 k8_6 (by intro z; cases z)
  have k9_4 : W9 (sa 2) = some ((23, tt, 2), fw_obj 7 [.int (v1 2), .int (v2 2), .int (v3 2)]) := by rw [hFW9]; exact fw_up_tag k8_4 k8_6 (by intro z; cases z)
  have k9_5 : W9 (sa 3) = some ((23, tt, 3), fw_obj 7 [.int (v1 3), .int (v2 3), .int (v3 3)]) := by rw [hFW9]; exact fw_up_tag k8_5 k8_6 (by intro z; cases z)
  have k9_6 : W9 b = some ((5, i, 0), fw_obj 6 [.ref tb, .ref q1, .int (nI 0), .int (-1), .int (nI 0)]) := by rw [hFW9]; exact fw_up_tag k8_7 k8_6 (by intro z; cases z)
  have k9_7 : W9 p0 = some ((7, i, 0), fw_obj 5 [.ref (sa 0), .int (nI 0)]) := by rw [hFW9]; exact fw_up_tag k8_s k8_6 (by intro z; cases z)
  have k9_s : W9 q1 = some ((6, i, 0), fw_ls r0 1 (va_up (fun _ => 0) 0 p0)) := by rw [hFW9]; exact fw_up_self
  have hkp9 : fw_kp F W9 (fun w => w.2.1 = i ∧ (w.1 = 5 ∨ w.1 = 6 ∨ w.1 = 7)) := by rw [hFW9]; exact (hkp8).up k8_6 (by simp)
  refine lv_pop hx hb dX5_init_68 rfl ?_
  refine lv_iinc (v := (nI (0 + 1))) (lv' := [(2, .int (nI (0 + 1))), (0, .ref b), (1, .ref tb)]) hx hb dX5_init_69 hl (k := 0) rfl (nI_1 _) (by decide) rfl (fun ls hl => ?_)
  refine lv_goto (tgt := 32) hx hb dX5_init_72 (by decide) ?_
  refine lv_iload_n hx hb dX5_init_32 rfl (lv_at hl 0 rfl) ?_
  refine lv_aload_n hx hb dX5_init_33 rfl (lv_at hl 2 rfl) ?_
  refine fw_get (v := .ref sl) hx hb hT fi_RX7 hown hz hw k9_0 rfl 0 (by decide) (hT _ wd_83) (fun _ h9 => h9) rfl dX5_init_34 ?_
  refine fw_calli (fw_runV (As := []) (rest := [.int (nI (0 + 1))]) C hz hw (c_Jx4a65c_size_8abf5 l G _ _ sl arr 4 (13, tt, 0) sa k9_1) (fw_cwV hT wd_441 yVJx4a65c_size_8abf5 rfl rfl ⟨Nat.le_of_ble_eq_true rfl, Nat.le_of_ble_eq_true rfl⟩) (fw_recL hz hw k9_1) rfl hl.1 rfl (Nat.le_of_ble_eq_true rfl) dX5_init_37 ⟨Nat.le_of_ble_eq_true rfl, Nat.le_of_ble_eq_true rfl⟩) hw (fun r F1 H locs hw hp => ?_)
  obtain ⟨hp0, hp⟩ := hp
  rw [hp0] at hw
  refine W.widen (k := 3) (n := 245) (Nat.le_of_ble_eq_true rfl) (Nat.le_of_ble_eq_true rfl) ?_
  subst hp
  refine lv_icmp_ge (tgt := 75) hx hb dX5_init_40 (by decide) (fun cx => absurd cx (by decide)) (fun cx => ?_)
  refine lv_aload_n hx hb dX5_init_43 rfl (lv_at hl 1 rfl) ?_
  refine fw_get (v := .ref q1) hx hb hT fi_RX5 hown hz hw k9_6 rfl 1 (by decide) (hT _ wd_463) (fun _ h9 => h9) rfl dX5_init_44 ?_
  refine fw_new (7, i, 1) (ci := 5) (fs := [.null, .int (nI 0)]) hx hb hT fi_RX4 tyX4 tyX4_ok hown (hT _ wd_442) (hT _ wd_443) (hT _ wd_23) hz hw hAn rfl (by intro j hj; rcases (show j = 0 ∨ j = 1 by omega) with rfl | rfl <;> rfl) (Nat.le_of_ble_eq_true rfl) (Nat.le_of_ble_eq_true rfl) dX5_init_47 (fun p1 H hqp1 hw => ?_)
  refine W.widen (k := 4) (n := 247) (Nat.le_of_ble_eq_true rfl) (Nat.le_of_ble_eq_true rfl) ?_
  obtain ⟨W10, hFW10⟩ : ∃ z, z = va_up W9 p1 (some ((7, i, 1), fw_obj 5 [.null, .int (nI 0)])) := ⟨_, rfl⟩
  rw [← hFW10] at hw
  have k10_0 : W10 tb = some ((3, tt, 0), fw_obj 8 [.ref sl, .ref fr, .int cv]) := by rw [hFW10]; exact fw_up_new k9_0 hqp1
  have k10_1 : W10 sl = some ((13, tt, 0), fw_ls arr 4 sa) := by rw [hFW10]; exact fw_up_new k9_1 hqp1
  have k10_2 : W10 (sa 0) = some ((23, tt, 0), fw_obj 7 [.int (v1 0), .int (v2 0), .int (v3 0)]) := by rw [hFW10]; exact fw_up_new k9_2 hqp1
  have k10_3 : W10 (sa 1) = some ((23, tt, 1), fw_obj 7 [.int (v1 1), .int (v2 1), .int (v3 1)]) := by rw [hFW10]; exact fw_up_new k9_3 hqp1
  have k10_4 : W10 (sa 2) = some ((23, tt, 2), fw_obj 7 [.int (v1 2), .int (v2 2), .int (v3 2)]) := by rw [hFW10]; exact fw_up_new k9_4 hqp1
  have k10_5 : W10 (sa 3) = some ((23, tt, 3), fw_obj 7 [.int (v1 3), .int (v2 3), .int (v3 3)]) := by rw [hFW10]; exact fw_up_new k9_5 hqp1
  have k10_6 : W10 b = some ((5, i, 0), fw_obj 6 [.ref tb, .ref q1, .int (nI 0), .int (-1), .int (nI 0)]) := by rw [hFW10]; exact fw_up_new k9_6 hqp1
  have k10_7 : W10 p0 = some ((7, i, 0), fw_obj 5 [.ref (sa 0), .int (nI 0)]) := by rw [hFW10]; exact fw_up_new k9_7 hqp1
  have k10_8 : W10 q1 = some ((6, i, 0), fw_ls r0 1 (va_up (fun _ => 0) 0 p0)) := by rw [hFW10]; exact fw_up_new k9_s hqp1
  have k10_s : W10 p1 = some ((7, i, 1), fw_obj 5 [.null, .int (nI 0)]) := by rw [hFW10]; exact fw_up_self
  have hkp10 : fw_kp F W10 (fun w => w.2.1 = i ∧ (w.1 = 5 ∨ w.1 = 6 ∨ w.1 = 7)) := by rw [hFW10]; exact (hkp9).new hqp1
  refine lv_dup hx hb dX5_init_50 rfl ?_
  refine lv_aload_n hx hb dX5_init_51 rfl (lv_at hl 2 rfl) ?_
  refine fw_get (v := .ref sl) hx hb hT fi_RX7 hown hz hw k10_0 rfl 0 (by decide) (hT _ wd_83) (fun _ h9 => h9) rfl dX5_init_52 ?_
  refine lv_iload_n hx hb dX5_init_55 rfl (lv_at hl 0 rfl) ?_
  refine fw_callo (fw_runV (As := [.int (nI (0 + 1))]) (rest := [.ref p1, .ref p1, .ref q1]) C hz hw (c_Jx4a65c_get_915e3 l G _ _ sl arr 4 (13, tt, 0) sa 1 k10_1 (by decide) (by decide)) (fw_cwV hT wd_444 yVJx4a65c_get_915e3 rfl rfl ⟨Nat.le_of_ble_eq_true rfl, Nat.le_of_ble_eq_true rfl⟩) (fw_recL hz hw k10_1) rfl hl.1 rfl (Nat.le_of_ble_eq_true rfl) dX5_init_56 ⟨Nat.le_of_ble_eq_true rfl, Nat.le_of_ble_eq_true rfl⟩) hw (fun r F1 H locs hw hp => ?_)
  obtain ⟨hp0, hp⟩ := hp
  rw [hp0] at hw
  refine W.widen (k := 4) (n := 247) (Nat.le_of_ble_eq_true rfl) (Nat.le_of_ble_eq_true rfl) ?_
  subst hp
  refine fw_cast hx hb hown hz hw k10_3 (q := vwCl[7]) rfl (hT _ wd_445) dX5_init_59 ?_
  refine fw_callv (fw_runI (As := [.ref (sa 1)]) (rest := [.ref p1, .ref q1]) C hz hw (c_X4_init l G _ _ p1 (7, i, 1) (sa 1) k10_s) (fw_cwI hT wd_446 yIX4_init rfl rfl ⟨Nat.le_of_ble_eq_true rfl, Nat.le_of_ble_eq_true rfl⟩) rfl hl.1 rfl (Nat.le_of_ble_eq_true rfl) dX5_init_62 ⟨Nat.le_of_ble_eq_true rfl, Nat.le_of_ble_eq_true rfl⟩) hw (fun F1 H locs hw hp => ?_)
  refine W.widen (k := 4) (n := 247) (Nat.le_of_ble_eq_true rfl) (Nat.le_of_ble_eq_true rfl) ?_
  rw [hp] at hw
  obtain ⟨W11, hFW11⟩ : ∃ z, z = va_up W10 p1 (some ((7, i, 1), fw_obj 5 [.ref (sa 1), .int (nI 0)])) := ⟨_, rfl⟩
  rw [← hFW11] at hw
  have k11_0 : W11 tb = some ((3, tt, 0), fw_obj 8 [.ref sl, .ref fr, .int cv]) := by rw [hFW11]; exact fw_up_tag k10_0 k10_s (by intro z; cases z)
  have k11_1 : W11 sl = some ((13, tt, 0), fw_ls arr 4 sa) := by rw [hFW11]; exact fw_up_tag k10_1 k10_s (by intro z; cases z)
  have k11_2 : W11 (sa 0) = some ((23, tt, 0), fw_obj 7 [.int (v1 0), .int (v2 0), .int (v3 0)]) := by rw [hFW11]; exact fw_up_tag k10_2 k10_s (by intro z; cases z)
  have k11_3 : W11 (sa 1) = some ((23, tt, 1), fw_obj 7 [.int (v1 1), .int (v2 1), .int (v3 1)]) := by rw [hFW11]; exact fw_up_tag k10_3 k10_s (by intro z; cases z)
  have k11_4 : W11 (sa 2) = some ((23, tt, 2), fw_obj 7 [.int (v1 2), .int (v2 2), .int (v3 2)]) := by rw [hFW11]; exact fw_up_tag k10_4 k10_s (by intro z; cases z)
  have k11_5 : W11 (sa 3) = some ((23, tt, 3), fw_obj 7 [.int (v1 3), .int (v2 3), .int (v3 3)]) := by rw [hFW11]; exact fw_up_tag k10_5 k10_s (by intro z; cases z)
  have k11_6 : W11 b = some ((5, i, 0), fw_obj 6 [.ref tb, .ref q1, .int (nI 0), .int (-1), .int (nI 0)]) := by rw [hFW11]; exact fw_up_tag k10_6 k10_s (by intro z; cases z)
  have k11_7 : W11 p0 = some ((7, i, 0), fw_obj 5 [.ref (sa 0), .int (nI 0)]) := by rw [hFW11]; exact fw_up_tag k10_7 k10_s (by intro z; cases z)
  have k11_8 : W11 q1 = some ((6, i, 0), fw_ls r0 1 (va_up (fun _ => 0) 0 p0)) := by rw [hFW11]; exact fw_up_tag k10_8 k10_s (by intro z; cases z)
  have k11_s : W11 p1 = some ((7, i, 1), fw_obj 5 [.ref (sa 1), .int (nI 0)]) := by rw [hFW11]; exact fw_up_self
  have hkp11 : fw_kp F W11 (fun w => w.2.1 = i ∧ (w.1 = 5 ∨ w.1 = 6 ∨ w.1 = 7)) := by rw [hFW11]; exact (hkp10).up k10_s (by simp)
  refine fw_calli (fw_runV (As := [.ref p1]) (rest := []) C hz hw (c_Jx4a65c_add_9ea2d l G _ _ q1 r0 1 (6, i, 0) (va_up (fun _ => 0) 0 p0) p1 5 (7, i, 1) _ (show 6 < 900 by decide) k11_8 (by decide) k11_s) (fw_cwV hT wd_460 yVJx4a65c_add_9ea2d rfl rfl ⟨Nat.le_of_ble_eq_true rfl, Nat.le_of_ble_eq_true rfl⟩) (fw_recL hz hw k11_8) rfl hl.1 rfl (Nat.le_of_ble_eq_true rfl) dX5_init_65 ⟨Nat.le_of_ble_eq_true rfl, Nat.le_of_ble_eq_true rfl⟩) hw (fun r F1 H locs hw hp => ?_)
  refine W.widen (k := 5) (n := 487) (Nat.le_of_ble_eq_true rfl) (Nat.le_of_ble_eq_true rfl) ?_
  obtain ⟨rfl, r1, hp⟩ := hp
  rw [hp] at hw
  obtain ⟨W12, hFW12⟩ : ∃ z, z = va_up W11 q1 (some ((6, i, 0), fw_ls r1 2 (va_up (va_up (fun _ => 0) 0 p0) 1 p1))) := ⟨_, rfl⟩
  rw [← hFW12] at hw
  have k12_0 : W12 tb = some ((3, tt, 0), fw_obj 8 [.ref sl, .ref fr, .int cv]) := by rw [hFW12]; exact fw_up_tag k11_0 k11_8 (by intro z; cases z)
  have k12_1 : W12 sl = some ((13, tt, 0), fw_ls arr 4 sa) := by rw [hFW12]; exact fw_up_tag k11_1 k11_8 (by intro z; cases z)
  have k12_2 : W12 (sa 0) = some ((23, tt, 0), fw_obj 7 [.int (v1 0), .int (v2 0), .int (v3 0)]) := by rw [hFW12]; exact fw_up_tag k11_2 k11_8 (by intro z; cases z)
  have k12_3 : W12 (sa 1) = some ((23, tt, 1), fw_obj 7 [.int (v1 1), .int (v2 1), .int (v3 1)]) := by rw [hFW12]; exact fw_up_tag k11_3 k11_8 (by intro z; cases z)
  have k12_4 : W12 (sa 2) = some ((23, tt, 2), fw_obj 7 [.int (v1 2), .int (v2 2), .int (v3 2)]) := by rw [hFW12]; exact fw_up_tag k11_4 k11_8 (by intro z; cases z)
  have k12_5 : W12 (sa 3) = some ((23, tt, 3), fw_obj 7 [.int (v1 3), .int (v2 3), .int (v3 3)]) := by rw [hFW12]; exact fw_up_tag k11_5 k11_8 (by intro z; cases z)
  have k12_6 : W12 b = some ((5, i, 0), fw_obj 6 [.ref tb, .ref q1, .int (nI 0), .int (-1), .int (nI 0)]) := by rw [hFW12]; exact fw_up_tag k11_6 k11_8 (by intro z; cases z)
  have k12_7 : W12 p0 = some ((7, i, 0), fw_obj 5 [.ref (sa 0), .int (nI 0)]) := by rw [hFW12]; exact fw_up_tag k11_7 k11_8 (by intro z; cases z)
  have k12_8 : W12 p1 = some ((7, i, 1), fw_obj 5 [.ref (sa 1), .int (nI 0)]) := by rw [hFW12]; exact fw_up_tag k11_s k11_8 (by intro z; cases z)
  have k12_s : W12 q1 = some ((6, i, 0), fw_ls r1 2 (va_up (va_up (fun _ => 0) 0 p0) 1 p1)) := by rw [hFW12]; exact fw_up_self
  have hkp12 : fw_kp F W12 (fun w => w.2.1 = i ∧ (w.1 = 5 ∨ w.1 = 6 ∨ w.1 = 7)) := by rw [hFW12]; exact (hkp11).up k11_8 (by simp)
  refine lv_pop hx hb dX5_init_68 rfl ?_
  refine lv_iinc (v := (nI (0 + 1 + 1))) (lv' := [(2, .int (nI (0 + 1 + 1))), (0, .ref b), (1, .ref tb)]) hx hb dX5_init_69 hl (k := 0) rfl (nI_1 _) (by decide) rfl (fun ls hl => ?_)
  refine lv_goto (tgt := 32) hx hb dX5_init_72 (by decide) ?_
  refine lv_iload_n hx hb dX5_init_32 rfl (lv_at hl 0 rfl) ?_
  refine lv_aload_n hx hb dX5_init_33 rfl (lv_at hl 2 rfl) ?_
  refine fw_get (v := .ref sl) hx hb hT fi_RX7 hown hz hw k12_0 rfl 0 (by decide) (hT _ wd_83) (fun _ h9 => h9) rfl dX5_init_34 ?_
  refine fw_calli (fw_runV (As := []) (rest := [.int (nI (0 + 1 + 1))]) C hz hw (c_Jx4a65c_size_8abf5 l G _ _ sl arr 4 (13, tt, 0) sa k12_1) (fw_cwV hT wd_441 yVJx4a65c_size_8abf5 rfl rfl ⟨Nat.le_of_ble_eq_true rfl, Nat.le_of_ble_eq_true rfl⟩) (fw_recL hz hw k12_1) rfl hl.1 rfl (Nat.le_of_ble_eq_true rfl) dX5_init_37 ⟨Nat.le_of_ble_eq_true rfl, Nat.le_of_ble_eq_true rfl⟩) hw (fun r F1 H locs hw hp => ?_)
  obtain ⟨hp0, hp⟩ := hp
  rw [hp0] at hw
  refine W.widen (k := 5) (n := 487) (Nat.le_of_ble_eq_true rfl) (Nat.le_of_ble_eq_true rfl) ?_
  subst hp
  refine lv_icmp_ge (tgt := 75) hx hb dX5_init_40 (by decide) (fun cx => absurd cx (by decide)) (fun cx => ?_)
  refine lv_aload_n hx hb dX5_init_43 rfl (lv_at hl 1 rfl) ?_
  refine fw_get (v := .ref q1) hx hb hT fi_RX5 hown hz hw k12_6 rfl 1 (by decide) (hT _ wd_463) (fun _ h9 => h9) rfl dX5_init_44 ?_
  refine fw_new (7, i, 2) (ci := 5) (fs := [.null, .int (nI 0)]) hx hb hT fi_RX4 tyX4 tyX4_ok hown (hT _ wd_442) (hT _ wd_443) (hT _ wd_23) hz hw hAn rfl (by intro j hj; rcases (show j = 0 ∨ j = 1 by omega) with rfl | rfl <;> rfl) (Nat.le_of_ble_eq_true rfl) (Nat.le_of_ble_eq_true rfl) dX5_init_47 (fun p2 H hqp2 hw => ?_)
  refine W.widen (k := 6) (n := 489) (Nat.le_of_ble_eq_true rfl) (Nat.le_of_ble_eq_true rfl) ?_
  obtain ⟨W13, hFW13⟩ : ∃ z, z = va_up W12 p2 (some ((7, i, 2), fw_obj 5 [.null, .int (nI 0)])) := ⟨_, rfl⟩
  rw [← hFW13] at hw
  have k13_0 : W13 tb = some ((3, tt, 0), fw_obj 8 [.ref sl, .ref fr, .int cv]) := by rw [hFW13]; exact fw_up_new k12_0 hqp2
  have k13_1 : W13 sl = some ((13, tt, 0), fw_ls arr 4 sa) := by rw [hFW13]; exact fw_up_new k12_1 hqp2
  have k13_2 : W13 (sa 0) = some ((23, tt, 0), fw_obj 7 [.int (v1 0), .int (v2 0), .int (v3 0)]) := by rw [hFW13]; exact fw_up_new k12_2 hqp2
  have k13_3 : W13 (sa 1) = some ((23, tt, 1), fw_obj 7 [.int (v1 1), .int (v2 1), .int (v3 1)]) := by rw [hFW13]; exact fw_up_new k12_3 hqp2
  have k13_4 : W13 (sa 2) = some ((23, tt, 2), fw_obj 7 [.int (v1 2), .int (v2 2), .int (v3 2)]) := by rw [hFW13]; exact fw_up_new k12_4 hqp2
  have k13_5 : W13 (sa 3) = some ((23, tt, 3), fw_obj 7 [.int (v1 3), .int (v2 3), .int (v3 3)]) := by rw [hFW13]; exact fw_up_new k12_5 hqp2
  have k13_6 : W13 b = some ((5, i, 0), fw_obj 6 [.ref tb, .ref q1, .int (nI 0), .int (-1), .int (nI 0)]) := by rw [hFW13]; exact fw_up_new k12_6 hqp2
  have k13_7 : W13 p0 = some ((7, i, 0), fw_obj 5 [.ref (sa 0), .int (nI 0)]) := by rw [hFW13]; exact fw_up_new k12_7 hqp2
  have k13_8 : W13 p1 = some ((7, i, 1), fw_obj 5 [.ref (sa 1), .int (nI 0)]) := by rw [hFW13]; exact fw_up_new k12_8 hqp2
  have k13_9 : W13 q1 = some ((6, i, 0), fw_ls r1 2 (va_up (va_up (fun _ => 0) 0 p0) 1 p1)) := by rw [hFW13]; exact fw_up_new k12_s hqp2
  have k13_s : W13 p2 = some ((7, i, 2), fw_obj 5 [.null, .int (nI 0)]) := by rw [hFW13]; exact fw_up_self
  have hkp13 : fw_kp F W13 (fun w => w.2.1 = i ∧ (w.1 = 5 ∨ w.1 = 6 ∨ w.1 = 7)) := by rw [hFW13]; exact (hkp12).new hqp2
  refine lv_dup hx hb dX5_init_50 rfl ?_
  refine lv_aload_n hx hb dX5_init_51 rfl (lv_at hl 2 rfl) ?_
  refine fw_get (v := .ref sl) hx hb hT fi_RX7 hown hz hw k13_0 rfl 0 (by decide) (hT _ wd_83) (fun _ h9 => h9) rfl dX5_init_52 ?_
  refine lv_iload_n hx hb dX5_init_55 rfl (lv_at hl 0 rfl) ?_
  refine fw_callo (fw_runV (As := [.int (nI (0 + 1 + 1))]) (rest := [.ref p2, .ref p2, .ref q1]) C hz hw (c_Jx4a65c_get_915e3 l G _ _ sl arr 4 (13, tt, 0) sa 2 k13_1 (by decide) (by decide)) (fw_cwV hT wd_444 yVJx4a65c_get_915e3 rfl rfl ⟨Nat.le_of_ble_eq_true rfl, Nat.le_of_ble_eq_true rfl⟩) (fw_recL hz hw k13_1) rfl hl.1 rfl (Nat.le_of_ble_eq_true rfl) dX5_init_56 ⟨Nat.le_of_ble_eq_true rfl, Nat.le_of_ble_eq_true rfl⟩) hw (fun r F1 H locs hw hp => ?_)
  obtain ⟨hp0, hp⟩ := hp
  rw [hp0] at hw
  refine W.widen (k := 6) (n := 489) (Nat.le_of_ble_eq_true rfl) (Nat.le_of_ble_eq_true rfl) ?_
  subst hp
  refine fw_cast hx hb hown hz hw k13_4 (q := vwCl[7]) rfl (hT _ wd_445) dX5_init_59 ?_
  refine fw_callv (fw_runI (As := [.ref (sa 2)]) (rest := [.ref p2, .ref q1]) C hz hw (c_X4_init l G _ _ p2 (7, i, 2) (sa 2) k13_s) (fw_cwI hT wd_446 yIX4_init rfl rfl ⟨Nat.le_of_ble_eq_true rfl, Nat.le_of_ble_eq_true rfl⟩) rfl hl.1 rfl (Nat.le_of_ble_eq_true rfl) dX5_init_62 ⟨Nat.le_of_ble_eq_true rfl, Nat.le_of_ble_eq_true rfl⟩) hw (fun F1 H locs hw hp => ?_)
  refine W.widen (k := 6) (n := 489) (Nat.le_of_ble_eq_true rfl) (Nat.le_of_ble_eq_true rfl) ?_
  rw [hp] at hw
  obtain ⟨W14, hFW14⟩ : ∃ z, z = va_up W13 p2 (some ((7, i, 2), fw_obj 5 [.ref (sa 2), .int (nI 0)])) := ⟨_, rfl⟩
  rw [← hFW14] at hw
  have k14_0 : W14 tb = some ((3, tt, 0), fw_obj 8 [.ref sl, .ref fr, .int cv]) := by rw [hFW14]; exact fw_up_tag k13_0 k13_s (by intro z; cases z)
  have k14_1 : W14 sl = some ((13, tt, 0), fw_ls arr 4 sa) := by rw [hFW14]; exact fw_up_tag k13_1 k13_s (by intro z; cases z)
  have k14_2 : W14 (sa 0) = some ((23, tt, 0), fw_obj 7 [.int (v1 0), .int (v2 0), .int (v3 0)]) := by rw [hFW14]; exact fw_up_tag k13_2 k13_s (by intro z; cases z)
  have k14_3 : W14 (sa 1) = some ((23, tt, 1), fw_obj 7 [.int (v1 1), .int (v2 1), .int (v3 1)]) := by rw [hFW14]; exact fw_up_tag k13_3 k13_s (by intro z; cases z)
  have k14_4 : W14 (sa 2) = some ((23, tt, 2), fw_obj 7 [.int (v1 2), .int (v2 2), .int (v3 2)]) := by rw [hFW14]; exact fw_up_tag k13_4 k13_s (by intro z; cases z)
  have k14_5 : W14 (sa 3) = some ((23, tt, 3), fw_obj 7 [.int (v1 3), .int (v2 3), .int (v3 3)]) := by rw [hFW14]; exact fw_up_tag k13_5 k13_s (by intro z; cases z)
  have k14_6 : W14 b = some ((5, i, 0), fw_obj 6 [.ref tb, .ref q1, .int (nI 0), .int (-1), .int (nI 0)]) := by rw [hFW14]; exact fw_up_tag k13_6 k13_s (by intro z; cases z)
  have k14_7 : W14 p0 = some ((7, i, 0), fw_obj 5 [.ref (sa 0), .int (nI 0)]) := by rw [hFW14]; exact fw_up_tag k13_7 k13_s (by intro z; cases z)
  have k14_8 : W14 p1 = some ((7, i, 1), fw_obj 5 [.ref (sa 1), .int (nI 0)]) := by rw [hFW14]; exact fw_up_tag k13_8 k13_s (by intro z; cases z)
  have k14_9 : W14 q1 = some ((6, i, 0), fw_ls r1 2 (va_up (va_up (fun _ => 0) 0 p0) 1 p1)) := by rw [hFW14]; exact fw_up_tag k13_9 k13_s (by intro z; cases z)
  have k14_s : W14 p2 = some ((7, i, 2), fw_obj 5 [.ref (sa 2), .int (nI 0)]) := by rw [hFW14]; exact fw_up_self
  have hkp14 : fw_kp F W14 (fun w => w.2.1 = i ∧ (w.1 = 5 ∨ w.1 = 6 ∨ w.1 = 7)) := by rw [hFW14]; exact (hkp13).up k13_s (by simp)
  refine fw_calli (fw_runV (As := [.ref p2]) (rest := []) C hz hw (c_Jx4a65c_add_9ea2d l G _ _ q1 r1 2 (6, i, 0) (va_up (va_up (fun _ => 0) 0 p0) 1 p1) p2 5 (7, i, 2) _ (show 6 < 900 by decide) k14_9 (by decide) k14_s) (fw_cwV hT wd_460 yVJx4a65c_add_9ea2d rfl rfl ⟨Nat.le_of_ble_eq_true rfl, Nat.le_of_ble_eq_true rfl⟩) (fw_recL hz hw k14_9) rfl hl.1 rfl (Nat.le_of_ble_eq_true rfl) dX5_init_65 ⟨Nat.le_of_ble_eq_true rfl, Nat.le_of_ble_eq_true rfl⟩) hw (fun r F1 H locs hw hp => ?_)
  refine W.widen (k := 7) (n := 729) (Nat.le_of_ble_eq_true rfl) (Nat.le_of_ble_eq_true rfl) ?_
  obtain ⟨rfl, r2, hp⟩ := hp
  rw [hp] at hw
  obtain ⟨W15, hFW15⟩ : ∃ z, z = va_up W14 q1 (some ((6, i, 0), fw_ls r2 3 (va_up (va_up (va_up (fun _ => 0) 0 p0) 1 p1) 2 p2))) := ⟨_, rfl⟩
  rw [← hFW15] at hw
  have k15_0 : W15 tb = some ((3, tt, 0), fw_obj 8 [.ref sl, .ref fr, .int cv]) := by rw [hFW15]; exact fw_up_tag k14_0 k14_9 (by intro z; cases z)
  have k15_1 : W15 sl = some ((13, tt, 0), fw_ls arr 4 sa) := by rw [hFW15]; exact fw_up_tag k14_1 k14_9 (by intro z; cases z)
  have k15_2 : W15 (sa 0) = some ((23, tt, 0), fw_obj 7 [.int (v1 0), .int (v2 0), .int (v3 0)]) := by rw [hFW15]; exact fw_up_tag k14_2 k14_9 (by intro z; cases z)
  have k15_3 : W15 (sa 1) = some ((23, tt, 1), fw_obj 7 [.int (v1 1), .int (v2 1), .int (v3 1)]) := by rw [hFW15]; exact fw_up_tag k14_3 k14_9 (by intro z; cases z)
  have k15_4 : W15 (sa 2) = some ((23, tt, 2), fw_obj 7 [.int (v1 2), .int (v2 2), .int (v3 2)]) := by rw [hFW15]; exact fw_up_tag k14_4 k14_9 (by intro z; cases z)
  have k15_5 : W15 (sa 3) = some ((23, tt, 3), fw_obj 7 [.int (v1 3), .int (v2 3), .int (v3 3)]) := by rw [hFW15]; exact fw_up_tag k14_5 k14_9 (by intro z; cases z)
  have k15_6 : W15 b = some ((5, i, 0), fw_obj 6 [.ref tb, .ref q1, .int (nI 0), .int (-1), .int (nI 0)]) := by rw [hFW15]; exact fw_up_tag k14_6 k14_9 (by intro z; cases z)
  have k15_7 : W15 p0 = some ((7, i, 0), fw_obj 5 [.ref (sa 0), .int (nI 0)]) := by rw [hFW15]; exact fw_up_tag k14_7 k14_9 (by intro z; cases z)
  have k15_8 : W15 p1 = some ((7, i, 1), fw_obj 5 [.ref (sa 1), .int (nI 0)]) := by rw [hFW15]; exact fw_up_tag k14_8 k14_9 (by intro z; cases z)
  have k15_9 : W15 p2 = some ((7, i, 2), fw_obj 5 [.ref (sa 2), .int (nI 0)]) := by rw [hFW15]; exact fw_up_tag k14_s k14_9 (by intro z; cases z)
  have k15_s : W15 q1 = some ((6, i, 0), fw_ls r2 3 (va_up (va_up (va_up (fun _ => 0) 0 p0) 1 p1) 2 p2)) := by rw [hFW15]; exact fw_up_self
  have hkp15 : fw_kp F W15 (fun w => w.2.1 = i ∧ (w.1 = 5 ∨ w.1 = 6 ∨ w.1 = 7)) := by rw [hFW15]; exact (hkp14).up k14_9 (by simp)
  refine lv_pop hx hb dX5_init_68 rfl ?_
  refine lv_iinc (v := (nI (0 + 1 + 1 + 1))) (lv' := [(2, .int (nI (0 + 1 + 1 + 1))), (0, .ref b), (1, .ref tb)]) hx hb dX5_init_69 hl (k := 0) rfl (nI_1 _) (by decide) rfl (fun ls hl => ?_)
  refine lv_goto (tgt := 32) hx hb dX5_init_72 (by decide) ?_
  refine lv_iload_n hx hb dX5_init_32 rfl (lv_at hl 0 rfl) ?_
  refine lv_aload_n hx hb dX5_init_33 rfl (lv_at hl 2 rfl) ?_
  refine fw_get (v := .ref sl) hx hb hT fi_RX7 hown hz hw k15_0 rfl 0 (by decide) (hT _ wd_83) (fun _ h9 => h9) rfl dX5_init_34 ?_
  refine fw_calli (fw_runV (As := []) (rest := [.int (nI (0 + 1 + 1 + 1))]) C hz hw (c_Jx4a65c_size_8abf5 l G _ _ sl arr 4 (13, tt, 0) sa k15_1) (fw_cwV hT wd_441 yVJx4a65c_size_8abf5 rfl rfl ⟨Nat.le_of_ble_eq_true rfl, Nat.le_of_ble_eq_true rfl⟩) (fw_recL hz hw k15_1) rfl hl.1 rfl (Nat.le_of_ble_eq_true rfl) dX5_init_37 ⟨Nat.le_of_ble_eq_true rfl, Nat.le_of_ble_eq_true rfl⟩) hw (fun r F1 H locs hw hp => ?_)
  obtain ⟨hp0, hp⟩ := hp
  rw [hp0] at hw
  refine W.widen (k := 7) (n := 729) (Nat.le_of_ble_eq_true rfl) (Nat.le_of_ble_eq_true rfl) ?_
  subst hp
  refine lv_icmp_ge (tgt := 75) hx hb dX5_init_40 (by decide) (fun cx => absurd cx (by decide)) (fun cx => ?_)
  refine lv_aload_n hx hb dX5_init_43 rfl (lv_at hl 1 rfl) ?_
  refine fw_get (v := .ref q1) hx hb hT fi_RX5 hown hz hw k15_6 rfl 1 (by decide) (hT _ wd_463) (fun _ h9 => h9) rfl dX5_init_44 ?_
  refine fw_new (7, i, 3) (ci := 5) (fs := [.null, .int (nI 0)]) hx hb hT fi_RX4 tyX4 tyX4_ok hown (hT _ wd_442) (hT _ wd_443) (hT _ wd_23) hz hw hAn rfl (by intro j hj; rcases (show j = 0 ∨ j = 1 by omega) with rfl | rfl <;> rfl) (Nat.le_of_ble_eq_true rfl) (Nat.le_of_ble_eq_true rfl) dX5_init_47 (fun p3 H hqp3 hw => ?_)
  refine W.widen (k := 8) (n := 731) (Nat.le_of_ble_eq_true rfl) (Nat.le_of_ble_eq_true rfl) ?_
  obtain ⟨W16, hFW16⟩ : ∃ z, z = va_up W15 p3 (some ((7, i, 3), fw_obj 5 [.null, .int (nI 0)])) := ⟨_, rfl⟩
  rw [← hFW16] at hw
  have k16_0 : W16 tb = some ((3, tt, 0), fw_obj 8 [.ref sl, .ref fr, .int cv]) := by rw [hFW16]; exact fw_up_new k15_0 hqp3
  have k16_1 : W16 sl = some ((13, tt, 0), fw_ls arr 4 sa) := by rw [hFW16]; exact fw_up_new k15_1 hqp3
  have k16_2 : W16 (sa 0) = some ((23, tt, 0), fw_obj 7 [.int (v1 0), .int (v2 0), .int (v3 0)]) := by rw [hFW16]; exact fw_up_new k15_2 hqp3
  have k16_3 : W16 (sa 1) = some ((23, tt, 1), fw_obj 7 [.int (v1 1), .int (v2 1), .int (v3 1)]) := by rw [hFW16]; exact fw_up_new k15_3 hqp3
  have k16_4 : W16 (sa 2) = some ((23, tt, 2), fw_obj 7 [.int (v1 2), .int (v2 2), .int (v3 2)]) := by rw [hFW16]; exact fw_up_new k15_4 hqp3
  have k16_5 : W16 (sa 3) = some ((23, tt, 3), fw_obj 7 [.int (v1 3), .int (v2 3), .int (v3 3)]) := by rw [hFW16]; exact fw_up_new k15_5 hqp3
  have k16_6 : W16 b = some ((5, i, 0), fw_obj 6 [.ref tb, .ref q1, .int (nI 0), .int (-1), .int (nI 0)]) := by rw [hFW16]; exact fw_up_new k15_6 hqp3
  have k16_7 : W16 p0 = some ((7, i, 0), fw_obj 5 [.ref (sa 0), .int (nI 0)]) := by rw [hFW16]; exact fw_up_new k15_7 hqp3
  have k16_8 : W16 p1 = some ((7, i, 1), fw_obj 5 [.ref (sa 1), .int (nI 0)]) := by rw [hFW16]; exact fw_up_new k15_8 hqp3
  have k16_9 : W16 p2 = some ((7, i, 2), fw_obj 5 [.ref (sa 2), .int (nI 0)]) := by rw [hFW16]; exact fw_up_new k15_9 hqp3
  have k16_10 : W16 q1 = some ((6, i, 0), fw_ls r2 3 (va_up (va_up (va_up (fun _ => 0) 0 p0) 1 p1) 2 p2)) := by rw [hFW16]; exact fw_up_new k15_s hqp3
  have k16_s : W16 p3 = some ((7, i, 3), fw_obj 5 [.null, .int (nI 0)]) := by rw [hFW16]; exact fw_up_self
  have hkp16 : fw_kp F W16 (fun w => w.2.1 = i ∧ (w.1 = 5 ∨ w.1 = 6 ∨ w.1 = 7)) := by rw [hFW16]; exact (hkp15).new hqp3
  refine lv_dup hx hb dX5_init_50 rfl ?_
  refine lv_aload_n hx hb dX5_init_51 rfl (lv_at hl 2 rfl) ?_
  refine fw_get (v := .ref sl) hx hb hT fi_RX7 hown hz hw k16_0 rfl 0 (by decide) (hT _ wd_83) (fun _ h9 => h9) rfl dX5_init_52 ?_
  refine lv_iload_n hx hb dX5_init_55 rfl (lv_at hl 0 rfl) ?_
  refine fw_callo (fw_runV (As := [.int (nI (0 + 1 + 1 + 1))]) (rest := [.ref p3, .ref p3, .ref q1]) C hz hw (c_Jx4a65c_get_915e3 l G _ _ sl arr 4 (13, tt, 0) sa 3 k16_1 (by decide) (by decide)) (fw_cwV hT wd_444 yVJx4a65c_get_915e3 rfl rfl ⟨Nat.le_of_ble_eq_true rfl, Nat.le_of_ble_eq_true rfl⟩) (fw_recL hz hw k16_1) rfl hl.1 rfl (Nat.le_of_ble_eq_true rfl) dX5_init_56 ⟨Nat.le_of_ble_eq_true rfl, Nat.le_of_ble_eq_true rfl⟩) hw (fun r F1 H locs hw hp => ?_)
  obtain ⟨hp0, hp⟩ := hp
  rw [hp0] at hw
  refine W.widen (k := 8) (n := 731) (Nat.le_of_ble_eq_true rfl) (Nat.le_of_ble_eq_true rfl) ?_
  subst hp
  refine fw_cast hx hb hown hz hw k16_5 (q := vwCl[7]) rfl (hT _ wd_445) dX5_init_59 ?_
  refine fw_callv (fw_runI (As := [.ref (sa 3)]) (rest := [.ref p3, .ref q1]) C hz hw (c_X4_init l G _ _ p3 (7, i, 3) (sa 3) k16_s) (fw_cwI hT wd_446 yIX4_init rfl rfl ⟨Nat.le_of_ble_eq_true rfl, Nat.le_of_ble_eq_true rfl⟩) rfl hl.1 rfl (Nat.le_of_ble_eq_true rfl) dX5_init_62 ⟨Nat.le_of_ble_eq_true rfl, Nat.le_of_ble_eq_true rfl⟩) hw (fun F1 H locs hw hp => ?_)
  refine W.widen (k := 8) (n := 731) (Nat.le_of_ble_eq_true rfl) (Nat.le_of_ble_eq_true rfl) ?_
  rw [hp] at hw
  obtain ⟨W17, hFW17⟩ : ∃ z, z = va_up W16 p3 (some ((7, i, 3), fw_obj 5 [.ref (sa 3), .int (nI 0)])) := ⟨_, rfl⟩
  rw [← hFW17] at hw
  have k17_0 : W17 tb = some ((3, tt, 0), fw_obj 8 [.ref sl, .ref fr, .int cv]) := by rw [hFW17]; exact fw_up_tag k16_0 k16_s (by intro z; cases z)
  have k17_1 : W17 sl = some ((13, tt, 0), fw_ls arr 4 sa) := by rw [hFW17]; exact fw_up_tag k16_1 k16_s (by intro z; cases z)
  have k17_2 : W17 (sa 0) = some ((23, tt, 0), fw_obj 7 [.int (v1 0), .int (v2 0), .int (v3 0)]) := by rw [hFW17]; exact fw_up_tag k16_2 k16_s (by intro z; cases z)
  have k17_3 : W17 (sa 1) = some ((23, tt, 1), fw_obj 7 [.int (v1 1), .int (v2 1), .int (v3 1)]) := by rw [hFW17]; exact fw_up_tag k16_3 k16_s (by intro z; cases z)
  have k17_4 : W17 (sa 2) = some ((23, tt, 2), fw_obj 7 [.int (v1 2), .int (v2 2), .int (v3 2)]) := by rw [hFW17]; exact fw_up_tag k16_4 k16_s (by intro z; cases z)
  have k17_5 : W17 (sa 3) = some ((23, tt, 3), fw_obj 7 [.int (v1 3), .int (v2 3), .int (v3 3)]) := by rw [hFW17]; exact fw_up_tag k16_5 k16_s (by intro z; cases z)
  have k17_6 : W17 b = some ((5, i, 0), fw_obj 6 [.ref tb, .ref q1, .int (nI 0), .int (-1), .int (nI 0)]) := by rw [hFW17]; exact fw_up_tag k16_6 k16_s (by intro z; cases z)
  have k17_7 : W17 p0 = some ((7, i, 0), fw_obj 5 [.ref (sa 0), .int (nI 0)]) := by rw [hFW17]; exact fw_up_tag k16_7 k16_s (by intro z; cases z)
  have k17_8 : W17 p1 = some ((7, i, 1), fw_obj 5 [.ref (sa 1), .int (nI 0)]) := by rw [hFW17]; exact fw_up_tag k16_8 k16_s (by intro z; cases z)
  have k17_9 : W17 p2 = some ((7, i, 2), fw_obj 5 [.ref (sa 2), .int (nI 0)]) := by rw [hFW17]; exact fw_up_tag k16_9 k16_s (by intro z; cases z)
  have k17_10 : W17 q1 = some ((6, i, 0), fw_ls r2 3 (va_up (va_up (va_up (fun _ => 0) 0 p0) 1 p1) 2 p2)) := by rw [hFW17]; exact fw_up_tag k16_10 k16_s (by intro z; cases z)
  have k17_s : W17 p3 = some ((7, i, 3), fw_obj 5 [.ref (sa 3), .int (nI 0)]) := by rw [hFW17]; exact fw_up_self
  have hkp17 : fw_kp F W17 (fun w => w.2.1 = i ∧ (w.1 = 5 ∨ w.1 = 6 ∨ w.1 = 7)) := by rw [hFW17]; exact (hkp16).up k16_s (by simp)
  refine fw_calli (fw_runV (As := [.ref p3]) (rest := []) C hz hw (c_Jx4a65c_add_9ea2d l G _ _ q1 r2 3 (6, i, 0) (va_up (va_up (va_up (fun _ => 0) 0 p0) 1 p1) 2 p2) p3 5 (7, i, 3) _ (show 6 < 900 by decide) k17_10 (by decide) k17_s) (fw_cwV hT wd_460 yVJx4a65c_add_9ea2d rfl rfl ⟨Nat.le_of_ble_eq_true rfl, Nat.le_of_ble_eq_true rfl⟩) (fw_recL hz hw k17_10) rfl hl.1 rfl (Nat.le_of_ble_eq_true rfl) dX5_init_65 ⟨Nat.le_of_ble_eq_true rfl, Nat.le_of_ble_eq_true rfl⟩) hw (fun r F1 H locs hw hp => ?_)
  refine W.widen (k := 9) (n := 971) (Nat.le_of_ble_eq_true rfl) (Nat.le_of_ble_eq_true rfl) ?_
  obtain ⟨rfl, r3, hp⟩ := hp
  rw [hp] at hw
  obtain ⟨W18, hFW18⟩ : ∃ z, z = va_up W17 q1 (some ((6, i, 0), fw_ls r3 4 (va_up (va_up (va_up (va_up (fun _ => 0) 0 p0) 1 p1) 2 p2) 3 p3))) := ⟨_, rfl⟩
  rw [← hFW18] at hw
  have k18_0 : W18 tb = some ((3, tt, 0), fw_obj 8 [.ref sl, .ref fr, .int cv]) := by rw [hFW18]; exact fw_up_tag k17_0 k17_10 (by intro z; cases z)
  have k18_1 : W18 sl = some ((13, tt, 0), fw_ls arr 4 sa) := by rw [hFW18]; exact fw_up_tag k17_1 k17_10 (by intro z; cases z)
  have k18_2 : W18 (sa 0) = some ((23, tt, 0), fw_obj 7 [.int (v1 0), .int (v2 0), .int (v3 0)]) := by rw [hFW18]; exact fw_up_tag k17_2 k17_10 (by intro z; cases z)
  have k18_3 : W18 (sa 1) = some ((23, tt, 1), fw_obj 7 [.int (v1 1), .int (v2 1), .int (v3 1)]) := by rw [hFW18]; exact fw_up_tag k17_3 k17_10 (by intro z; cases z)
  have k18_4 : W18 (sa 2) = some ((23, tt, 2), fw_obj 7 [.int (v1 2), .int (v2 2), .int (v3 2)]) := by rw [hFW18]; exact fw_up_tag k17_4 k17_10 (by intro z; cases z)
  have k18_5 : W18 (sa 3) = some ((23, tt, 3), fw_obj 7 [.int (v1 3), .int (v2 3), .int (v3 3)]) := by rw [hFW18]; exact fw_up_tag k17_5 k17_10 (by intro z; cases z)
  have k18_6 : W18 b = some ((5, i, 0), fw_obj 6 [.ref tb, .ref q1, .int (nI 0), .int (-1), .int (nI 0)]) := by rw [hFW18]; exact fw_up_tag k17_6 k17_10 (by intro z; cases z)
  have k18_7 : W18 p0 = some ((7, i, 0), fw_obj 5 [.ref (sa 0), .int (nI 0)]) := by rw [hFW18]; exact fw_up_tag k17_7 k17_10 (by intro z; cases z)
  have k18_8 : W18 p1 = some ((7, i, 1), fw_obj 5 [.ref (sa 1), .int (nI 0)]) := by rw [hFW18]; exact fw_up_tag k17_8 k17_10 (by intro z; cases z)
  have k18_9 : W18 p2 = some ((7, i, 2), fw_obj 5 [.ref (sa 2), .int (nI 0)]) := by rw [hFW18]; exact fw_up_tag k17_9 k17_10 (by intro z; cases z)
  have k18_10 : W18 p3 = some ((7, i, 3), fw_obj 5 [.ref (sa 3), .int (nI 0)]) := by rw [hFW18]; exact fw_up_tag k17_s k17_10 (by intro z; cases z)
  have k18_s : W18 q1 = some ((6, i, 0), fw_ls r3 4 (va_up (va_up (va_up (va_up (fun _ => 0) 0 p0) 1 p1) 2 p2) 3 p3)) := by rw [hFW18]; exact fw_up_self
  have hkp18 : fw_kp F W18 (fun w => w.2.1 = i ∧ (w.1 = 5 ∨ w.1 = 6 ∨ w.1 = 7)) := by rw [hFW18]; exact (hkp17).up k17_10 (by simp)
  refine lv_pop hx hb dX5_init_68 rfl ?_
  refine lv_iinc (v := (nI (0 + 1 + 1 + 1 + 1))) (lv' := [(2, .int (nI (0 + 1 + 1 + 1 + 1))), (0, .ref b), (1, .ref tb)]) hx hb dX5_init_69 hl (k := 0) rfl (nI_1 _) (by decide) rfl (fun ls hl => ?_)
  refine lv_goto (tgt := 32) hx hb dX5_init_72 (by decide) ?_
  refine lv_iload_n hx hb dX5_init_32 rfl (lv_at hl 0 rfl) ?_
  refine lv_aload_n hx hb dX5_init_33 rfl (lv_at hl 2 rfl) ?_
  refine fw_get (v := .ref sl) hx hb hT fi_RX7 hown hz hw k18_0 rfl 0 (by decide) (hT _ wd_83) (fun _ h9 => h9) rfl dX5_init_34 ?_
  refine fw_calli (fw_runV (As := []) (rest := [.int (nI (0 + 1 + 1 + 1 + 1))]) C hz hw (c_Jx4a65c_size_8abf5 l G _ _ sl arr 4 (13, tt, 0) sa k18_1) (fw_cwV hT wd_441 yVJx4a65c_size_8abf5 rfl rfl ⟨Nat.le_of_ble_eq_true rfl, Nat.le_of_ble_eq_true rfl⟩) (fw_recL hz hw k18_1) rfl hl.1 rfl (Nat.le_of_ble_eq_true rfl) dX5_init_37 ⟨Nat.le_of_ble_eq_true rfl, Nat.le_of_ble_eq_true rfl⟩) hw (fun r F1 H locs hw hp => ?_)
  obtain ⟨hp0, hp⟩ := hp
  rw [hp0] at hw
  refine W.widen (k := 9) (n := 971) (Nat.le_of_ble_eq_true rfl) (Nat.le_of_ble_eq_true rfl) ?_
  subst hp
  refine lv_icmp_ge (tgt := 75) hx hb dX5_init_40 (by decide) (fun cx => ?_) (fun cx => absurd cx (by decide))
  refine lv_aload_n hx hb dX5_init_75 rfl (lv_at hl 1 rfl) ?_
  refine lv_iconst (v := (nI 2)) hx hb dX5_init_76 (by decide) ?_
  refine lv_aload_n hx hb dX5_init_77 rfl (lv_at hl 2 rfl) ?_
  refine fw_get (v := .ref sl) hx hb hT fi_RX7 hown hz hw k18_0 rfl 0 (by decide) (hT _ wd_83) (fun _ h9 => h9) rfl dX5_init_78 ?_
  refine fw_calli (fw_runV (As := []) (rest := [.int (nI 2), .ref b]) C hz hw (c_Jx4a65c_size_8abf5 l G _ _ sl arr 4 (13, tt, 0) sa k18_1) (fw_cwV hT wd_441 yVJx4a65c_size_8abf5 rfl rfl ⟨Nat.le_of_ble_eq_true rfl, Nat.le_of_ble_eq_true rfl⟩) (fw_recL hz hw k18_1) rfl hl.1 rfl (Nat.le_of_ble_eq_true rfl) dX5_init_81 ⟨Nat.le_of_ble_eq_true rfl, Nat.le_of_ble_eq_true rfl⟩) hw (fun r F1 H locs hw hp => ?_)
  obtain ⟨hp0, hp⟩ := hp
  rw [hp0] at hw
  refine W.widen (k := 9) (n := 971) (Nat.le_of_ble_eq_true rfl) (Nat.le_of_ble_eq_true rfl) ?_
  subst hp
  refine lv_imul hx hb dX5_init_84 ?_
  refine fw_top (pk_mul _ _) ?_
  refine fw_top (x' := (nI 8)) (rfl) ?_
  refine fw_put (v := .int (nI 8)) (fs' := [.ref tb, .ref q1, .int (nI 8), .int (-1), .int (nI 0)]) hx hb hT fi_RX5 tyX5 tyX5_ok nmX5 hown hz hw k18_6 rfl 2 (by decide) (hT _ wd_465) (fun _ h9 => h9) rfl (ty := tyX5 2) (by decide +kernel) rfl rfl (Nat.le_of_ble_eq_true rfl) rfl dX5_init_85 (fun H locs hw => ?_)
  obtain ⟨W19, hFW19⟩ : ∃ z, z = va_up W18 b (some ((5, i, 0), fw_obj 6 [.ref tb, .ref q1, .int (nI 8), .int (-1), .int (nI 0)])) := ⟨_, rfl⟩
  rw [← hFW19] at hw
  have k19_0 : W19 tb = some ((3, tt, 0), fw_obj 8 [.ref sl, .ref fr, .int cv]) := by rw [hFW19]; exact fw_up_tag k18_0 k18_6 (by intro z; cases z)
  have k19_1 : W19 sl = some ((13, tt, 0), fw_ls arr 4 sa) := by rw [hFW19]; exact fw_up_tag k18_1 k18_6 (by intro z; cases z)
  have k19_2 : W19 (sa 0) = some ((23, tt, 0), fw_obj 7 [.int (v1 0), .int (v2 0), .int (v3 0)]) := by rw [hFW19]; exact fw_up_tag k18_2 k18_6 (by intro z; cases z)
  have k19_3 : W19 (sa 1) = some ((23, tt, 1), fw_obj 7 [.int (v1 1), .int (v2 1), .int (v3 1)]) := by rw [hFW19]; exact fw_up_tag k18_3 k18_6 (by intro z; cases z)
  have k19_4 : W19 (sa 2) = some ((23, tt, 2), fw_obj 7 [.int (v1 2), .int (v2 2), .int (v3 2)]) := by rw [hFW19]; exact fw_up_tag k18_4 k18_6 (by intro z; cases z)
  have k19_5 : W19 (sa 3) = some ((23, tt, 3), fw_obj 7 [.int (v1 3), .int (v2 3), .int (v3 3)]) := by rw [hFW19]; exact fw_up_tag k18_5 k18_6 (by intro z; cases z)
  have k19_6 : W19 p0 = some ((7, i, 0), fw_obj 5 [.ref (sa 0), .int (nI 0)]) := by rw [hFW19]; exact fw_up_tag k18_7 k18_6 (by intro z; cases z)
  have k19_7 : W19 p1 = some ((7, i, 1), fw_obj 5 [.ref (sa 1), .int (nI 0)]) := by rw [hFW19]; exact fw_up_tag k18_8 k18_6 (by intro z; cases z)
  have k19_8 : W19 p2 = some ((7, i, 2), fw_obj 5 [.ref (sa 2), .int (nI 0)]) := by rw [hFW19]; exact fw_up_tag k18_9 k18_6 (by intro z; cases z)
  have k19_9 : W19 p3 = some ((7, i, 3), fw_obj 5 [.ref (sa 3), .int (nI 0)]) := by rw [hFW19]; exact fw_up_tag k18_10 k18_6 (by intro z; cases z)
  have k19_10 : W19 q1 = some ((6, i, 0), fw_ls r3 4 (va_up (va_up (va_up (va_up (fun _ => 0) 0 p0) 1 p1) 2 p2) 3 p3)) := by rw [hFW19]; exact fw_up_tag k18_s k18_6 (by intro z; cases z)
  have k19_s : W19 b = some ((5, i, 0), fw_obj 6 [.ref tb, .ref q1, .int (nI 8), .int (-1), .int (nI 0)]) := by rw [hFW19]; exact fw_up_self
  have hkp19 : fw_kp F W19 (fun w => w.2.1 = i ∧ (w.1 = 5 ∨ w.1 = 6 ∨ w.1 = 7)) := by rw [hFW19]; exact (hkp18).up k18_6 (by simp)
  exact fw_vret hx hb hr hlk (Nat.le_of_ble_eq_true rfl) (Nat.le_of_ble_eq_true rfl) hw dX5_init_88 (⟨q1, r3, (va_up (va_up (va_up (va_up (fun _ => 0) 0 p0) 1 p1) 2 p2) 3 p3), k19_s, k19_10, fun k hk => by
      rcases (show k = 0 ∨ k = 1 ∨ k = 2 ∨ k = 3 by omega) with rfl | rfl | rfl | rfl
      · exact k19_6
      · exact k19_7
      · exact k19_8
      · exact k19_9, hkp19⟩)
