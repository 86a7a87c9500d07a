/-! The class: scrapping the draft. -/
set_option maxHeartbeats 4000000 in
set_option maxRecDepth 100000 in
theorem c_X8_scrap (l : Launch) (G : fw_G) (F : fw_F) (sz : Nat) (x lc lt lo lm lw dr : Nat) (tm : Int32) (ds dfr arr nD i : Nat) (da : Nat → Nat) (hX : cr_X F x lc lt lo lm lw dr tm) (hD : F dr = some ((3, i, 0), fw_obj 8 [.ref ds, .ref dfr, .int (nI 0)])) (hL : F ds = some ((13, i, 0), fw_ls arr nD da)) : Met l yX8_scrap (fw_ws yX8_scrap cX8_scrap 2 (some (.int))) { frames := 5, cells := 3, slots := 8, locals := 100 } (va_Pc [.ref x] (fw_Pre G F sz)) (va_Qi (fun r F1 => r = nI nD ∧ ∃ b q1 q2, cr_X F1 x lc lt lo lm lw b tm ∧ F1 b = some ((3, i, 0), fw_obj 8 [.ref q1, .ref q2, .int (nI 0)]) ∧ F1 q1 = some ((13, i, 0), fw_ls (fw_ea G) 0 (fun _ => 0)) ∧ F1 q2 = some ((33, i, 0), fw_obj 2 [.long (lN 1), .long (lN 1)]) ∧ fw_kp F F1 (fun u => u = (50, 0, 0) ∨ u = (3, i, 0))) (fw_B G (fw_W G F sz)) (fw_W G F sz)) 3 8 (fw_W G F sz) := by
  refine fw_met (lv := [(0, .ref x)]) (by decide +kernel) (Nat.le_of_ble_eq_true rfl) rfl ?_
  intro A hA p e s m below meth c ls hx hb hml hown hT hr hlk hin hz hsz hw hAn hl
  rw [← hA]
  have hown : s.vm.findClass RX8 = some m.cls := hown
  have C : CallFix p m c cX8_scrap 2 s _ fw_tb RX8 := ⟨hx, hb, hml, hown, hT⟩
  refine lv_aload_n hx hb dX8_scrap_0 rfl (lv_at hl 0 rfl) ?_
  refine fw_get (v := .ref dr) hx hb hT fi_RX8 hown hz hw hX rfl 5 (by decide) (hT _ wd_180) (fun _ h9 => h9) rfl dX8_scrap_1 ?_
  refine fw_get (v := .ref ds) hx hb hT fi_RX7 hown hz hw hD rfl 0 (by decide) (hT _ wd_84) (fun _ h9 => h9) rfl dX8_scrap_4 ?_
  refine fw_calli (fw_runV (As := []) (rest := []) C hz hw (c_Jx4a65c_size_8abf5 l G _ _ ds arr nD (13, i, 0) da hL) (fw_cwV hT wd_278 yVJx4a65c_size_8abf5 rfl rfl ⟨Nat.le_of_ble_eq_true rfl, Nat.le_of_ble_eq_true rfl⟩) (fw_recL hz hw hL) rfl hl.1 rfl (Nat.le_of_ble_eq_true rfl) dX8_scrap_7 ⟨Nat.le_of_ble_eq_true rfl, Nat.le_of_ble_eq_true rfl⟩) hw (fun r F1 H locs hw hp => ?_)
  obtain ⟨hp0, hp⟩ := hp
  rw [hp0] at hw
  refine W.widen (k := 0) (n := 0) (Nat.le_of_ble_eq_true rfl) (Nat.le_of_ble_eq_true rfl) ?_
  subst hp
  refine lv_istore_n (lv' := [(1, .int (nI nD)), (0, .ref x)]) hx hb dX8_scrap_10 rfl hl (by decide) rfl (fun ls hl => ?_)
  refine lv_aload_n hx hb dX8_scrap_11 rfl (lv_at hl 1 rfl) ?_
  refine fw_new (3, i, 0) (ci := 8) (fs := [.null, .null, .int (nI 0)]) hx hb hT fi_RX7 tyX7 tyX7_ok hown (hT _ wd_59) (hT _ wd_60) (hT _ wd_5) hz hw hAn rfl (by intro j hj; rcases (show j = 0 ∨ j = 1 ∨ j = 2 by omega) with rfl | rfl | rfl <;> rfl) (Nat.le_of_ble_eq_true rfl) (Nat.le_of_ble_eq_true rfl) dX8_scrap_12 (fun b9 H hqb9 hw => ?_)
  refine W.widen (k := 1) (n := 3) (Nat.le_of_ble_eq_true rfl) (Nat.le_of_ble_eq_true rfl) ?_
  obtain ⟨W1, hFW1⟩ : ∃ z, z = va_up F b9 (some ((3, i, 0), fw_obj 8 [.null, .null, .int (nI 0)])) := ⟨_, rfl⟩
  rw [← hFW1] at hw
  have k1_0 : W1 x = some ((50, 0, 0), fw_obj 9 [.ref lc, .ref lt, .ref lo, .ref lm, .ref lw, .ref dr, .int tm]) := by rw [hFW1]; exact fw_up_new hX hqb9
  have k1_1 : W1 dr = some ((3, i, 0), fw_obj 8 [.ref ds, .ref dfr, .int (nI 0)]) := by rw [hFW1]; exact fw_up_new hD hqb9
  have k1_2 : W1 ds = some ((13, i, 0), fw_ls arr nD da) := by rw [hFW1]; exact fw_up_new hL hqb9
  have k1_s : W1 b9 = some ((3, i, 0), fw_obj 8 [.null, .null, .int (nI 0)]) := by rw [hFW1]; exact fw_up_self
  refine lv_dup hx hb dX8_scrap_15 rfl ?_
  refine fw_callv (fw_runIN (As := []) (rest := [.ref b9, .ref x]) C hz hw (c_X7_init l G _ _ b9 i (3, i, 0) k1_s) (fw_cnI hT (hz.2.2.2.2.2.2.1 _ (List.mem_of_getElem? (i := 0) rfl)) yIX7_init rfl rfl ⟨Nat.le_of_ble_eq_true rfl, Nat.le_of_ble_eq_true rfl⟩) rfl hl.1 rfl (Nat.le_of_ble_eq_true rfl) dX8_scrap_16 ⟨Nat.le_of_ble_eq_true rfl, Nat.le_of_ble_eq_true rfl⟩) hw (fun F2 H locs hw hp => ?_)
  refine W.widen (k := 3) (n := 8) (Nat.le_of_ble_eq_true rfl) (Nat.le_of_ble_eq_true rfl) ?_
  obtain ⟨q1, q2, hp1, hp2, hp3, hkq⟩ := hp
  have hXq : cr_X F2 x lc lt lo lm lw dr tm := hkq _ _ _ k1_0 (by simp)
  have hk1 : fw_kp F W1 (fun u => u = (3, i, 0)) := by rw [hFW1]; exact fw_kp.rf.new hqb9
  refine fw_put (v := .ref b9) (fs' := [.ref lc, .ref lt, .ref lo, .ref lm, .ref lw, .ref b9, .int tm]) hx hb hT fi_RX8 tyX8 tyX8_ok nmX8 hown hz hw hXq rfl 5 (by decide) (hT _ wd_180) (fun _ h9 => h9) rfl (ty := tyX8 5) (by decide +kernel) rfl rfl (Nat.le_of_ble_eq_true rfl) rfl dX8_scrap_19 (fun H locs hw => ?_)
  obtain ⟨W2, hFW2⟩ : ∃ z, z = va_up F2 x (some ((50, 0, 0), fw_obj 9 [.ref lc, .ref lt, .ref lo, .ref lm, .ref lw, .ref b9, .int tm])) := ⟨_, rfl⟩
  rw [← hFW2] at hw
  have k2_0 : W2 b9 = some ((3, i, 0), fw_obj 8 [.ref q1, .ref q2, .int (nI 0)]) := by rw [hFW2]; exact fw_up_tag hp1 hXq (by intro z; cases z)
  have k2_1 : W2 q1 = some ((13, i, 0), fw_ls (fw_ea G) 0 (fun _ => 0)) := by rw [hFW2]; exact fw_up_tag hp2 hXq (by intro z; cases z)
  have k2_2 : W2 q2 = some ((33, i, 0), fw_obj 2 [.long (lN 1), .long (lN 1)]) := by rw [hFW2]; exact fw_up_tag hp3 hXq (by intro z; cases z)
  have k2_s : W2 x = some ((50, 0, 0), fw_obj 9 [.ref lc, .ref lt, .ref lo, .ref lm, .ref lw, .ref b9, .int tm]) := by rw [hFW2]; exact fw_up_self
  refine lv_iload_n hx hb dX8_scrap_22 rfl (lv_at hl 0 rfl) ?_
  have hk3 : fw_kp F2 W2 (fun u => u = (50, 0, 0)) := by rw [hFW2]; exact fw_kp.rf.up hXq rfl
  have hend := ((hk1.tr hkq).tr hk3).wk (Q := fun u => u = (50, 0, 0) ∨ u = (3, i, 0)) (fun t z => z.elim (fun z => Or.inr (z.elim id id)) Or.inl)
  exact fw_iret hx hb hr hlk (Nat.le_of_ble_eq_true rfl) (Nat.le_of_ble_eq_true rfl) hw dX8_scrap_23 (⟨rfl, b9, q1, q2, k2_s, k2_0, k2_1, k2_2, hend⟩)
