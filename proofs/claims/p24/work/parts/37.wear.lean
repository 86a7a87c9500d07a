/-! The class: wear of an order. -/
theorem cl_w15 (f : mm_A) (o t lh k j : Nat) : rf_tst f o t lh (k + 1) 15 (4 * o + j) = if j = k then rf_tst f o t lh k 15 (4 * o + k) + nI (lh / rf_st f (12 * t + 3 * k)) else rf_tst f o t lh k 15 (4 * o + j) := by
  rw [rf_tst_s]
  show upd (rf_tst f o t lh k 15) (4 * o + k) _ (4 * o + j) = _
  by_cases h : j = k
  · rw [h, pk_us, if_pos rfl]
  · rw [pk_un (by omega), if_neg h]
theorem cl_w14 (f : mm_A) (o t lh k : Nat) : rf_tst f o t lh (k + 1) 14 o = fw_b (!(decide (rf_tst f o t lh k 14 o = 0)) || decide (nI (10 * rf_les f t k) < rf_tst f o t lh k 15 (4 * o + k) + nI (lh / rf_st f (12 * t + 3 * k)))) := by
  rw [rf_tst_s]
  show upd (rf_tst f o t lh k 14) o _ o = _
  rw [pk_us]
set_option maxHeartbeats 4000000 in
set_option maxRecDepth 100000 in
theorem c_X5_wearDown (l : Launch) (G : fw_G) (F : fw_F) (sz : Nat) (b tb ml9 arr o t u lh : Nat) (dn : Int32) (ms sa : Nat → Nat) (f : mm_A) (hF : F b = some ((5, o, 0), fw_obj 6 [.ref tb, .ref ml9, .int (nI u), .int dn, .int (f 14 o)])) (hL : F ml9 = some ((6, o, 0), fw_ls arr (rf_sm f t) ms)) (hM : ∀ k, k < rf_sm f t → F (ms k) = some ((7, o, k), fw_obj 5 [.ref (sa k), .int (f 15 (4 * o + k))])) (hS : ∀ k, k < rf_sm f t → F (sa k) = some ((23, t, k), fw_obj 7 [.int (f 9 (12 * t + 3 * k)), .int (f 9 (12 * t + 3 * k + 1)), .int (f 9 (12 * t + 3 * k + 2))])) (htok : rf_tok f t) (hlh : lh ≤ 10000) (h14 : f 14 o = 0) : Met l yX5_wearDown (fw_ws yX5_wearDown cX5_wearDown 4 none) { frames := 3, cells := 0, slots := 0, locals := 64 } (va_Pc [.ref b, .int (nI lh)] (fw_Pre G F sz)) (va_Qv (fun F1 => F1 b = some ((5, o, 0), fw_obj 6 [.ref tb, .ref ml9, .int (nI u), .int dn, .int (rf_tst f o t lh (rf_sm f t) 14 o)]) ∧ (∀ k, k < rf_sm f t → F1 (ms k) = some ((7, o, k), fw_obj 5 [.ref (sa k), .int (rf_tst f o t lh (rf_sm f t) 15 (4 * o + k))])) ∧ fw_kp F F1 (fun w => w = (5, o, 0) ∨ (w.1 = 7 ∧ w.2.1 = o))) (fw_B G (fw_W G F sz)) (fw_W G F sz)) 0 0 (fw_W G F sz) := by
  refine fw_met (lv := [(0, .ref b), (1, .int (nI lh))]) (by decide +kernel) (Nat.le_of_ble_eq_true rfl) rfl ?_
  intro A hA p e s m below meth c ls hx hb hml hown hT hr hlk hin hz hsz hw hAn hl
  rw [← hA]
  have hown : s.vm.findClass RX5 = some m.cls := hown
  have C : CallFix p m c cX5_wearDown 4 s _ fw_tb RX5 := ⟨hx, hb, hml, hown, hT⟩
  refine lv_iconst (v := (nI 0)) hx hb dX5_wearDown_0 (by decide) ?_
  refine lv_istore_n (lv' := [(2, .int (nI 0)), (0, .ref b), (1, .int (nI lh))]) hx hb dX5_wearDown_1 rfl hl (by decide) rfl (fun ls hl => ?_)
  have hsm4 := htok.2.2.1
  suffices hlp : ∀ (d k : Nat) (F1 : fw_F), k + d = rf_sm f t → F1 b = some ((5, o, 0), fw_obj 6 [.ref tb, .ref ml9, .int (nI u), .int dn, .int (rf_tst f o t lh k 14 o)]) → (∀ j, j < rf_sm f t → F1 (ms j) = some ((7, o, j), fw_obj 5 [.ref (sa j), .int (rf_tst f o t lh k 15 (4 * o + j))])) → fw_kp F F1 (fun w => w = (5, o, 0) ∨ (w.1 = 7 ∧ w.2.1 = o)) → ∀ (H : Heap) (locs : List Loc) (ls : Array Slot), fw_S G A s F1 H locs → lv_has ls 4 [(2, .int (nI k)), (0, .ref b), (1, .int (nI lh))] → W p l e { frames := 3, cells := 0, slots := 0, locals := 64 } s m ([.ref b, .int (nI lh)] : List Value).toArray below meth c H locs 0 0 (MQ below (va_Qv (fun F1 => F1 b = some ((5, o, 0), fw_obj 6 [.ref tb, .ref ml9, .int (nI u), .int dn, .int (rf_tst f o t lh (rf_sm f t) 14 o)]) ∧ (∀ k, k < rf_sm f t → F1 (ms k) = some ((7, o, k), fw_obj 5 [.ref (sa k), .int (rf_tst f o t lh (rf_sm f t) 15 (4 * o + k))])) ∧ fw_kp F F1 (fun w => w = (5, o, 0) ∨ (w.1 = 7 ∧ w.2.1 = o))) (fw_B G A) A) ([.ref b, .int (nI lh)] : List Value).toArray s 0 0 A) (F0 m 2 ls []) by
    exact hlp (rf_sm f t) 0 F (Nat.zero_add _) hF hM fw_kp.rf _ _ _ hw (lv_sub hl [0, 1, 2] rfl)
  intro d
  induction d with
  | zero =>
    intro k E1 hk hb1 hm1 hkp H locs ls hw hl
    have hl1 := hkp _ _ _ hL (by simp)
    refine lv_iload_n hx hb dX5_wearDown_2 rfl (lv_at hl 0 rfl) ?_
    refine lv_aload_n hx hb dX5_wearDown_3 rfl (lv_at hl 1 rfl) ?_
    refine fw_get (v := .ref ml9) hx hb hT fi_RX5 hown hz hw hb1 rfl 1 (by decide) (hT _ wd_463) (fun _ h9 => h9) rfl dX5_wearDown_4 ?_
    refine fw_calli (fw_runV (As := []) (rest := [.int (nI k)]) C hz hw (c_Jx4a65c_size_8abf5 l G _ _ ml9 arr (rf_sm f t) (6, o, 0) ms hl1) (fw_cwV hT wd_441 yVJx4a65c_size_8abf5 rfl rfl ⟨Nat.le_of_ble_eq_true rfl, Nat.le_of_ble_eq_true rfl⟩) (fw_recL hz hw hl1) rfl hl.1 rfl (Nat.le_of_ble_eq_true rfl) dX5_wearDown_7 ⟨Nat.le_of_ble_eq_true rfl, Nat.le_of_ble_eq_true rfl⟩) hw (fun r F1 H locs hw hp => ?_)
    obtain ⟨hp0, hp⟩ := hp
    rw [hp0] at hw
    refine W.widen (k := 0) (n := 0) (Nat.le_of_ble_eq_true rfl) (Nat.le_of_ble_eq_true rfl) ?_
    subst hp
    refine lv_icmp_ge (tgt := 67) hx hb dX5_wearDown_10 (by decide) (fun d9 => ?_) (fun d9 => ?_)
    · have d9 := (nI_leI (a := (rf_sm f t)) (b := k) (by omega) (by omega)).mp d9
      obtain rfl : k = rf_sm f t := by omega
      exact fw_vret hx hb hr hlk (Nat.le_of_ble_eq_true rfl) (Nat.le_of_ble_eq_true rfl) hw dX5_wearDown_67 (⟨hb1, hm1, hkp⟩)
    · have d9 : ¬ (rf_sm f t) ≤ k := fun h9 => d9 ((nI_leI (a := (rf_sm f t)) (b := k) (by omega) (by omega)).mpr h9)
      omega
  | succ d ih =>
    intro k E1 hk hb1 hm1 hkp H locs ls hw hl
    have hl1 := hkp _ _ _ hL (by simp)
    refine lv_iload_n hx hb dX5_wearDown_2 rfl (lv_at hl 0 rfl) ?_
    refine lv_aload_n hx hb dX5_wearDown_3 rfl (lv_at hl 1 rfl) ?_
    refine fw_get (v := .ref ml9) hx hb hT fi_RX5 hown hz hw hb1 rfl 1 (by decide) (hT _ wd_463) (fun _ h9 => h9) rfl dX5_wearDown_4 ?_
    refine fw_calli (fw_runV (As := []) (rest := [.int (nI k)]) C hz hw (c_Jx4a65c_size_8abf5 l G _ _ ml9 arr (rf_sm f t) (6, o, 0) ms hl1) (fw_cwV hT wd_441 yVJx4a65c_size_8abf5 rfl rfl ⟨Nat.le_of_ble_eq_true rfl, Nat.le_of_ble_eq_true rfl⟩) (fw_recL hz hw hl1) rfl hl.1 rfl (Nat.le_of_ble_eq_true rfl) dX5_wearDown_7 ⟨Nat.le_of_ble_eq_true rfl, Nat.le_of_ble_eq_true rfl⟩) hw (fun r F1 H locs hw hp => ?_)
    obtain ⟨hp0, hp⟩ := hp
    rw [hp0] at hw
    refine W.widen (k := 0) (n := 0) (Nat.le_of_ble_eq_true rfl) (Nat.le_of_ble_eq_true rfl) ?_
    subst hp
    refine lv_icmp_ge (tgt := 67) hx hb dX5_wearDown_10 (by decide) (fun d9 => ?_) (fun d9 => ?_)
    · have d9 := (nI_leI (a := (rf_sm f t)) (b := k) (by omega) (by omega)).mp d9
      omega
    · have d9 : ¬ (rf_sm f t) ≤ k := fun h9 => d9 ((nI_leI (a := (rf_sm f t)) (b := k) (by omega) (by omega)).mpr h9)
      have hk9 : k < rf_sm f t := by omega
      refine lv_aload_n hx hb dX5_wearDown_13 rfl (lv_at hl 1 rfl) ?_
      refine fw_get (v := .ref ml9) hx hb hT fi_RX5 hown hz hw hb1 rfl 1 (by decide) (hT _ wd_463) (fun _ h9 => h9) rfl dX5_wearDown_14 ?_
      refine lv_iload_n hx hb dX5_wearDown_17 rfl (lv_at hl 0 rfl) ?_
      refine fw_callo (fw_runV (As := [.int (nI k)]) (rest := []) C hz hw (c_Jx4a65c_get_915e3 l G _ _ ml9 arr (rf_sm f t) (6, o, 0) ms k hl1 hk9 (by omega)) (fw_cwV hT wd_444 yVJx4a65c_get_915e3 rfl rfl ⟨Nat.le_of_ble_eq_true rfl, Nat.le_of_ble_eq_true rfl⟩) (fw_recL hz hw hl1) rfl hl.1 rfl (Nat.le_of_ble_eq_true rfl) dX5_wearDown_18 ⟨Nat.le_of_ble_eq_true rfl, Nat.le_of_ble_eq_true rfl⟩) hw (fun r F1 H locs hw hp => ?_)
      obtain ⟨hp0, hp⟩ := hp
      rw [hp0] at hw
      refine W.widen (k := 0) (n := 0) (Nat.le_of_ble_eq_true rfl) (Nat.le_of_ble_eq_true rfl) ?_
      subst hp
      have hs9 := hm1 k hk9
      have hs8 := hkp _ _ _ (hS k hk9) (by simp)
      obtain ⟨⟨e0, y1, y2⟩, ee⟩ := htok.2.2.2 k hk9
      obtain ⟨e1, y3, y4⟩ := ee 1 (Or.inl rfl)
      obtain ⟨e2, y5, y6⟩ := ee 2 (Or.inr rfl)
      rw [e0, e1, e2] at hs8
      refine fw_cast hx hb hown hz hw hs9 (q := vwCl[5]) rfl (hT _ wd_442) dX5_wearDown_21 ?_
      refine lv_astore_n (lv' := [(3, .ref (ms k)), (2, .int (nI k)), (0, .ref b), (1, .int (nI lh))]) hx hb dX5_wearDown_24 rfl hl (by decide) rfl (fun ls hl => ?_)
      refine lv_aload_n hx hb dX5_wearDown_25 rfl (lv_at hl 0 rfl) ?_
      refine lv_dup hx hb dX5_wearDown_26 rfl ?_
      refine fw_get (v := .int (rf_tst f o t lh k 15 (4 * o + k))) hx hb hT fi_RX4 hown hz hw hs9 rfl 1 (by decide) (hT _ wd_453) (fun _ h9 => h9) rfl dX5_wearDown_27 ?_
      refine lv_aload_n hx hb dX5_wearDown_30 rfl (lv_at hl 0 rfl) ?_
      refine fw_get (v := .ref (sa k)) hx hb hT fi_RX4 hown hz hw hs9 rfl 0 (by decide) (hT _ wd_451) (fun _ h9 => h9) rfl dX5_wearDown_31 ?_
      refine lv_iload_n hx hb dX5_wearDown_34 rfl (lv_at hl 3 rfl) ?_
      refine fw_calli (fw_runV (As := [.int (nI lh)]) (rest := [.int (rf_tst f o t lh k 15 (4 * o + k)), .ref (ms k)]) C hz hw (c_X6_wearOf l G _ _ (sa k) (23, t, k) (rf_st f (12 * t + 3 * k)) (rf_st f (12 * t + 3 * k + 1)) (rf_st f (12 * t + 3 * k + 2)) lh hs8 y1 y2 hlh) (fw_cwV hT wd_579 yVX6_wearOf rfl rfl ⟨Nat.le_of_ble_eq_true rfl, Nat.le_of_ble_eq_true rfl⟩) (fw_rec hz hw hs8 (q := vwCl[7]) rfl) rfl hl.1 rfl (Nat.le_of_ble_eq_true rfl) dX5_wearDown_35 ⟨Nat.le_of_ble_eq_true rfl, Nat.le_of_ble_eq_true rfl⟩) hw (fun r F1 H locs hw hp => ?_)
      obtain ⟨hp0, hp⟩ := hp
      rw [hp0] at hw
      refine W.widen (k := 0) (n := 0) (Nat.le_of_ble_eq_true rfl) (Nat.le_of_ble_eq_true rfl) ?_
      subst hp
      refine lv_iadd hx hb dX5_wearDown_38 ?_
      refine fw_top (x' := (rf_tst f o t lh k 15 (4 * o + k) + nI (lh / rf_st f (12 * t + 3 * k)))) (rfl) ?_
      refine fw_put (v := .int (rf_tst f o t lh k 15 (4 * o + k) + nI (lh / rf_st f (12 * t + 3 * k)))) (fs' := [.ref (sa k), .int (rf_tst f o t lh k 15 (4 * o + k) + nI (lh / rf_st f (12 * t + 3 * k)))]) hx hb hT fi_RX4 tyX4 tyX4_ok nmX4 hown hz hw hs9 rfl 1 (by decide) (hT _ wd_453) (fun _ h9 => h9) rfl (ty := tyX4 1) (by decide +kernel) rfl rfl (Nat.le_of_ble_eq_true rfl) rfl dX5_wearDown_39 (fun H locs hw => ?_)
      obtain ⟨W1, hFW1⟩ : ∃ z, z = va_up E1 (ms k) (some ((7, o, k), fw_obj 5 [.ref (sa k), .int (rf_tst f o t lh k 15 (4 * o + k) + nI (lh / rf_st f (12 * t + 3 * k)))])) := ⟨_, rfl⟩
      rw [← hFW1] at hw
      have k1_0 : W1 b = some ((5, o, 0), fw_obj 6 [.ref tb, .ref ml9, .int (nI u), .int dn, .int (rf_tst f o t lh k 14 o)]) := by rw [hFW1]; exact fw_up_tag hb1 hs9 (by intro z; cases z)
      have k1_1 : W1 ml9 = some ((6, o, 0), fw_ls arr (rf_sm f t) ms) := by rw [hFW1]; exact fw_up_tag hl1 hs9 (by intro z; cases z)
      have k1_2 : W1 (sa k) = some ((23, t, k), fw_obj 7 [.int (nI (rf_st f (12 * t + 3 * k))), .int (nI (rf_st f (12 * t + 3 * k + 1))), .int (nI (rf_st f (12 * t + 3 * k + 2)))]) := by rw [hFW1]; exact fw_up_tag hs8 hs9 (by intro z; cases z)
      have k1_s : W1 (ms k) = some ((7, o, k), fw_obj 5 [.ref (sa k), .int (rf_tst f o t lh k 15 (4 * o + k) + nI (lh / rf_st f (12 * t + 3 * k)))]) := by rw [hFW1]; exact fw_up_self
      refine lv_aload_n hx hb dX5_wearDown_42 rfl (lv_at hl 0 rfl) ?_
      refine fw_get (v := .int (rf_tst f o t lh k 15 (4 * o + k) + nI (lh / rf_st f (12 * t + 3 * k)))) hx hb hT fi_RX4 hown hz hw k1_s rfl 1 (by decide) (hT _ wd_453) (fun _ h9 => h9) rfl dX5_wearDown_43 ?_
      refine lv_aload_n hx hb dX5_wearDown_46 rfl (lv_at hl 0 rfl) ?_
      refine fw_get (v := .ref (sa k)) hx hb hT fi_RX4 hown hz hw k1_s rfl 0 (by decide) (hT _ wd_451) (fun _ h9 => h9) rfl dX5_wearDown_47 ?_
      refine fw_calli (fw_runV (As := []) (rest := [.int (rf_tst f o t lh k 15 (4 * o + k) + nI (lh / rf_st f (12 * t + 3 * k)))]) C hz hw (c_X6_mostWear l G _ _ (sa k) (23, t, k) (rf_st f (12 * t + 3 * k)) (rf_st f (12 * t + 3 * k + 1)) (rf_st f (12 * t + 3 * k + 2)) k1_2 y4 y6) (fw_cwV hT wd_583 yVX6_mostWear rfl rfl ⟨Nat.le_of_ble_eq_true rfl, Nat.le_of_ble_eq_true rfl⟩) (fw_rec hz hw k1_2 (q := vwCl[7]) rfl) rfl hl.1 rfl (Nat.le_of_ble_eq_true rfl) dX5_wearDown_50 ⟨Nat.le_of_ble_eq_true rfl, Nat.le_of_ble_eq_true rfl⟩) hw (fun r F1 H locs hw hp => ?_)
      obtain ⟨hp0, hp⟩ := hp
      rw [hp0] at hw
      refine W.widen (k := 0) (n := 0) (Nat.le_of_ble_eq_true rfl) (Nat.le_of_ble_eq_true rfl) ?_
      subst hp
      refine lv_icmp_le (tgt := 61) hx hb dX5_wearDown_53 (by decide) (fun d8 => ?_) (fun d8 => ?_)
      · have kq1 : ∀ j, j < rf_sm f t → ¬ j = k → W1 (ms j) = some ((7, o, j), fw_obj 5 [.ref (sa j), .int (rf_tst f o t lh k 15 (4 * o + j))]) := fun j hj h => by rw [hFW1]; exact fw_up_tag (hm1 j hj) hs9 (by intro z; injection z with z1 z2; injection z2 with z3 z4; exact h z4)
        have hkp1 : fw_kp F W1 (fun w => w = (5, o, 0) ∨ (w.1 = 7 ∧ w.2.1 = o)) := by rw [hFW1]; exact hkp.up hs9 (Or.inr ⟨rfl, rfl⟩)
        have e15 : ∀ j, j < rf_sm f t → W1 (ms j) = some ((7, o, j), fw_obj 5 [.ref (sa j), .int (rf_tst f o t lh (k + 1) 15 (4 * o + j))]) := fun j hj => by
          rw [cl_w15]
          by_cases h : j = k
          · rw [h, if_pos rfl]; exact k1_s
          · rw [if_neg h]; exact kq1 j hj h
        have d8 : rf_tst f o t lh k 15 (4 * o + k) + nI (lh / rf_st f (12 * t + 3 * k)) ≤ nI (10 * rf_les f t k) := d8
        have e14 : rf_tst f o t lh (k + 1) 14 o = rf_tst f o t lh k 14 o := by
          rw [cl_w14, decide_eq_false (Int32.not_lt.mpr d8), Bool.or_false]
          rcases rf_tst_b f o t lh h14 k with h | h <;> rw [h] <;> rfl
        have hb9 := k1_0
        rw [← e14] at hb9
        refine lv_iinc (v := (nI (k + 1))) (lv' := [(2, .int (nI (k + 1))), (3, .ref (ms k)), (0, .ref b), (1, .int (nI lh))]) hx hb dX5_wearDown_61 hl (k := 1) rfl (nI_1 _) (by decide) rfl (fun ls hl => ?_)
        refine lv_goto (tgt := 2) hx hb dX5_wearDown_64 (by decide) ?_
        exact ih (k + 1) _ (by omega) hb9 e15 hkp1 _ _ _ hw (lv_sub hl [0, 2, 3] rfl)
      · have kq1 : ∀ j, j < rf_sm f t → ¬ j = k → W1 (ms j) = some ((7, o, j), fw_obj 5 [.ref (sa j), .int (rf_tst f o t lh k 15 (4 * o + j))]) := fun j hj h => by rw [hFW1]; exact fw_up_tag (hm1 j hj) hs9 (by intro z; injection z with z1 z2; injection z2 with z3 z4; exact h z4)
        have hkp1 : fw_kp F W1 (fun w => w = (5, o, 0) ∨ (w.1 = 7 ∧ w.2.1 = o)) := by rw [hFW1]; exact hkp.up hs9 (Or.inr ⟨rfl, rfl⟩)
        refine lv_aload_n hx hb dX5_wearDown_56 rfl (lv_at hl 2 rfl) ?_
        refine lv_iconst (v := (nI 1)) hx hb dX5_wearDown_57 (by decide) ?_
        refine fw_put (v := .int (nI 1)) (fs' := [.ref tb, .ref ml9, .int (nI u), .int dn, .int (nI 1)]) hx hb hT fi_RX5 tyX5 tyX5_ok nmX5 hown hz hw k1_0 rfl 4 (by decide) (hT _ wd_469) (fun _ h9 => h9) rfl (ty := tyX5 4) (by decide +kernel) rfl rfl (Nat.le_of_ble_eq_true rfl) rfl dX5_wearDown_58 (fun H locs hw => ?_)
        obtain ⟨W2, hFW2⟩ : ∃ z, z = va_up W1 b (some ((5, o, 0), fw_obj 6 [.ref tb, .ref ml9, .int (nI u), .int dn, .int (nI 1)])) := ⟨_, rfl⟩
        rw [← hFW2] at hw
        have k2_0 : W2 ml9 = some ((6, o, 0), fw_ls arr (rf_sm f t) ms) := by rw [hFW2]; exact fw_up_tag k1_1 k1_0 (by intro z; cases z)
        have k2_1 : W2 (sa k) = some ((23, t, k), fw_obj 7 [.int (nI (rf_st f (12 * t + 3 * k))), .int (nI (rf_st f (12 * t + 3 * k + 1))), .int (nI (rf_st f (12 * t + 3 * k + 2)))]) := by rw [hFW2]; exact fw_up_tag k1_2 k1_0 (by intro z; cases z)
        have k2_2 : W2 (ms k) = some ((7, o, k), fw_obj 5 [.ref (sa k), .int (rf_tst f o t lh k 15 (4 * o + k) + nI (lh / rf_st f (12 * t + 3 * k)))]) := by rw [hFW2]; exact fw_up_tag k1_s k1_0 (by intro z; cases z)
        have k2_s : W2 b = some ((5, o, 0), fw_obj 6 [.ref tb, .ref ml9, .int (nI u), .int dn, .int (nI 1)]) := by rw [hFW2]; exact fw_up_self
        have e15 : ∀ j, j < rf_sm f t → W2 (ms j) = some ((7, o, j), fw_obj 5 [.ref (sa j), .int (rf_tst f o t lh (k + 1) 15 (4 * o + j))]) := fun j hj => by
          rw [cl_w15]
          by_cases h : j = k
          · rw [h, if_pos rfl]; exact k2_2
          · rw [if_neg h]; exact by rw [hFW2]; exact fw_up_tag (kq1 j hj h) k1_0 (by intro z; cases z)
        have d8 : ¬ rf_tst f o t lh k 15 (4 * o + k) + nI (lh / rf_st f (12 * t + 3 * k)) ≤ nI (10 * rf_les f t k) := d8
        have e14 : rf_tst f o t lh (k + 1) 14 o = nI 1 := by
          rw [cl_w14, decide_eq_true (Int32.not_le.mp d8), Bool.or_true]; rfl
        have hb9 := k2_s
        rw [← e14] at hb9
        have hkp2 : fw_kp F W2 (fun w => w = (5, o, 0) ∨ (w.1 = 7 ∧ w.2.1 = o)) := by rw [hFW2]; exact hkp1.up k1_0 (Or.inl rfl)
        refine lv_iinc (v := (nI (k + 1))) (lv' := [(2, .int (nI (k + 1))), (3, .ref (ms k)), (0, .ref b), (1, .int (nI lh))]) hx hb dX5_wearDown_61 hl (k := 1) rfl (nI_1 _) (by decide) rfl (fun ls hl => ?_)
        refine lv_goto (tgt := 2) hx hb dX5_wearDown_64 (by decide) ?_
        exact ih (k + 1) _ (by omega) hb9 e15 hkp2 _ _ _ hw (lv_sub hl [0, 2, 3] rfl)
