/-! ArrayList, reading. -/
theorem fw_maxN {b k : Nat} (hb : b ≤ 160) (hk : k ≤ 160) : (if nI b < nI k then nI k else nI b) = nI (max b k) := by
  by_cases h : b < k
  · rw [if_pos (nI_lt h (by omega)), Nat.max_eq_right (by omega)]
  · rw [if_neg (nI_nlt (by omega) (by omega)), Nat.max_eq_left (by omega)]
set_option maxHeartbeats 4000000 in
set_option maxRecDepth 100000 in
theorem c_Jx4a65c_size_8abf5 (l : Launch) (G : fw_G) (F : fw_F) (sz : Nat) (b arr cnt : Nat) (t : fw_T) (f : Nat → Nat) (hF : F b = some (t, fw_ls arr cnt f)) : Met l yJx4a65c_size_8abf5 (fw_ws yJx4a65c_size_8abf5 cJx4a65c_size_8abf5 1 (some (.int))) { frames := 0, cells := 0, slots := 0, locals := 0 } (va_Pc [.ref b] (fw_Pre G F sz)) (va_Qi (fun r F1 => F1 = F ∧ (fun r => r = nI cnt) r) (fw_B G (fw_W G F sz)) (fw_W G F sz)) 0 0 (fw_W G F sz) := by
  refine fw_met (lv := [(0, .ref b)]) (by decide +kernel) (Nat.le_of_ble_eq_true rfl) rfl ?_
  intro A hA p e s m below meth c ls hx hb hml hown hT hr hlk hin hz hsz hw hAn hl
  rw [← hA]
  have hown : s.vm.findClass RJx4a65c = some m.cls := hown
  have C : CallFix p m c cJx4a65c_size_8abf5 1 s _ fw_tb RJx4a65c := ⟨hx, hb, hml, hown, hT⟩
  refine lv_aload_n hx hb dJx4a65c_size_8abf5_0 rfl (lv_at hl 0 rfl) ?_
  refine fw_lsz hx hb hT hown hz hw hF (hT _ wd_48) dJx4a65c_size_8abf5_1 ?_
  exact fw_iret hx hb hr hlk (Nat.le_of_ble_eq_true rfl) (Nat.le_of_ble_eq_true rfl) hw dJx4a65c_size_8abf5_4 (⟨rfl, rfl⟩)
set_option maxHeartbeats 4000000 in
set_option maxRecDepth 100000 in
theorem c_Jx4a65c_isEmpty_aae02 (l : Launch) (G : fw_G) (F : fw_F) (sz : Nat) (b arr cnt : Nat) (t : fw_T) (f : Nat → Nat) (hF : F b = some (t, fw_ls arr cnt f)) (hn : cnt ≤ 160) : Met l yJx4a65c_isEmpty_aae02 (fw_ws yJx4a65c_isEmpty_aae02 cJx4a65c_isEmpty_aae02 1 (some (.boolean))) { frames := 0, cells := 0, slots := 0, locals := 0 } (va_Pc [.ref b] (fw_Pre G F sz)) (va_Qi (fun r F1 => F1 = F ∧ (fun r => r = fw_b (decide (cnt = 0))) r) (fw_B G (fw_W G F sz)) (fw_W G F sz)) 0 0 (fw_W G F sz) := by
  refine fw_met (lv := [(0, .ref b)]) (by decide +kernel) (Nat.le_of_ble_eq_true rfl) rfl ?_
  intro A hA p e s m below meth c ls hx hb hml hown hT hr hlk hin hz hsz hw hAn hl
  rw [← hA]
  have hown : s.vm.findClass RJx4a65c = some m.cls := hown
  have C : CallFix p m c cJx4a65c_isEmpty_aae02 1 s _ fw_tb RJx4a65c := ⟨hx, hb, hml, hown, hT⟩
  refine lv_aload_n hx hb dJx4a65c_isEmpty_aae02_0 rfl (lv_at hl 0 rfl) ?_
  refine fw_lsz hx hb hT hown hz hw hF (hT _ wd_48) dJx4a65c_isEmpty_aae02_1 ?_
  refine lv_if_ne (tgt := 11) hx hb dJx4a65c_isEmpty_aae02_4 (by decide) (fun d => ?_) (fun d => ?_)
  · have d : ¬ cnt = 0 := fun h9 => d ((nI_eq (a := cnt) (b := 0) (by omega) (by omega)).mpr h9)
    refine lv_iconst (v := (nI 0)) hx hb dJx4a65c_isEmpty_aae02_11 (by decide) ?_
    exact fw_zret hx hb hr (by decide) hlk (Nat.le_of_ble_eq_true rfl) (Nat.le_of_ble_eq_true rfl) hw dJx4a65c_isEmpty_aae02_12 (⟨rfl, by rw [decide_eq_false d]; rfl⟩)
  · have d := (nI_eq (a := cnt) (b := 0) (by omega) (by omega)).mp d
    refine lv_iconst (v := (nI 1)) hx hb dJx4a65c_isEmpty_aae02_7 (by decide) ?_
    refine lv_goto (tgt := 12) hx hb dJx4a65c_isEmpty_aae02_8 (by decide) ?_
    exact fw_zret hx hb hr (by decide) hlk (Nat.le_of_ble_eq_true rfl) (Nat.le_of_ble_eq_true rfl) hw dJx4a65c_isEmpty_aae02_12 (⟨rfl, by rw [decide_eq_true d]; rfl⟩)
set_option maxHeartbeats 4000000 in
set_option maxRecDepth 100000 in
theorem c_Jx4a65c_elementData_915e3 (l : Launch) (G : fw_G) (F : fw_F) (sz : Nat) (b arr cnt : Nat) (t : fw_T) (f : Nat → Nat) (j : Nat) (hF : F b = some (t, fw_ls arr cnt f)) (hj : j < cnt) : Met l yJx4a65c_elementData_915e3 (fw_ws yJx4a65c_elementData_915e3 cJx4a65c_elementData_915e3 2 (some ((.object "java/lang/Object")))) { frames := 0, cells := 0, slots := 0, locals := 0 } (va_Pc [.ref b, .int (nI j)] (fw_Pre G F sz)) (fw_Qo (fun r F1 => F1 = F ∧ (fun r => r = some (f j)) r) (fw_B G (fw_W G F sz)) (fw_W G F sz)) 0 0 (fw_W G F sz) := by
  refine fw_met (lv := [(0, .ref b), (1, .int (nI j))]) (by decide +kernel) (Nat.le_of_ble_eq_true rfl) rfl ?_
  intro A hA p e s m below meth c ls hx hb hml hown hT hr hlk hin hz hsz hw hAn hl
  rw [← hA]
  have hown : s.vm.findClass RJx4a65c = some m.cls := hown
  have C : CallFix p m c cJx4a65c_elementData_915e3 2 s _ fw_tb RJx4a65c := ⟨hx, hb, hml, hown, hT⟩
  refine lv_aload_n hx hb dJx4a65c_elementData_915e3_0 rfl (lv_at hl 0 rfl) ?_
  refine fw_larr hx hb hT hown hz hw hF (hT _ wd_47) dJx4a65c_elementData_915e3_1 ?_
  refine lv_iload_n hx hb dJx4a65c_elementData_915e3_4 rfl (lv_at hl 1 rfl) ?_
  refine fw_llald hx hb hz hw hF (j) rfl hj dJx4a65c_elementData_915e3_5 ?_
  exact fw_aret (v := some (f j)) hx hb hr hlk (Nat.le_of_ble_eq_true rfl) (Nat.le_of_ble_eq_true rfl) hw dJx4a65c_elementData_915e3_6 rfl (⟨rfl, rfl⟩)
set_option maxHeartbeats 4000000 in
set_option maxRecDepth 100000 in
theorem c_J3_checkIndex_8e157 (l : Launch) (G : fw_G) (F : fw_F) (sz : Nat) (j cnt : Nat) (hj : j < cnt) (hn : cnt ≤ 160) : Met l yJ3_checkIndex_8e157 (fw_ws yJ3_checkIndex_8e157 cJ3_checkIndex_8e157 3 (some (.int))) { frames := 0, cells := 0, slots := 0, locals := 0 } (va_Pc [.int (nI j), .int (nI cnt), .null] (fw_Pre G F sz)) (va_Qi (fun r F1 => F1 = F ∧ (fun r => r = nI j) r) (fw_B G (fw_W G F sz)) (fw_W G F sz)) 0 0 (fw_W G F sz) := by
  refine fw_met (lv := [(0, .int (nI j)), (1, .int (nI cnt)), (2, .null)]) (by decide +kernel) (Nat.le_of_ble_eq_true rfl) rfl ?_
  intro A hA p e s m below meth c ls hx hb hml hown hT hr hlk hin hz hsz hw hAn hl
  rw [← hA]
  have hown : s.vm.findClass RJ3 = some m.cls := hown
  have C : CallFix p m c cJ3_checkIndex_8e157 3 s _ fw_tb RJ3 := ⟨hx, hb, hml, hown, hT⟩
  refine lv_iload_n hx hb dJ3_checkIndex_8e157_0 rfl (lv_at hl 0 rfl) ?_
  refine lv_if_lt (tgt := 9) hx hb dJ3_checkIndex_8e157_1 (by decide) (fun cx => absurd cx (nI_pos (show j < 2147483648 by omega))) (fun cx => ?_)
  refine lv_iload_n hx hb dJ3_checkIndex_8e157_4 rfl (lv_at hl 0 rfl) ?_
  refine lv_iload_n hx hb dJ3_checkIndex_8e157_5 rfl (lv_at hl 1 rfl) ?_
  refine lv_icmp_lt (tgt := 16) hx hb dJ3_checkIndex_8e157_6 (by decide) (fun cx => ?_) (fun cx => absurd cx (fun h => h (nI_lt hj (by omega))))
  refine lv_iload_n hx hb dJ3_checkIndex_8e157_16 rfl (lv_at hl 0 rfl) ?_
  exact fw_iret hx hb hr hlk (Nat.le_of_ble_eq_true rfl) (Nat.le_of_ble_eq_true rfl) hw dJ3_checkIndex_8e157_17 (⟨rfl, rfl⟩)
set_option maxHeartbeats 4000000 in
set_option maxRecDepth 100000 in
theorem c_J15_checkIndex_7cf53 (l : Launch) (G : fw_G) (F : fw_F) (sz : Nat) (j cnt : Nat) (hj : j < cnt) (hn : cnt ≤ 160) : Met l yJ15_checkIndex_7cf53 (fw_ws yJ15_checkIndex_7cf53 cJ15_checkIndex_7cf53 2 (some (.int))) { frames := 1, cells := 0, slots := 0, locals := 22 } (va_Pc [.int (nI j), .int (nI cnt)] (fw_Pre G F sz)) (va_Qi (fun r F1 => F1 = F ∧ (fun r => r = nI j) r) (fw_B G (fw_W G F sz)) (fw_W G F sz)) 0 0 (fw_W G F sz) := by
  refine fw_met (lv := [(0, .int (nI j)), (1, .int (nI cnt))]) (by decide +kernel) (Nat.le_of_ble_eq_true rfl) rfl ?_
  intro A hA p e s m below meth c ls hx hb hml hown hT hr hlk hin hz hsz hw hAn hl
  rw [← hA]
  have hown : s.vm.findClass RJ15 = some m.cls := hown
  have C : CallFix p m c cJ15_checkIndex_7cf53 2 s _ fw_tb RJ15 := ⟨hx, hb, hml, hown, hT⟩
  refine lv_iload_n hx hb dJ15_checkIndex_7cf53_0 rfl (lv_at hl 0 rfl) ?_
  refine lv_iload_n hx hb dJ15_checkIndex_7cf53_1 rfl (lv_at hl 1 rfl) ?_
  refine lv_null hx hb dJ15_checkIndex_7cf53_2 ?_
  refine fw_calli (fw_runS (As := [.int (nI j), .int (nI cnt), .null]) (rest := []) C hz hw (c_J3_checkIndex_8e157 l G _ _ j cnt hj hn) (fw_cwS hT wd_330 ySJ3_checkIndex_8e157 rfl rfl ⟨Nat.le_of_ble_eq_true rfl, Nat.le_of_ble_eq_true rfl⟩) rfl hl.1 rfl (Nat.le_of_ble_eq_true rfl) dJ15_checkIndex_7cf53_3 ⟨Nat.le_of_ble_eq_true rfl, Nat.le_of_ble_eq_true rfl⟩) hw (fun r F1 H locs hw hp => ?_)
  obtain ⟨hp0, hp⟩ := hp
  rw [hp0] at hw
  refine W.widen (k := 0) (n := 0) (Nat.le_of_ble_eq_true rfl) (Nat.le_of_ble_eq_true rfl) ?_
  subst hp
  exact fw_iret hx hb hr hlk (Nat.le_of_ble_eq_true rfl) (Nat.le_of_ble_eq_true rfl) hw dJ15_checkIndex_7cf53_6 (⟨rfl, rfl⟩)
set_option maxHeartbeats 4000000 in
set_option maxRecDepth 100000 in
theorem c_Jx4a65c_get_915e3 (l : Launch) (G : fw_G) (F : fw_F) (sz : Nat) (b arr cnt : Nat) (t : fw_T) (f : Nat → Nat) (j : Nat) (hF : F b = some (t, fw_ls arr cnt f)) (hj : j < cnt) (hn : cnt ≤ 160) : Met l yJx4a65c_get_915e3 (fw_ws yJx4a65c_get_915e3 cJx4a65c_get_915e3 2 (some ((.object "java/lang/Object")))) { frames := 2, cells := 0, slots := 0, locals := 43 } (va_Pc [.ref b, .int (nI j)] (fw_Pre G F sz)) (fw_Qo (fun r F1 => F1 = F ∧ (fun r => r = some (f j)) r) (fw_B G (fw_W G F sz)) (fw_W G F sz)) 0 0 (fw_W G F sz) := by
  refine fw_met (lv := [(0, .ref b), (1, .int (nI j))]) (by decide +kernel) (Nat.le_of_ble_eq_true rfl) rfl ?_
  intro A hA p e s m below meth c ls hx hb hml hown hT hr hlk hin hz hsz hw hAn hl
  rw [← hA]
  have hown : s.vm.findClass RJx4a65c = some m.cls := hown
  have C : CallFix p m c cJx4a65c_get_915e3 2 s _ fw_tb RJx4a65c := ⟨hx, hb, hml, hown, hT⟩
  refine lv_iload_n hx hb dJx4a65c_get_915e3_0 rfl (lv_at hl 1 rfl) ?_
  refine lv_aload_n hx hb dJx4a65c_get_915e3_1 rfl (lv_at hl 0 rfl) ?_
  refine fw_lsz hx hb hT hown hz hw hF (hT _ wd_48) dJx4a65c_get_915e3_2 ?_
  refine fw_calli (fw_runS (As := [.int (nI j), .int (nI cnt)]) (rest := []) C hz hw (c_J15_checkIndex_7cf53 l G _ _ j cnt hj hn) (fw_cwS hT wd_327 ySJ15_checkIndex_7cf53 rfl rfl ⟨Nat.le_of_ble_eq_true rfl, Nat.le_of_ble_eq_true rfl⟩) rfl hl.1 rfl (Nat.le_of_ble_eq_true rfl) dJx4a65c_get_915e3_5 ⟨Nat.le_of_ble_eq_true rfl, Nat.le_of_ble_eq_true rfl⟩) hw (fun r F1 H locs hw hp => ?_)
  obtain ⟨hp0, hp⟩ := hp
  rw [hp0] at hw
  refine W.widen (k := 0) (n := 0) (Nat.le_of_ble_eq_true rfl) (Nat.le_of_ble_eq_true rfl) ?_
  subst hp
  refine lv_pop hx hb dJx4a65c_get_915e3_8 rfl ?_
  refine lv_aload_n hx hb dJx4a65c_get_915e3_9 rfl (lv_at hl 0 rfl) ?_
  refine lv_iload_n hx hb dJx4a65c_get_915e3_10 rfl (lv_at hl 1 rfl) ?_
  refine fw_callo (fw_runV (As := [.int (nI j)]) (rest := []) C hz hw (c_Jx4a65c_elementData_915e3 l G _ _ b arr cnt t f j hF hj) (fw_cwV hT wd_333 yVJx4a65c_elementData_915e3 rfl rfl ⟨Nat.le_of_ble_eq_true rfl, Nat.le_of_ble_eq_true rfl⟩) (fw_recL hz hw hF) rfl hl.1 rfl (Nat.le_of_ble_eq_true rfl) dJx4a65c_get_915e3_11 ⟨Nat.le_of_ble_eq_true rfl, Nat.le_of_ble_eq_true rfl⟩) hw (fun r F1 H locs hw hp => ?_)
  obtain ⟨hp0, hp⟩ := hp
  rw [hp0] at hw
  refine W.widen (k := 0) (n := 0) (Nat.le_of_ble_eq_true rfl) (Nat.le_of_ble_eq_true rfl) ?_
  subst hp
  exact fw_aret (v := some (f j)) hx hb hr hlk (Nat.le_of_ble_eq_true rfl) (Nat.le_of_ble_eq_true rfl) hw dJx4a65c_get_915e3_14 rfl (⟨rfl, rfl⟩)
set_option maxHeartbeats 4000000 in
set_option maxRecDepth 100000 in
theorem c_J8_newLength_cabcc (l : Launch) (G : fw_G) (F : fw_F) (sz : Nat) (a b k : Nat) (ha : a ≤ 160) (hb1 : 1 ≤ b) (hb2 : b ≤ 160) (hk : k ≤ 160) : Met l yJ8_newLength_cabcc (fw_ws yJ8_newLength_cabcc cJ8_newLength_cabcc 4 (some (.int))) { frames := 1, cells := 0, slots := 0, locals := 21 } (va_Pc [.int (nI a), .int (nI b), .int (nI k)] (fw_Pre G F sz)) (va_Qi (fun r F1 => F1 = F ∧ (fun r => r = nI (a + max b k)) r) (fw_B G (fw_W G F sz)) (fw_W G F sz)) 0 0 (fw_W G F sz) := by
  refine fw_met (lv := [(0, .int (nI a)), (1, .int (nI b)), (2, .int (nI k))]) (by decide +kernel) (Nat.le_of_ble_eq_true rfl) rfl ?_
  intro A hA p e s m below meth c ls hx hb hml hown hT hr hlk hin hz hsz hw hAn hl
  rw [← hA]
  have hown : s.vm.findClass RJ8 = some m.cls := hown
  have C : CallFix p m c cJ8_newLength_cabcc 4 s _ fw_tb RJ8 := ⟨hx, hb, hml, hown, hT⟩
  refine lv_iload_n hx hb dJ8_newLength_cabcc_0 rfl (lv_at hl 0 rfl) ?_
  refine lv_iload_n hx hb dJ8_newLength_cabcc_1 rfl (lv_at hl 1 rfl) ?_
  refine lv_iload_n hx hb dJ8_newLength_cabcc_2 rfl (lv_at hl 2 rfl) ?_
  refine va_mmax hx hb (hml.trans hl.1.symm) hown (hT _ wd_134) (hT _ wd_135) (hT _ wd_9) (hT _ wd_136) (Nat.le_of_ble_eq_true rfl) (Nat.le_of_ble_eq_true rfl) (Nat.le_of_ble_eq_true rfl) (Nat.le_of_ble_eq_true rfl) dJ8_newLength_cabcc_3 ?_
  refine fw_top (x' := (nI (max b k))) (fw_maxN hb2 hk) ?_
  have hmx : max b k ≤ 160 := Nat.max_le.mpr ⟨hb2, hk⟩
  have hm1 : 1 ≤ max b k := Nat.le_trans hb1 (Nat.le_max_left _ _)
  refine lv_iadd hx hb dJ8_newLength_cabcc_6 ?_
  refine fw_top (nI_add _ _) ?_
  refine lv_istore_n (lv' := [(3, .int (nI (a + (max b k)))), (0, .int (nI a)), (1, .int (nI b)), (2, .int (nI k))]) hx hb dJ8_newLength_cabcc_7 rfl hl (by decide) rfl (fun ls hl => ?_)
  refine lv_iconst (v := (nI 0)) hx hb dJ8_newLength_cabcc_8 (by decide) ?_
  refine lv_iload_n hx hb dJ8_newLength_cabcc_9 rfl (lv_at hl 0 rfl) ?_
  refine lv_icmp_ge (tgt := 21) hx hb dJ8_newLength_cabcc_10 (by decide) (fun d => ?_) (fun d => ?_)
  · have d := (nI_leI (a := a + (max b k)) (b := 0) (by omega) (by omega)).mp d
    omega
  · have d : ¬ (a + (max b k)) ≤ 0 := fun h9 => d ((nI_leI (a := a + (max b k)) (b := 0) (by omega) (by omega)).mpr h9)
    refine lv_iload_n hx hb dJ8_newLength_cabcc_13 rfl (lv_at hl 0 rfl) ?_
    refine lv_ldc (v := 2147483639) hx hb hown (hT _ wd_137) dJ8_newLength_cabcc_14 ?_
    refine lv_icmp_gt (tgt := 21) hx hb dJ8_newLength_cabcc_16 (by decide) (fun cx => absurd cx (nI_nlt (a := 2147483639) (by omega) (by decide))) (fun cx => ?_)
    refine lv_iload_n hx hb dJ8_newLength_cabcc_19 rfl (lv_at hl 0 rfl) ?_
    exact fw_iret hx hb hr hlk (Nat.le_of_ble_eq_true rfl) (Nat.le_of_ble_eq_true rfl) hw dJ8_newLength_cabcc_20 (⟨rfl, rfl⟩)
