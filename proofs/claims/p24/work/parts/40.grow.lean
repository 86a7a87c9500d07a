/-! The class: a test. -/
theorem rf_tst_10 (f : mm_A) (o t lh : Nat) : ∀ k, rf_tst f o t lh k 10 = f 10
  | 0 => rfl
  | k + 1 => rf_tst_10 f o t lh k
set_option maxHeartbeats 4000000 in
set_option maxRecDepth 100000 in
theorem c_X8_test (l : Launch) (G : fw_G) (F : fw_F) (sz : Nat) (x lc lt lo lm lw dr : Nat) (tm : Int32) (oa tr ml ta sl fr : Nat → Nat) (ms sa : Nat → Nat → Nat) (f : mm_A) (nJ nO nT : Nat) (o u v : Int32) (hl9 : l.stackTraces = false) (hX : cr_X F x lc lt lo lm lw dr tm) (hO1 : cr_o F lo oa nO) (hO : cr_O F oa tr ml f nJ nO) (hTr : cr_T F ta sl fr sa f nT) (hZ : cr_Z F ml ms sa f nO) (hJ : nJ ≤ 96) (htok : ∀ j, j < nT → rf_tok f j) (hot : ∀ j, j < nO → rf_ot f j < nT ∧ tr j = ta (rf_ot f j)) (hbr : ∀ j, j < nO → f 14 j = 0 ∨ f 14 j = 1) : vx_Met l yX8_test (fw_ws yX8_test cX8_test 5 (some (.boolean))) { frames := 8, cells := 2, slots := 12, locals := 141 } (va_Pc [.ref x, .int o, .int u, .int v] (fw_PreX G F sz)) (va_Qi (fun r F1 => ∃ j i1 i2, j < nO ∧ o = nI j ∧ 1 ≤ i1 ∧ i1 ≤ 100 ∧ 1 ≤ i2 ∧ i2 ≤ 100 ∧ u = nI i1 ∧ v = nI i2 ∧ rf_left f (nI j) nJ = 0 ∧ f 14 j = 0 ∧ r = rf_testf f j (rf_ot f j) (i1 * i2) 14 j ∧ F1 (oa j) = some ((5, j, 0), fw_obj 6 [.ref (tr j), .ref (ml j), .int (nI (rf_left f (nI j) nJ)), .int (f 13 j), .int (rf_testf f j (rf_ot f j) (i1 * i2) 14 j)]) ∧ (∀ k, k < rf_sm f (rf_ot f j) → F1 (ms j k) = some ((7, j, k), fw_obj 5 [.ref (sa (rf_ot f j) k), .int (rf_testf f j (rf_ot f j) (i1 * i2) 15 (4 * j + k))])) ∧ F1 (ta (rf_ot f j)) = some ((3, rf_ot f j, 0), fw_obj 8 [.ref (sl (rf_ot f j)), .ref (fr (rf_ot f j)), .int (rf_testf f j (rf_ot f j) (i1 * i2) 10 (rf_ot f j))]) ∧ fw_kp F F1 (fun w => w = (5, j, 0) ∨ (w.1 = 7 ∧ w.2.1 = j) ∨ w = (3, rf_ot f j, 0))) (fw_B G (fw_W G F sz)) (fw_W G F sz)) (fw_xc G (fw_W G F sz) F (fun E => (E = "java/lang/IndexOutOfBoundsException" ∧ rf_ix o nO = false) ∨ (E = "java/lang/IllegalArgumentException" ∧ rf_ix o nO = true ∧ rf_okT u v = false) ∨ (E = "java/lang/IllegalStateException" ∧ ∃ j, j < nO ∧ o = nI j ∧ rf_okT u v = true ∧ (0 < rf_left f (nI j) nJ ∨ ¬ f 14 j = 0)))) 2 12 (fw_W G F sz) := by
  refine fw_metX (lv := [(0, .ref x), (1, .int o), (2, .int u), (3, .int v)]) (by decide +kernel) (Nat.le_of_ble_eq_true rfl) rfl ?_
  intro A hA p e s m below meth c ls hx hb hml hown hT hr hlk hno hcx hz hsz hw hAn hl
  rw [← hA]
  have hown : s.vm.findClass RX8 = some m.cls := hown
  have C : CallFix p m c cX8_test 5 s _ fw_tb RX8 := ⟨hx, hb, hml, hown, hT⟩
  obtain ⟨hno9, arr, hLo⟩ := hO1
  refine lv_aload_n hx hb dX8_test_0 rfl (lv_at hl 0 rfl) ?_
  refine lv_iload_n hx hb dX8_test_1 rfl (lv_at hl 1 rfl) ?_
  refine fw_xcallo (fw_xrunV (As := [.int o]) (rest := []) C hz hcx hw (c_X8_orderAt l G _ _ x lc lt lo lm lw dr tm arr nO oa o hl9 hX hLo hno9 (fun i hi => ⟨_, _, hO i hi⟩)) (fw_cwV hT wd_564 yVX8_orderAt rfl rfl ⟨Nat.le_of_ble_eq_true rfl, Nat.le_of_ble_eq_true rfl⟩) (fw_rec hz hw hX (q := vwCl[9]) rfl) rfl hl.1 rfl (Nat.le_of_ble_eq_true rfl) dX8_test_2 ⟨Nat.le_of_ble_eq_true rfl, Nat.le_of_ble_eq_true rfl⟩) hw hno hlk (fun E h => Or.inl h) (Nat.le_of_ble_eq_true rfl) (Nat.le_of_ble_eq_true rfl) (fun r F1 H locs hw hp => ?_)
  obtain ⟨hp0, hp⟩ := hp
  rw [hp0] at hw
  refine W.widen (k := 1) (n := 6) (Nat.le_of_ble_eq_true rfl) (Nat.le_of_ble_eq_true rfl) ?_
  obtain ⟨j, hj, rfl, rfl⟩ := hp
  have hs9 := hO j hj
  obtain ⟨⟨arz, hz1⟩, hz2⟩ := hZ j hj
  obtain ⟨hot1, hot2⟩ := hot j hj
  obtain ⟨ht1, -, -, ht4⟩ := hTr (rf_ot f j) hot1
  have hk0 := htok (rf_ot f j) hot1
  have hbr := hbr j hj
  have hle9 := rf_left_le f (nI j) nJ
  have hix := rf_ix_of (show nO ≤ 100 by omega) hj
  rw [← hot2] at ht1
  refine lv_astore (lv' := [(4, .ref (oa j)), (0, .ref x), (1, .int (nI j)), (2, .int u), (3, .int v)]) hx hb dX8_test_5 hl (by decide) rfl (fun ls hl => ?_)
  refine lv_iload_n hx hb dX8_test_7 rfl (lv_at hl 3 rfl) ?_
  refine lv_iconst (v := (nI 1)) hx hb dX8_test_8 (by decide) ?_
  refine lv_bipush (v := (nI 100)) hx hb dX8_test_9 (by decide) ?_
  refine fw_calli (fw_runS (As := [.int u, .int (nI 1), .int (nI 100)]) (rest := []) C hz hw (c_X8_isOutside l G _ _ u (nI 1) (nI 100)) (fw_cwS hT wd_204 ySX8_isOutside rfl rfl ⟨Nat.le_of_ble_eq_true rfl, Nat.le_of_ble_eq_true rfl⟩) rfl hl.1 rfl (Nat.le_of_ble_eq_true rfl) dX8_test_11 ⟨Nat.le_of_ble_eq_true rfl, Nat.le_of_ble_eq_true rfl⟩) hw (fun r F1 H locs hw hp => ?_)
  obtain ⟨hp0, hp⟩ := hp
  rw [hp0] at hw
  refine W.widen (k := 1) (n := 6) (Nat.le_of_ble_eq_true rfl) (Nat.le_of_ble_eq_true rfl) ?_
  subst hp
  refine lv_if_ne (tgt := 27) hx hb dX8_test_14 (by decide) (fun d => ?_) (fun d => ?_)
  · have d := fw_b1 d
    have d : rf_in u (nI 1) (nI 100) = false := by simpa using d
    exact fw_throw (ik := 57) (is := 200) (ic := 61) hx hb hl9 hown (by decide +kernel) wd_210 wd_15 hT (fw_atA hT hcx) fw_otA hz hw (List.mem_of_getElem? (i := 15) rfl) (hl.1.trans hml.symm) dX8_test_27 dX8_test_30 dX8_test_31 dX8_test_33 dX8_test_36 hno ⟨Nat.le_of_ble_eq_true rfl, Nat.le_of_ble_eq_true rfl, Nat.le_of_ble_eq_true rfl, Nat.le_of_ble_eq_true rfl⟩ hlk (Or.inr (Or.inl ⟨rfl, hix, by rw [rf_okT, d]; rfl⟩)) (Nat.le_of_ble_eq_true rfl) (Nat.le_of_ble_eq_true rfl)
  · have d := fw_b0 d
    have d : rf_in u (nI 1) (nI 100) = true := by simpa using d
    refine lv_iload_n hx hb dX8_test_17 rfl (lv_at hl 4 rfl) ?_
    refine lv_iconst (v := (nI 1)) hx hb dX8_test_18 (by decide) ?_
    refine lv_bipush (v := (nI 100)) hx hb dX8_test_19 (by decide) ?_
    refine fw_calli (fw_runS (As := [.int v, .int (nI 1), .int (nI 100)]) (rest := []) C hz hw (c_X8_isOutside l G _ _ v (nI 1) (nI 100)) (fw_cwS hT wd_204 ySX8_isOutside rfl rfl ⟨Nat.le_of_ble_eq_true rfl, Nat.le_of_ble_eq_true rfl⟩) rfl hl.1 rfl (Nat.le_of_ble_eq_true rfl) dX8_test_21 ⟨Nat.le_of_ble_eq_true rfl, Nat.le_of_ble_eq_true rfl⟩) hw (fun r F1 H locs hw hp => ?_)
    obtain ⟨hp0, hp⟩ := hp
    rw [hp0] at hw
    refine W.widen (k := 1) (n := 6) (Nat.le_of_ble_eq_true rfl) (Nat.le_of_ble_eq_true rfl) ?_
    subst hp
    refine lv_if_eq (tgt := 37) hx hb dX8_test_24 (by decide) (fun d2 => ?_) (fun d2 => ?_)
    · have d2 := fw_b0 d2
      have d2 : rf_in v (nI 1) (nI 100) = true := by simpa using d2
      have hok : rf_okT u v = true := by rw [rf_okT, d, d2]; rfl
      refine lv_aload hx hb dX8_test_37 (lv_at hl 0 rfl) ?_
      refine fw_get (v := .int (nI ((rf_left f (nI j) nJ)))) hx hb hT fi_RX5 hown hz hw hs9 rfl 2 (by decide) (hT _ wd_466) (fun _ h9 => h9) rfl dX8_test_39 ?_
      refine lv_if_gt (tgt := 53) hx hb dX8_test_42 (by decide) (fun d3 => ?_) (fun d3 => ?_)
      · have d3 := (nI_ltI (a := 0) (b := (rf_left f (nI j) nJ)) (by omega) (by omega)).mp d3
        exact fw_throw (ik := 68) (is := 206) (ic := 72) hx hb hl9 hown (by decide +kernel) wd_282 wd_16 hT (fw_atS hT hcx) fw_otS hz hw (List.mem_of_getElem? (i := 16) rfl) (hl.1.trans hml.symm) dX8_test_53 dX8_test_56 dX8_test_57 dX8_test_59 dX8_test_62 hno ⟨Nat.le_of_ble_eq_true rfl, Nat.le_of_ble_eq_true rfl, Nat.le_of_ble_eq_true rfl, Nat.le_of_ble_eq_true rfl⟩ hlk (Or.inr (Or.inr ⟨rfl, j, hj, rfl, hok, Or.inl d3⟩)) (Nat.le_of_ble_eq_true rfl) (Nat.le_of_ble_eq_true rfl)
      · have d3 : ¬ 0 < (rf_left f (nI j) nJ) := fun h9 => d3 ((nI_ltI (a := 0) (b := (rf_left f (nI j) nJ)) (by omega) (by omega)).mpr h9)
        refine lv_aload hx hb dX8_test_45 (lv_at hl 0 rfl) ?_
        refine fw_get (v := .int (f 14 j)) hx hb hT fi_RX5 hown hz hw hs9 rfl 4 (by decide) (hT _ wd_470) (fun _ h9 => h9) rfl dX8_test_47 ?_
        refine lv_if_eq (tgt := 63) hx hb dX8_test_50 (by decide) (fun d4 => ?_) (fun d4 => ?_)
        · have d4 : f 14 j = 0 := d4
          obtain ⟨i1, h11, h12, rfl⟩ := rf_in_n (by omega) d
          obtain ⟨i2, h21, h22, rfl⟩ := rf_in_n (by omega) d2
          have hlh : i1 * i2 ≤ 10000 := Nat.mul_le_mul h12 h22
          refine lv_aload hx hb dX8_test_63 (lv_at hl 0 rfl) ?_
          refine lv_iload_n hx hb dX8_test_65 rfl (lv_at hl 3 rfl) ?_
          refine lv_iload_n hx hb dX8_test_66 rfl (lv_at hl 4 rfl) ?_
          refine lv_imul hx hb dX8_test_67 ?_
          refine fw_top (pk_mul _ _) ?_
          refine fw_callv (fw_runV (As := [.int (nI (i1 * i2))]) (rest := []) C hz hw (c_X5_wearDown l G _ _ (oa j) (tr j) (ml j) arz j (rf_ot f j) (rf_left f (nI j) nJ) (i1 * i2) (f 13 j) (ms j) (sa (rf_ot f j)) f hs9 hz1 hz2 ht4 hk0 hlh d4) (fw_cwV hT wd_575 yVX5_wearDown rfl rfl ⟨Nat.le_of_ble_eq_true rfl, Nat.le_of_ble_eq_true rfl⟩) (fw_rec hz hw hs9 (q := vwCl[6]) rfl) rfl hl.1 rfl (Nat.le_of_ble_eq_true rfl) dX8_test_68 ⟨Nat.le_of_ble_eq_true rfl, Nat.le_of_ble_eq_true rfl⟩) hw (fun F2 H locs hw hp => ?_)
          refine W.widen (k := 1) (n := 6) (Nat.le_of_ble_eq_true rfl) (Nat.le_of_ble_eq_true rfl) ?_
          obtain ⟨hw1, hw2, hwk⟩ := hp
          have ht9 := hwk _ _ _ ht1 (by simp)
          refine lv_aload hx hb dX8_test_71 (lv_at hl 0 rfl) ?_
          refine fw_get (v := .int (rf_tst f j (rf_ot f j) (i1 * i2) (rf_sm f (rf_ot f j)) 14 j)) hx hb hT fi_RX5 hown hz hw hw1 rfl 4 (by decide) (hT _ wd_470) (fun _ h9 => h9) rfl dX8_test_73 ?_
          refine lv_if_eq (tgt := 93) hx hb dX8_test_76 (by decide) (fun d5 => ?_) (fun d5 => ?_)
          · have d5 : rf_tst f j (rf_ot f j) (i1 * i2) (rf_sm f (rf_ot f j)) 14 j = 0 := d5
            have e10 : rf_testf f j (rf_ot f j) (i1 * i2) 10 (rf_ot f j) = f 10 (rf_ot f j) := by show upd _ (rf_ot f j) _ (rf_ot f j) = _; rw [pk_us, d5, if_pos rfl, rf_tst_10]; exact Int32.add_zero _
            refine lv_aload hx hb dX8_test_93 (lv_at hl 0 rfl) ?_
            refine fw_get (v := .int (rf_tst f j (rf_ot f j) (i1 * i2) (rf_sm f (rf_ot f j)) 14 j)) hx hb hT fi_RX5 hown hz hw hw1 rfl 4 (by decide) (hT _ wd_470) (fun _ h9 => h9) rfl dX8_test_95 ?_
            refine vx_ret ?_
            exact fw_zret hx hb hr (by rcases rf_tst_b f j (rf_ot f j) (i1 * i2) d4 (rf_sm f (rf_ot f j)) with h | h <;> rw [h] <;> rfl) hlk (Nat.le_of_ble_eq_true rfl) (Nat.le_of_ble_eq_true rfl) hw dX8_test_98 (⟨j, i1, i2, hj, rfl, h11, h12, h21, h22, rfl, rfl, by omega, d4, rfl, hw1, hw2, by rw [e10, ← hot2]; exact ht9, hwk.wk (fun t z => z.elim Or.inl (fun z => Or.inr (Or.inl z)))⟩)
          · have d5 : ¬ rf_tst f j (rf_ot f j) (i1 * i2) (rf_sm f (rf_ot f j)) 14 j = 0 := d5
            have e10 : rf_testf f j (rf_ot f j) (i1 * i2) 10 (rf_ot f j) = f 10 (rf_ot f j) + nI 1 := by show upd _ (rf_ot f j) _ (rf_ot f j) = _; rw [pk_us, if_neg d5, rf_tst_10]
            refine lv_aload hx hb dX8_test_79 (lv_at hl 0 rfl) ?_
            refine fw_get (v := .ref (tr j)) hx hb hT fi_RX5 hown hz hw hw1 rfl 0 (by decide) (hT _ wd_462) (fun _ h9 => h9) rfl dX8_test_81 ?_
            refine lv_dup hx hb dX8_test_84 rfl ?_
            refine fw_get (v := .int (f 10 (rf_ot f j))) hx hb hT fi_RX7 hown hz hw ht9 rfl 2 (by decide) (hT _ wd_88) (fun _ h9 => h9) rfl dX8_test_85 ?_
            refine lv_iconst (v := (nI 1)) hx hb dX8_test_88 (by decide) ?_
            refine lv_iadd hx hb dX8_test_89 ?_
            refine fw_put (v := .int ((f 10 (rf_ot f j)) + (nI 1))) (fs' := [.ref (sl (rf_ot f j)), .ref (fr (rf_ot f j)), .int ((f 10 (rf_ot f j)) + (nI 1))]) hx hb hT fi_RX7 tyX7 tyX7_ok nmX7 hown hz hw ht9 rfl 2 (by decide) (hT _ wd_88) (fun _ h9 => h9) rfl (ty := tyX7 2) (by decide +kernel) rfl rfl (Nat.le_of_ble_eq_true rfl) rfl dX8_test_90 (fun H locs hw => ?_)
            obtain ⟨W1, hFW1⟩ : ∃ z, z = va_up F2 (tr j) (some ((3, rf_ot f j, 0), fw_obj 8 [.ref (sl (rf_ot f j)), .ref (fr (rf_ot f j)), .int ((f 10 (rf_ot f j)) + (nI 1))])) := ⟨_, rfl⟩
            rw [← hFW1] at hw
            have k1_0 : W1 (oa j) = some ((5, j, 0), fw_obj 6 [.ref (tr j), .ref (ml j), .int (nI ((rf_left f (nI j) nJ))), .int (f 13 j), .int (rf_tst f j (rf_ot f j) (i1 * i2) (rf_sm f (rf_ot f j)) 14 j)]) := by rw [hFW1]; exact fw_up_tag hw1 ht9 (by intro z; cases z)
            have k1_s : W1 (tr j) = some ((3, rf_ot f j, 0), fw_obj 8 [.ref (sl (rf_ot f j)), .ref (fr (rf_ot f j)), .int ((f 10 (rf_ot f j)) + (nI 1))]) := by rw [hFW1]; exact fw_up_self
            refine lv_aload hx hb dX8_test_93 (lv_at hl 0 rfl) ?_
            refine fw_get (v := .int (rf_tst f j (rf_ot f j) (i1 * i2) (rf_sm f (rf_ot f j)) 14 j)) hx hb hT fi_RX5 hown hz hw k1_0 rfl 4 (by decide) (hT _ wd_470) (fun _ h9 => h9) rfl dX8_test_95 ?_
            have hkE : fw_kp F2 W1 (fun w => w = (3, rf_ot f j, 0)) := by rw [hFW1]; exact fw_kp.rf.up ht9 rfl
            refine vx_ret ?_
            exact fw_zret hx hb hr (by rcases rf_tst_b f j (rf_ot f j) (i1 * i2) d4 (rf_sm f (rf_ot f j)) with h | h <;> rw [h] <;> rfl) hlk (Nat.le_of_ble_eq_true rfl) (Nat.le_of_ble_eq_true rfl) hw dX8_test_98 (⟨j, i1, i2, hj, rfl, h11, h12, h21, h22, rfl, rfl, by omega, d4, rfl, hkE _ _ _ hw1 (by simp), fun k hk => hkE _ _ _ (hw2 k hk) (by simp), by rw [e10, ← hot2]; exact k1_s, (hwk.tr hkE).wk (fun t z => z.elim (fun z => z.elim Or.inl (fun z => Or.inr (Or.inl z))) (fun z => Or.inr (Or.inr z)))⟩)
        · have d4 : ¬ f 14 j = 0 := d4
          exact fw_throw (ik := 68) (is := 206) (ic := 72) hx hb hl9 hown (by decide +kernel) wd_282 wd_16 hT (fw_atS hT hcx) fw_otS hz hw (List.mem_of_getElem? (i := 16) rfl) (hl.1.trans hml.symm) dX8_test_53 dX8_test_56 dX8_test_57 dX8_test_59 dX8_test_62 hno ⟨Nat.le_of_ble_eq_true rfl, Nat.le_of_ble_eq_true rfl, Nat.le_of_ble_eq_true rfl, Nat.le_of_ble_eq_true rfl⟩ hlk (Or.inr (Or.inr ⟨rfl, j, hj, rfl, hok, Or.inr d4⟩)) (Nat.le_of_ble_eq_true rfl) (Nat.le_of_ble_eq_true rfl)
    · have d2 := fw_b1 d2
      have d2 : rf_in v (nI 1) (nI 100) = false := by simpa using d2
      exact fw_throw (ik := 57) (is := 200) (ic := 61) hx hb hl9 hown (by decide +kernel) wd_210 wd_15 hT (fw_atA hT hcx) fw_otA hz hw (List.mem_of_getElem? (i := 15) rfl) (hl.1.trans hml.symm) dX8_test_27 dX8_test_30 dX8_test_31 dX8_test_33 dX8_test_36 hno ⟨Nat.le_of_ble_eq_true rfl, Nat.le_of_ble_eq_true rfl, Nat.le_of_ble_eq_true rfl, Nat.le_of_ble_eq_true rfl⟩ hlk (Or.inr (Or.inl ⟨rfl, hix, by rw [rf_okT, d, d2]; rfl⟩)) (Nat.le_of_ble_eq_true rfl) (Nat.le_of_ble_eq_true rfl)
/-! The class: the draft grows; it becomes a train. -/
theorem rf_ds_dist (f : mm_A) : ∀ n, rf_ds (f 6) n = rf_dist f n
  | 0 => rfl
  | n + 1 => by rw [rf_ds, rf_dist, rf_ds_dist f n]
theorem cl_cans (f : mm_A) (nC : Nat) (b : Bool) : ∀ n, rf_cans f nC b n = (b && cl_all f nC (f 6) n)
  | 0 => (Bool.and_true b).symm
  | n + 1 => by rw [rf_cans_s, cl_cans f nC b n, cl_all]; simp only [Bool.and_assoc]
def cl_dt (dt : Nat → Int32) (n : Nat) (mo a b : Int32) : Nat → Int32 := upd (upd (upd dt (3 * n) mo) (3 * n + 1) a) (3 * n + 2) b
theorem cl_dt_o {dt : Nat → Int32} {n : Nat} {mo a b : Int32} {k : Nat} (h : k < 3 * n) : cl_dt dt n mo a b k = dt k := by
  rw [cl_dt, pk_un (by omega), pk_un (by omega), pk_un (by omega)]
theorem cl_dt_0 {dt : Nat → Int32} {n : Nat} {mo a b : Int32} : cl_dt dt n mo a b (3 * n) = mo := by
  rw [cl_dt, pk_un (by omega), pk_un (by omega), pk_us]
theorem cl_dt_1 {dt : Nat → Int32} {n : Nat} {mo a b : Int32} : cl_dt dt n mo a b (3 * n + 1) = a := by
  rw [cl_dt, pk_un (by omega), pk_us]
theorem cl_dt_2 {dt : Nat → Int32} {n : Nat} {mo a b : Int32} : cl_dt dt n mo a b (3 * n + 2) = b := by
  rw [cl_dt, pk_us]
theorem rf_in_g {x : Int32} {lo hi : Nat} (hlo : lo ≤ hi) (hhi : hi < 1000) (h : rf_in x (nI lo) (nI hi) = true) : ∃ i, lo ≤ i ∧ i ≤ hi ∧ x = nI i := by
  obtain ⟨h1, h2⟩ := rf_in_t.mp h
  obtain ⟨i, hi, rfl⟩ := nI_of (x := x) (Int32.not_lt.mpr (Int32.le_trans (show (0 : Int32) ≤ nI lo from by rw [← nI_0]; exact nI_le (Nat.zero_le _) (by omega)) h1))
  rw [nI_leI (by omega) (by omega)] at h1 h2
  exact ⟨i, h1, h2, rfl⟩
set_option maxHeartbeats 4000000 in
set_option maxRecDepth 100000 in
theorem c_X8_stage (l : Launch) (G : fw_G) (F : fw_F) (sz : Nat) (x lc lt lo lm lw dr : Nat) (tm : Int32) (ds dfr ad9 nD i : Nat) (da : Nat → Nat) (f : mm_A) (u v : Nat) (mo a b : Int32) (hl9 : l.stackTraces = false) (hX : cr_X F x lc lt lo lm lw dr tm) (hD : F dr = some ((3, i, 0), fw_obj 8 [.ref ds, .ref dfr, .int (nI 0)])) (hL : F ds = some ((13, i, 0), fw_ls ad9 nD da)) (hnD : nD ≤ 4) (hS : ∀ k, k < nD → F (da k) = some ((23, i, k), fw_obj 7 [.int (f 6 (3 * k)), .int (f 6 (3 * k + 1)), .int (f 6 (3 * k + 2))])) (hR : F dfr = some ((33, i, 0), fw_obj 2 [.long (lN u), .long (lN v)])) (hu : u ≤ 12960000) (hv : v ≤ 12960000) (hv0 : 0 < v) : vx_Met l yX8_stage (fw_ws yX8_stage cX8_stage 4 (some (.int))) { frames := 8, cells := 3, slots := 250, locals := 192 } (va_Pc [.ref x, .int mo, .int a, .int b] (fw_PreX G F sz)) (va_Qi (fun r F1 => ∃ m9 q9 p9 st q, rf_okS mo a b = true ∧ nD < 4 ∧ mo = nI m9 ∧ a = nI q9 ∧ b = nI p9 ∧ 1 ≤ m9 ∧ m9 ≤ 4 ∧ 8 ≤ q9 ∧ q9 ≤ 60 ∧ 8 ≤ p9 ∧ p9 ≤ 60 ∧ r = rf_ds (cl_dt (f 6) nD mo a b) (nD + 1) ∧ F1 ds = some ((13, i, 0), fw_ls q (nD + 1) (va_up da nD st)) ∧ F1 dfr = some ((33, i, 0), fw_obj 2 [.long (lN (u * p9 / (Nat.gcd (u * p9) (v * q9)))), .long (lN (v * q9 / (Nat.gcd (u * p9) (v * q9))))]) ∧ (∀ k, k < nD + 1 → F1 (va_up da nD st k) = some ((23, i, k), fw_obj 7 [.int (cl_dt (f 6) nD mo a b (3 * k)), .int (cl_dt (f 6) nD mo a b (3 * k + 1)), .int (cl_dt (f 6) nD mo a b (3 * k + 2))])) ∧ fw_kp F F1 (fun w => w = (13, i, 0) ∨ w = (33, i, 0))) (fw_B G (fw_W G F sz)) (fw_W G F sz)) (fw_xc G (fw_W G F sz) F (fun E => (E = "java/lang/IllegalArgumentException" ∧ rf_okS mo a b = false) ∨ (E = "java/lang/IllegalStateException" ∧ rf_okS mo a b = true ∧ nD = 4))) 3 250 (fw_W G F sz) := by
  refine fw_metX (lv := [(0, .ref x), (1, .int mo), (2, .int a), (3, .int b)]) (by decide +kernel) (Nat.le_of_ble_eq_true rfl) rfl ?_
  intro A hA p e s m below meth c ls hx hb hml hown hT hr hlk hno hcx hz hsz hw hAn hl
  rw [← hA]
  have hown : s.vm.findClass RX8 = some m.cls := hown
  have C : CallFix p m c cX8_stage 4 s _ fw_tb RX8 := ⟨hx, hb, hml, hown, hT⟩
  refine lv_iload_n hx hb dX8_stage_0 rfl (lv_at hl 1 rfl) ?_
  refine fw_calli (fw_runS (As := [.int mo]) (rest := []) C hz hw (c_X8_isNoModule l G _ _ mo) (fw_cwS hT wd_201 ySX8_isNoModule rfl rfl ⟨Nat.le_of_ble_eq_true rfl, Nat.le_of_ble_eq_true rfl⟩) rfl hl.1 rfl (Nat.le_of_ble_eq_true rfl) dX8_stage_1 ⟨Nat.le_of_ble_eq_true rfl, Nat.le_of_ble_eq_true rfl⟩) hw (fun r F1 H locs hw hp => ?_)
  obtain ⟨hp0, hp⟩ := hp
  rw [hp0] at hw
  refine W.widen (k := 0) (n := 0) (Nat.le_of_ble_eq_true rfl) (Nat.le_of_ble_eq_true rfl) ?_
  subst hp
  refine lv_if_ne (tgt := 21) hx hb dX8_stage_4 (by decide) (fun d => ?_) (fun d => ?_)
  · have d := fw_b1 d
    have d : rf_in mo (nI 1) (nI 4) = false := by simpa using d
    exact fw_throw (ik := 57) (is := 84) (ic := 61) hx hb hl9 hown (by decide +kernel) wd_210 wd_15 hT (fw_atA hT hcx) fw_otA hz hw (List.mem_of_getElem? (i := 3) rfl) (hl.1.trans hml.symm) dX8_stage_21 dX8_stage_24 dX8_stage_25 dX8_stage_27 dX8_stage_30 hno ⟨Nat.le_of_ble_eq_true rfl, Nat.le_of_ble_eq_true rfl, Nat.le_of_ble_eq_true rfl, Nat.le_of_ble_eq_true rfl⟩ hlk (Or.inl ⟨rfl, by rw [rf_okS, d]; rfl⟩) (Nat.le_of_ble_eq_true rfl) (Nat.le_of_ble_eq_true rfl)
  · have d := fw_b0 d
    have d : rf_in mo (nI 1) (nI 4) = true := by simpa using d
    refine lv_iload_n hx hb dX8_stage_7 rfl (lv_at hl 2 rfl) ?_
    refine fw_calli (fw_runS (As := [.int a]) (rest := []) C hz hw (c_X8_isNoToothCount l G _ _ a) (fw_cwS hT wd_207 ySX8_isNoToothCount rfl rfl ⟨Nat.le_of_ble_eq_true rfl, Nat.le_of_ble_eq_true rfl⟩) rfl hl.1 rfl (Nat.le_of_ble_eq_true rfl) dX8_stage_8 ⟨Nat.le_of_ble_eq_true rfl, Nat.le_of_ble_eq_true rfl⟩) hw (fun r F1 H locs hw hp => ?_)
    obtain ⟨hp0, hp⟩ := hp
    rw [hp0] at hw
    refine W.widen (k := 0) (n := 0) (Nat.le_of_ble_eq_true rfl) (Nat.le_of_ble_eq_true rfl) ?_
    subst hp
    refine lv_if_ne (tgt := 21) hx hb dX8_stage_11 (by decide) (fun d2 => ?_) (fun d2 => ?_)
    · have d2 := fw_b1 d2
      have d2 : rf_in a (nI 8) (nI 60) = false := by simpa using d2
      exact fw_throw (ik := 57) (is := 84) (ic := 61) hx hb hl9 hown (by decide +kernel) wd_210 wd_15 hT (fw_atA hT hcx) fw_otA hz hw (List.mem_of_getElem? (i := 3) rfl) (hl.1.trans hml.symm) dX8_stage_21 dX8_stage_24 dX8_stage_25 dX8_stage_27 dX8_stage_30 hno ⟨Nat.le_of_ble_eq_true rfl, Nat.le_of_ble_eq_true rfl, Nat.le_of_ble_eq_true rfl, Nat.le_of_ble_eq_true rfl⟩ hlk (Or.inl ⟨rfl, by rw [rf_okS, d, d2]; rfl⟩) (Nat.le_of_ble_eq_true rfl) (Nat.le_of_ble_eq_true rfl)
    · have d2 := fw_b0 d2
      have d2 : rf_in a (nI 8) (nI 60) = true := by simpa using d2
      refine lv_iload_n hx hb dX8_stage_14 rfl (lv_at hl 3 rfl) ?_
      refine fw_calli (fw_runS (As := [.int b]) (rest := []) C hz hw (c_X8_isNoToothCount l G _ _ b) (fw_cwS hT wd_207 ySX8_isNoToothCount rfl rfl ⟨Nat.le_of_ble_eq_true rfl, Nat.le_of_ble_eq_true rfl⟩) rfl hl.1 rfl (Nat.le_of_ble_eq_true rfl) dX8_stage_15 ⟨Nat.le_of_ble_eq_true rfl, Nat.le_of_ble_eq_true rfl⟩) hw (fun r F1 H locs hw hp => ?_)
      obtain ⟨hp0, hp⟩ := hp
      rw [hp0] at hw
      refine W.widen (k := 0) (n := 0) (Nat.le_of_ble_eq_true rfl) (Nat.le_of_ble_eq_true rfl) ?_
      subst hp
      refine lv_if_eq (tgt := 31) hx hb dX8_stage_18 (by decide) (fun d3 => ?_) (fun d3 => ?_)
      · have d3 := fw_b0 d3
        have d3 : rf_in b (nI 8) (nI 60) = true := by simpa using d3
        have hok : rf_okS mo a b = true := by rw [rf_okS, d, d2, d3]; rfl
        refine lv_aload_n hx hb dX8_stage_31 rfl (lv_at hl 0 rfl) ?_
        refine fw_get (v := .ref dr) hx hb hT fi_RX8 hown hz hw hX rfl 5 (by decide) (hT _ wd_180) (fun _ h9 => h9) rfl dX8_stage_32 ?_
        refine fw_get (v := .ref ds) hx hb hT fi_RX7 hown hz hw hD rfl 0 (by decide) (hT _ wd_84) (fun _ h9 => h9) rfl dX8_stage_35 ?_
        refine fw_calli (fw_runV (As := []) (rest := []) C hz hw (c_Jx4a65c_size_8abf5 l G _ _ ds ad9 nD (13, i, 0) da hL) (fw_cwV hT wd_278 yVJx4a65c_size_8abf5 rfl rfl ⟨Nat.le_of_ble_eq_true rfl, Nat.le_of_ble_eq_true rfl⟩) (fw_recL hz hw hL) rfl hl.1 rfl (Nat.le_of_ble_eq_true rfl) dX8_stage_38 ⟨Nat.le_of_ble_eq_true rfl, Nat.le_of_ble_eq_true rfl⟩) hw (fun r F1 H locs hw hp => ?_)
        obtain ⟨hp0, hp⟩ := hp
        rw [hp0] at hw
        refine W.widen (k := 0) (n := 0) (Nat.le_of_ble_eq_true rfl) (Nat.le_of_ble_eq_true rfl) ?_
        subst hp
        refine lv_iconst (v := (nI 4)) hx hb dX8_stage_41 (by decide) ?_
        refine lv_icmp_lt (tgt := 55) hx hb dX8_stage_42 (by decide) (fun d4 => ?_) (fun d4 => ?_)
        · have d4 := (nI_ltI (a := nD) (b := 4) (by omega) (by omega)).mp d4
          obtain ⟨m9, m1, m2, em⟩ := rf_in_g (by decide) (by decide) d
          obtain ⟨q9, q1, q2, eq⟩ := rf_in_g (by decide) (by decide) d2
          obtain ⟨p9, p1, p2, ep⟩ := rf_in_g (by decide) (by decide) d3
          have hm1 : u * p9 ≤ 12960000 * 60 := Nat.mul_le_mul hu p2
          have hm2 : v * q9 ≤ 12960000 * 60 := Nat.mul_le_mul hv q2
          have hm3 : u * p9 * (v * q9) ≤ (12960000 * 60) * (12960000 * 60) := Nat.mul_le_mul hm1 hm2
          have hm4 : 0 < v * q9 := Nat.mul_pos hv0 (by omega)
          refine lv_aload_n hx hb dX8_stage_55 rfl (lv_at hl 0 rfl) ?_
          refine fw_get (v := .ref dr) hx hb hT fi_RX8 hown hz hw hX rfl 5 (by decide) (hT _ wd_180) (fun _ h9 => h9) rfl dX8_stage_56 ?_
          refine fw_new (23, i, nD) (ci := 7) (fs := [.int (nI 0), .int (nI 0), .int (nI 0)]) hx hb hT fi_RX6 tyX6 tyX6_ok hown (hT _ wd_347) (hT _ wd_348) (hT _ wd_20) hz hw hAn rfl (by intro j hj; rcases (show j = 0 ∨ j = 1 ∨ j = 2 by omega) with rfl | rfl | rfl <;> rfl) (Nat.le_of_ble_eq_true rfl) (Nat.le_of_ble_eq_true rfl) dX8_stage_59 (fun b9 H hqb9 hw => ?_)
          refine W.widen (k := 1) (n := 3) (Nat.le_of_ble_eq_true rfl) (Nat.le_of_ble_eq_true rfl) ?_
          obtain ⟨W1, hFW1⟩ : ∃ z, z = va_up F b9 (some ((23, i, nD), fw_obj 7 [.int (nI 0), .int (nI 0), .int (nI 0)])) := ⟨_, rfl⟩
          rw [← hFW1] at hw
          have k1_0 : W1 x = some ((50, 0, 0), fw_obj 9 [.ref lc, .ref lt, .ref lo, .ref lm, .ref lw, .ref dr, .int tm]) := by rw [hFW1]; exact fw_up_new hX hqb9
          have k1_1 : W1 dr = some ((3, i, 0), fw_obj 8 [.ref ds, .ref dfr, .int (nI 0)]) := by rw [hFW1]; exact fw_up_new hD hqb9
          have k1_2 : W1 ds = some ((13, i, 0), fw_ls ad9 nD da) := by rw [hFW1]; exact fw_up_new hL hqb9
          have k1_3 : W1 dfr = some ((33, i, 0), fw_obj 2 [.long (lN u), .long (lN v)]) := by rw [hFW1]; exact fw_up_new hR hqb9
          have k1_s : W1 b9 = some ((23, i, nD), fw_obj 7 [.int (nI 0), .int (nI 0), .int (nI 0)]) := by rw [hFW1]; exact fw_up_self
          refine lv_dup hx hb dX8_stage_62 rfl ?_
          refine lv_iload_n hx hb dX8_stage_63 rfl (lv_at hl 1 rfl) ?_
          refine lv_iload_n hx hb dX8_stage_64 rfl (lv_at hl 2 rfl) ?_
          refine lv_iload_n hx hb dX8_stage_65 rfl (lv_at hl 3 rfl) ?_
          refine fw_callv (fw_runI (As := [.int mo, .int a, .int b]) (rest := [.ref b9, .ref dr]) C hz hw (c_X6_init l G _ _ b9 (23, i, nD) mo a b k1_s) (fw_cwI hT wd_349 yIX6_init rfl rfl ⟨Nat.le_of_ble_eq_true rfl, Nat.le_of_ble_eq_true rfl⟩) rfl hl.1 rfl (Nat.le_of_ble_eq_true rfl) dX8_stage_66 ⟨Nat.le_of_ble_eq_true rfl, Nat.le_of_ble_eq_true rfl⟩) hw (fun F1 H locs hw hp => ?_)
          refine W.widen (k := 1) (n := 3) (Nat.le_of_ble_eq_true rfl) (Nat.le_of_ble_eq_true rfl) ?_
          rw [hp] at hw
          obtain ⟨W2, hFW2⟩ : ∃ z, z = va_up W1 b9 (some ((23, i, nD), fw_obj 7 [.int mo, .int a, .int b])) := ⟨_, rfl⟩
          rw [← hFW2] at hw
          have k2_0 : W2 x = some ((50, 0, 0), fw_obj 9 [.ref lc, .ref lt, .ref lo, .ref lm, .ref lw, .ref dr, .int tm]) := by rw [hFW2]; exact fw_up_tag k1_0 k1_s (by intro z; cases z)
          have k2_1 : W2 dr = some ((3, i, 0), fw_obj 8 [.ref ds, .ref dfr, .int (nI 0)]) := by rw [hFW2]; exact fw_up_tag k1_1 k1_s (by intro z; cases z)
          have k2_2 : W2 ds = some ((13, i, 0), fw_ls ad9 nD da) := by rw [hFW2]; exact fw_up_tag k1_2 k1_s (by intro z; cases z)
          have k2_3 : W2 dfr = some ((33, i, 0), fw_obj 2 [.long (lN u), .long (lN v)]) := by rw [hFW2]; exact fw_up_tag k1_3 k1_s (by intro z; cases z)
          have k2_s : W2 b9 = some ((23, i, nD), fw_obj 7 [.int mo, .int a, .int b]) := by rw [hFW2]; exact fw_up_self
          have hkp2 : fw_kp F W2 (fun w => w = (13, i, 0) ∨ w = (33, i, 0)) := by rw [hFW2, hFW1, bx_uu]; exact fw_kp.rf.new hqb9
          have hst := k2_s
          rw [em, eq, ep] at hst
          refine fw_callv (fw_runV (As := [.ref b9]) (rest := []) C hz hw (c_X7_append l G _ _ dr b9 ds dfr ad9 nD (3, i, 0) (23, i, nD) i (nI 0) da u v m9 p9 q9 k2_1 k2_2 k2_3 hst rfl rfl hnD p2 q2 (by omega) (by omega) (by omega) hm4) (fw_cwV hT wd_369 yVX7_append rfl rfl ⟨Nat.le_of_ble_eq_true rfl, Nat.le_of_ble_eq_true rfl⟩) (fw_rec hz hw k2_1 (q := vwCl[8]) rfl) rfl hl.1 rfl (Nat.le_of_ble_eq_true rfl) dX8_stage_69 ⟨Nat.le_of_ble_eq_true rfl, Nat.le_of_ble_eq_true rfl⟩) hw (fun F2 H locs hw hp => ?_)
          refine W.widen (k := 2) (n := 243) (Nat.le_of_ble_eq_true rfl) (Nat.le_of_ble_eq_true rfl) ?_
          obtain ⟨q, hp⟩ := hp
          have hq1 : F2 ds = some ((13, i, 0), fw_ls q (nD + 1) (va_up da nD b9)) := by rw [hp]; exact fw_up_tag fw_up_self (fw_up_tag k2_3 k2_2 (by intro z; cases z)) (by intro z; cases z)
          have hq2 : F2 dfr = some ((33, i, 0), fw_obj 2 [.long (lN (u * p9 / Nat.gcd (u * p9) (v * q9))), .long (lN (v * q9 / Nat.gcd (u * p9) (v * q9)))]) := by rw [hp]; exact fw_up_self
          have hkq : fw_kp W2 F2 (fun w => w = (13, i, 0) ∨ w = (33, i, 0)) := by rw [hp]; exact (fw_kp.rf.up k2_2 (Or.inl rfl)).up (fw_up_tag k2_3 k2_2 (by intro z; cases z)) (Or.inr rfl)
          have hkp3 := hkp2.tr1 hkq
          have hX2 := hkp3 _ _ _ hX (by simp)
          have hD2 := hkp3 _ _ _ hD (by simp)
          have hst2 := hkq _ _ _ hst (by simp)
          rw [← em, ← eq, ← ep] at hst2
          have hsE : ∀ k, k < nD + 1 → F2 (va_up da nD b9 k) = some ((23, i, k), fw_obj 7 [.int (cl_dt (f 6) nD mo a b (3 * k)), .int (cl_dt (f 6) nD mo a b (3 * k + 1)), .int (cl_dt (f 6) nD mo a b (3 * k + 2))]) := fun k hk => by
            by_cases h : k = nD
            · subst h; rw [va_up_self, cl_dt_0, cl_dt_1, cl_dt_2]; exact hst2
            · rw [va_up_ne _ _ h, cl_dt_o (by omega), cl_dt_o (by omega), cl_dt_o (by omega)]; exact hkp3 _ _ _ (hS k (by omega)) (by simp)
          refine lv_aload_n hx hb dX8_stage_72 rfl (lv_at hl 0 rfl) ?_
          refine fw_get (v := .ref dr) hx hb hT fi_RX8 hown hz hw hX2 rfl 5 (by decide) (hT _ wd_180) (fun _ h9 => h9) rfl dX8_stage_73 ?_
          refine fw_calli (fw_runV (As := []) (rest := []) C hz hw (c_X7_distance l G _ _ dr ds dfr q (nD + 1) (3, i, 0) (13, i, 0) (nI 0) (va_up da nD b9) (fun k => (23, i, k)) (cl_dt (f 6) nD mo a b) hD2 hq1 (by omega) hsE) (fw_cwV hT wd_381 yVX7_distance rfl rfl ⟨Nat.le_of_ble_eq_true rfl, Nat.le_of_ble_eq_true rfl⟩) (fw_rec hz hw hD2 (q := vwCl[8]) rfl) rfl hl.1 rfl (Nat.le_of_ble_eq_true rfl) dX8_stage_76 ⟨Nat.le_of_ble_eq_true rfl, Nat.le_of_ble_eq_true rfl⟩) hw (fun r F1 H locs hw hp => ?_)
          obtain ⟨hp0, hp⟩ := hp
          rw [hp0] at hw
          refine W.widen (k := 2) (n := 243) (Nat.le_of_ble_eq_true rfl) (Nat.le_of_ble_eq_true rfl) ?_
          subst hp
          refine vx_ret ?_
          exact fw_iret hx hb hr hlk (Nat.le_of_ble_eq_true rfl) (Nat.le_of_ble_eq_true rfl) hw dX8_stage_79 (⟨m9, q9, p9, b9, q, hok, d4, em, eq, ep, m1, m2, q1, q2, p1, p2, rfl, hq1, hq2, hsE, hkp3⟩)
        · have d4 : ¬ nD < 4 := fun h9 => d4 ((nI_ltI (a := nD) (b := 4) (by omega) (by omega)).mpr h9)
          exact fw_throw (ik := 68) (is := 89) (ic := 72) hx hb hl9 hown (by decide +kernel) wd_282 wd_16 hT (fw_atS hT hcx) fw_otS hz hw (List.mem_of_getElem? (i := 4) rfl) (hl.1.trans hml.symm) dX8_stage_45 dX8_stage_48 dX8_stage_49 dX8_stage_51 dX8_stage_54 hno ⟨Nat.le_of_ble_eq_true rfl, Nat.le_of_ble_eq_true rfl, Nat.le_of_ble_eq_true rfl, Nat.le_of_ble_eq_true rfl⟩ hlk (Or.inr ⟨rfl, hok, by omega⟩) (Nat.le_of_ble_eq_true rfl) (Nat.le_of_ble_eq_true rfl)
      · have d3 := fw_b1 d3
        have d3 : rf_in b (nI 8) (nI 60) = false := by simpa using d3
        exact fw_throw (ik := 57) (is := 84) (ic := 61) hx hb hl9 hown (by decide +kernel) wd_210 wd_15 hT (fw_atA hT hcx) fw_otA hz hw (List.mem_of_getElem? (i := 3) rfl) (hl.1.trans hml.symm) dX8_stage_21 dX8_stage_24 dX8_stage_25 dX8_stage_27 dX8_stage_30 hno ⟨Nat.le_of_ble_eq_true rfl, Nat.le_of_ble_eq_true rfl, Nat.le_of_ble_eq_true rfl, Nat.le_of_ble_eq_true rfl⟩ hlk (Or.inl ⟨rfl, by rw [rf_okS, d, d2, d3]; rfl⟩) (Nat.le_of_ble_eq_true rfl) (Nat.le_of_ble_eq_true rfl)
set_option maxHeartbeats 4000000 in
set_option maxRecDepth 100000 in
theorem c_X8_make (l : Launch) (G : fw_G) (F : fw_F) (sz : Nat) (x lc lt lo lm lw dr : Nat) (tm : Int32) (ds dfr ad9 nD nT : Nat) (da : Nat → Nat) (f : mm_A) (ca : Nat → Nat) (nC al0 : Nat) (ta : Nat → Nat) (di : Int32) (hl9 : l.stackTraces = false) (hX : cr_X F x lc lt lo lm lw dr tm) (hD : F dr = some ((3, nT, 0), fw_obj 8 [.ref ds, .ref dfr, .int (nI 0)])) (hL : F ds = some ((13, nT, 0), fw_ls ad9 nD da)) (hnD : nD ≤ 4) (hS : ∀ k, k < nD → F (da k) = some ((23, nT, k), fw_obj 7 [.int (f 6 (3 * k)), .int (f 6 (3 * k + 1)), .int (f 6 (3 * k + 2))])) (hC : cr_C F lc ca f nC) (hLt : F lt = some ((1, 1, 0), fw_ls al0 nT ta)) (hnT : nT ≤ 8) : vx_Met l yX8_make (fw_ws yX8_make cX8_make 2 (some (.int))) { frames := 7, cells := 5, slots := 260, locals := 171 } (va_Pc [.ref x, .int di] (fw_PreX G F sz)) (va_Qi (fun r F1 => ∃ al b q1 q2, 0 < nD ∧ di = rf_ds (f 6) nD ∧ cl_all f nC (f 6) nD = true ∧ nT < 8 ∧ r = nI nT ∧ F1 lt = some ((1, 1, 0), fw_ls al (nT + 1) (va_up ta nT dr)) ∧ cr_X F1 x lc lt lo lm lw b tm ∧ F1 b = some ((3, nT + 1, 0), fw_obj 8 [.ref q1, .ref q2, .int (nI 0)]) ∧ F1 q1 = some ((13, nT + 1, 0), fw_ls (fw_ea G) 0 (fun _ => 0)) ∧ F1 q2 = some ((33, nT + 1, 0), fw_obj 2 [.long (lN 1), .long (lN 1)]) ∧ fw_kp F F1 (fun w => w = (50, 0, 0) ∨ w = (1, 1, 0) ∨ w = (3, nT + 1, 0))) (fw_B G (fw_W G F sz)) (fw_W G F sz)) (fw_xc G (fw_W G F sz) F (fun E => E = "java/lang/IllegalStateException" ∧ (nD = 0 ∨ ¬ di = rf_ds (f 6) nD ∨ cl_all f nC (f 6) nD = false ∨ nT = 8))) 5 260 (fw_W G F sz) := by
  refine fw_metX (lv := [(0, .ref x), (1, .int di)]) (by decide +kernel) (Nat.le_of_ble_eq_true rfl) rfl ?_
  intro A hA p e s m below meth c ls hx hb hml hown hT hr hlk hno hcx hz hsz hw hAn hl
  rw [← hA]
  have hown : s.vm.findClass RX8 = some m.cls := hown
  have C : CallFix p m c cX8_make 2 s _ fw_tb RX8 := ⟨hx, hb, hml, hown, hT⟩
  refine lv_aload_n hx hb dX8_make_0 rfl (lv_at hl 0 rfl) ?_
  refine fw_get (v := .ref dr) hx hb hT fi_RX8 hown hz hw hX rfl 5 (by decide) (hT _ wd_180) (fun _ h9 => h9) rfl dX8_make_1 ?_
  refine fw_get (v := .ref ds) hx hb hT fi_RX7 hown hz hw hD rfl 0 (by decide) (hT _ wd_84) (fun _ h9 => h9) rfl dX8_make_4 ?_
  refine fw_calli (fw_runV (As := []) (rest := []) C hz hw (c_Jx4a65c_isEmpty_aae02 l G _ _ ds ad9 nD (13, nT, 0) da hL (by omega)) (fw_cwV hT wd_396 yVJx4a65c_isEmpty_aae02 rfl rfl ⟨Nat.le_of_ble_eq_true rfl, Nat.le_of_ble_eq_true rfl⟩) (fw_recL hz hw hL) rfl hl.1 rfl (Nat.le_of_ble_eq_true rfl) dX8_make_7 ⟨Nat.le_of_ble_eq_true rfl, Nat.le_of_ble_eq_true rfl⟩) hw (fun r F1 H locs hw hp => ?_)
  obtain ⟨hp0, hp⟩ := hp
  rw [hp0] at hw
  refine W.widen (k := 0) (n := 0) (Nat.le_of_ble_eq_true rfl) (Nat.le_of_ble_eq_true rfl) ?_
  subst hp
  refine lv_if_eq (tgt := 23) hx hb dX8_make_10 (by decide) (fun d => ?_) (fun d => ?_)
  · have d := fw_b0 d
    have d : ¬ nD = 0 := of_decide_eq_false d
    refine lv_aload_n hx hb dX8_make_23 rfl (lv_at hl 0 rfl) ?_
    refine fw_get (v := .ref dr) hx hb hT fi_RX8 hown hz hw hX rfl 5 (by decide) (hT _ wd_180) (fun _ h9 => h9) rfl dX8_make_24 ?_
    refine fw_calli (fw_runV (As := []) (rest := []) C hz hw (c_X7_distance l G _ _ dr ds dfr ad9 nD (3, nT, 0) (13, nT, 0) (nI 0) da (fun k => (23, nT, k)) (f 6) hD hL hnD hS) (fw_cwV hT wd_381 yVX7_distance rfl rfl ⟨Nat.le_of_ble_eq_true rfl, Nat.le_of_ble_eq_true rfl⟩) (fw_rec hz hw hD (q := vwCl[8]) rfl) rfl hl.1 rfl (Nat.le_of_ble_eq_true rfl) dX8_make_27 ⟨Nat.le_of_ble_eq_true rfl, Nat.le_of_ble_eq_true rfl⟩) hw (fun r F1 H locs hw hp => ?_)
    obtain ⟨hp0, hp⟩ := hp
    rw [hp0] at hw
    refine W.widen (k := 0) (n := 0) (Nat.le_of_ble_eq_true rfl) (Nat.le_of_ble_eq_true rfl) ?_
    subst hp
    refine lv_iload_n hx hb dX8_make_30 rfl (lv_at hl 1 rfl) ?_
    refine lv_icmp_eq (tgt := 44) hx hb dX8_make_31 (by decide) (fun d2 => ?_) (fun d2 => ?_)
    · have d2 : rf_ds (f 6) nD = di := d2
      refine lv_aload_n hx hb dX8_make_44 rfl (lv_at hl 0 rfl) ?_
      refine lv_aload_n hx hb dX8_make_45 rfl (lv_at hl 0 rfl) ?_
      refine fw_get (v := .ref dr) hx hb hT fi_RX8 hown hz hw hX rfl 5 (by decide) (hT _ wd_180) (fun _ h9 => h9) rfl dX8_make_46 ?_
      refine fw_calli (fw_runV (As := [.ref dr]) (rest := []) C hz hw (c_X8_hasAllCutters l G _ _ x lc lt lo lm lw dr tm ca f nC dr ds dfr ad9 nD (3, nT, 0) (13, nT, 0) (nI 0) da (fun k => (23, nT, k)) (f 6) hX hC hD hL hnD hS) (fw_cwV hT wd_402 yVX8_hasAllCutters rfl rfl ⟨Nat.le_of_ble_eq_true rfl, Nat.le_of_ble_eq_true rfl⟩) (fw_rec hz hw hX (q := vwCl[9]) rfl) rfl hl.1 rfl (Nat.le_of_ble_eq_true rfl) dX8_make_49 ⟨Nat.le_of_ble_eq_true rfl, Nat.le_of_ble_eq_true rfl⟩) hw (fun r F1 H locs hw hp => ?_)
      obtain ⟨hp0, hp⟩ := hp
      rw [hp0] at hw
      refine W.widen (k := 0) (n := 0) (Nat.le_of_ble_eq_true rfl) (Nat.le_of_ble_eq_true rfl) ?_
      subst hp
      refine lv_if_ne (tgt := 65) hx hb dX8_make_52 (by decide) (fun d3 => ?_) (fun d3 => ?_)
      · have d3 := fw_b1 d3
        refine lv_aload_n hx hb dX8_make_65 rfl (lv_at hl 0 rfl) ?_
        refine fw_get (v := .ref lt) hx hb hT fi_RX8 hown hz hw hX rfl 1 (by decide) (hT _ wd_176) (fun _ h9 => h9) rfl dX8_make_66 ?_
        refine fw_calli (fw_runV (As := []) (rest := []) C hz hw (c_Jx4a65c_size_8abf5 l G _ _ lt al0 nT (1, 1, 0) ta hLt) (fw_cwV hT wd_278 yVJx4a65c_size_8abf5 rfl rfl ⟨Nat.le_of_ble_eq_true rfl, Nat.le_of_ble_eq_true rfl⟩) (fw_recL hz hw hLt) rfl hl.1 rfl (Nat.le_of_ble_eq_true rfl) dX8_make_69 ⟨Nat.le_of_ble_eq_true rfl, Nat.le_of_ble_eq_true rfl⟩) hw (fun r F1 H locs hw hp => ?_)
        obtain ⟨hp0, hp⟩ := hp
        rw [hp0] at hw
        refine W.widen (k := 0) (n := 0) (Nat.le_of_ble_eq_true rfl) (Nat.le_of_ble_eq_true rfl) ?_
        subst hp
        refine lv_bipush (v := (nI 8)) hx hb dX8_make_72 (by decide) ?_
        refine lv_icmp_lt (tgt := 87) hx hb dX8_make_74 (by decide) (fun d4 => ?_) (fun d4 => ?_)
        · have d4 := (nI_ltI (a := nT) (b := 8) (by omega) (by omega)).mp d4
          refine lv_aload_n hx hb dX8_make_87 rfl (lv_at hl 0 rfl) ?_
          refine fw_get (v := .ref lt) hx hb hT fi_RX8 hown hz hw hX rfl 1 (by decide) (hT _ wd_176) (fun _ h9 => h9) rfl dX8_make_88 ?_
          refine lv_aload_n hx hb dX8_make_91 rfl (lv_at hl 0 rfl) ?_
          refine fw_get (v := .ref dr) hx hb hT fi_RX8 hown hz hw hX rfl 5 (by decide) (hT _ wd_180) (fun _ h9 => h9) rfl dX8_make_92 ?_
          refine fw_calli (fw_runV (As := [.ref dr]) (rest := []) C hz hw (c_Jx4a65c_add_9ea2d l G _ _ lt al0 nT (1, 1, 0) ta dr 8 (3, nT, 0) _ (by decide) hLt (by omega) hD) (fw_cwV hT wd_115 yVJx4a65c_add_9ea2d rfl rfl ⟨Nat.le_of_ble_eq_true rfl, Nat.le_of_ble_eq_true rfl⟩) (fw_recL hz hw hLt) rfl hl.1 rfl (Nat.le_of_ble_eq_true rfl) dX8_make_95 ⟨Nat.le_of_ble_eq_true rfl, Nat.le_of_ble_eq_true rfl⟩) hw (fun r F2 H locs hw hp => ?_)
          refine W.widen (k := 1) (n := 240) (Nat.le_of_ble_eq_true rfl) (Nat.le_of_ble_eq_true rfl) ?_
          obtain ⟨rfl, al, hp⟩ := hp
          have hk1 : fw_kp F F2 (fun w => w = (1, 1, 0)) := by rw [hp]; exact fw_kp.rf.up hLt rfl
          have hLt2 : F2 lt = some ((1, 1, 0), fw_ls al (nT + 1) (va_up ta nT dr)) := by rw [hp]; exact fw_up_self
          have hX2 := hk1 _ _ _ hX (by simp)
          refine lv_pop hx hb dX8_make_98 rfl ?_
          refine lv_aload_n hx hb dX8_make_99 rfl (lv_at hl 0 rfl) ?_
          refine fw_new (3, nT + 1, 0) (ci := 8) (fs := [.null, .null, .int (nI 0)]) hx hb hT fi_RX7 tyX7 tyX7_ok hown (hT _ wd_59) (hT _ wd_60) (hT _ wd_5) hz hw hAn rfl (by intro j hj; rcases (show j = 0 ∨ j = 1 ∨ j = 2 by omega) with rfl | rfl | rfl <;> rfl) (Nat.le_of_ble_eq_true rfl) (Nat.le_of_ble_eq_true rfl) dX8_make_100 (fun b9 H hqb9 hw => ?_)
          refine W.widen (k := 2) (n := 243) (Nat.le_of_ble_eq_true rfl) (Nat.le_of_ble_eq_true rfl) ?_
          obtain ⟨W1, hFW1⟩ : ∃ z, z = va_up F2 b9 (some ((3, nT + 1, 0), fw_obj 8 [.null, .null, .int (nI 0)])) := ⟨_, rfl⟩
          rw [← hFW1] at hw
          have k1_0 : W1 x = some ((50, 0, 0), fw_obj 9 [.ref lc, .ref lt, .ref lo, .ref lm, .ref lw, .ref dr, .int tm]) := by rw [hFW1]; exact fw_up_new hX2 hqb9
          have k1_1 : W1 lt = some ((1, 1, 0), fw_ls al (nT + 1) (va_up ta nT dr)) := by rw [hFW1]; exact fw_up_new hLt2 hqb9
          have k1_s : W1 b9 = some ((3, nT + 1, 0), fw_obj 8 [.null, .null, .int (nI 0)]) := by rw [hFW1]; exact fw_up_self
          refine lv_dup hx hb dX8_make_103 rfl ?_
          refine fw_callv (fw_runIN (As := []) (rest := [.ref b9, .ref x]) C hz hw (c_X7_init l G _ _ b9 (nT + 1) (3, nT + 1, 0) k1_s) (fw_cnI hT (hz.2.2.2.2.2.2.1 _ (List.mem_of_getElem? (i := 0) rfl)) yIX7_init rfl rfl ⟨Nat.le_of_ble_eq_true rfl, Nat.le_of_ble_eq_true rfl⟩) rfl hl.1 rfl (Nat.le_of_ble_eq_true rfl) dX8_make_104 ⟨Nat.le_of_ble_eq_true rfl, Nat.le_of_ble_eq_true rfl⟩) hw (fun F3 H locs hw hp => ?_)
          refine W.widen (k := 4) (n := 248) (Nat.le_of_ble_eq_true rfl) (Nat.le_of_ble_eq_true rfl) ?_
          obtain ⟨q1, q2, hp1, hp2, hp3, hkq⟩ := hp
          have hXq : cr_X F3 x lc lt lo lm lw dr tm := hkq _ _ _ k1_0 (by simp)
          have hLt3 := hkq _ _ _ k1_1 (by simp)
          have hk2 : fw_kp F2 W1 (fun w => w = (3, nT + 1, 0)) := by rw [hFW1]; exact fw_kp.rf.new hqb9
          refine fw_put (v := .ref b9) (fs' := [.ref lc, .ref lt, .ref lo, .ref lm, .ref lw, .ref b9, .int tm]) hx hb hT fi_RX8 tyX8 tyX8_ok nmX8 hown hz hw hXq rfl 5 (by decide) (hT _ wd_180) (fun _ h9 => h9) rfl (ty := tyX8 5) (by decide +kernel) rfl rfl (Nat.le_of_ble_eq_true rfl) rfl dX8_make_107 (fun H locs hw => ?_)
          obtain ⟨W2, hFW2⟩ : ∃ z, z = va_up F3 x (some ((50, 0, 0), fw_obj 9 [.ref lc, .ref lt, .ref lo, .ref lm, .ref lw, .ref b9, .int tm])) := ⟨_, rfl⟩
          rw [← hFW2] at hw
          have k2_0 : W2 lt = some ((1, 1, 0), fw_ls al (nT + 1) (va_up ta nT dr)) := by rw [hFW2]; exact fw_up_tag hLt3 hXq (by intro z; cases z)
          have k2_1 : W2 b9 = some ((3, nT + 1, 0), fw_obj 8 [.ref q1, .ref q2, .int (nI 0)]) := by rw [hFW2]; exact fw_up_tag hp1 hXq (by intro z; cases z)
          have k2_2 : W2 q1 = some ((13, nT + 1, 0), fw_ls (fw_ea G) 0 (fun _ => 0)) := by rw [hFW2]; exact fw_up_tag hp2 hXq (by intro z; cases z)
          have k2_3 : W2 q2 = some ((33, nT + 1, 0), fw_obj 2 [.long (lN 1), .long (lN 1)]) := by rw [hFW2]; exact fw_up_tag hp3 hXq (by intro z; cases z)
          have k2_s : W2 x = some ((50, 0, 0), fw_obj 9 [.ref lc, .ref lt, .ref lo, .ref lm, .ref lw, .ref b9, .int tm]) := by rw [hFW2]; exact fw_up_self
          refine lv_aload_n hx hb dX8_make_110 rfl (lv_at hl 0 rfl) ?_
          refine fw_get (v := .ref lt) hx hb hT fi_RX8 hown hz hw k2_s rfl 1 (by decide) (hT _ wd_176) (fun _ h9 => h9) rfl dX8_make_111 ?_
          refine fw_calli (fw_runV (As := []) (rest := []) C hz hw (c_Jx4a65c_size_8abf5 l G _ _ lt al (nT + 1) (1, 1, 0) _ k2_0) (fw_cwV hT wd_278 yVJx4a65c_size_8abf5 rfl rfl ⟨Nat.le_of_ble_eq_true rfl, Nat.le_of_ble_eq_true rfl⟩) (fw_recL hz hw k2_0) rfl hl.1 rfl (Nat.le_of_ble_eq_true rfl) dX8_make_114 ⟨Nat.le_of_ble_eq_true rfl, Nat.le_of_ble_eq_true rfl⟩) hw (fun r F1 H locs hw hp => ?_)
          obtain ⟨hp0, hp⟩ := hp
          rw [hp0] at hw
          refine W.widen (k := 4) (n := 248) (Nat.le_of_ble_eq_true rfl) (Nat.le_of_ble_eq_true rfl) ?_
          subst hp
          refine lv_iconst (v := (nI 1)) hx hb dX8_make_117 (by decide) ?_
          refine lv_isub hx hb dX8_make_118 ?_
          refine fw_top (pk_sub (by omega)) ?_
          refine fw_top (x' := (nI nT)) (by rw [Nat.add_sub_cancel]) ?_
          have hk3 : fw_kp F3 W2 (fun u => u = (50, 0, 0)) := by rw [hFW2]; exact fw_kp.rf.up hXq rfl
          have hend := (((hk1.tr hk2).tr hkq).tr hk3).wk (Q := (fun w => w = (50, 0, 0) ∨ w = (1, 1, 0) ∨ w = (3, nT + 1, 0))) (fun t z => z.elim (fun z => z.elim (fun z => z.elim (fun z => Or.inr (Or.inl z)) (fun z => Or.inr (Or.inr z))) (fun z => Or.inr (Or.inr z))) Or.inl)
          refine vx_ret ?_
          exact fw_iret hx hb hr hlk (Nat.le_of_ble_eq_true rfl) (Nat.le_of_ble_eq_true rfl) hw dX8_make_119 (⟨al, b9, q1, q2, by omega, d2.symm, d3, d4, rfl, k2_0, k2_s, k2_1, k2_2, k2_3, hend⟩)
        · have d4 : ¬ nT < 8 := fun h9 => d4 ((nI_ltI (a := nT) (b := 8) (by omega) (by omega)).mpr h9)
          exact fw_throw (ik := 68) (is := 115) (ic := 72) hx hb hl9 hown (by decide +kernel) wd_282 wd_16 hT (fw_atS hT hcx) fw_otS hz hw (List.mem_of_getElem? (i := 8) rfl) (hl.1.trans hml.symm) dX8_make_77 dX8_make_80 dX8_make_81 dX8_make_83 dX8_make_86 hno ⟨Nat.le_of_ble_eq_true rfl, Nat.le_of_ble_eq_true rfl, Nat.le_of_ble_eq_true rfl, Nat.le_of_ble_eq_true rfl⟩ hlk (⟨rfl, Or.inr (Or.inr (Or.inr (by omega)))⟩) (Nat.le_of_ble_eq_true rfl) (Nat.le_of_ble_eq_true rfl)
      · have d3 := fw_b0 d3
        exact fw_throw (ik := 68) (is := 113) (ic := 72) hx hb hl9 hown (by decide +kernel) wd_282 wd_16 hT (fw_atS hT hcx) fw_otS hz hw (List.mem_of_getElem? (i := 7) rfl) (hl.1.trans hml.symm) dX8_make_55 dX8_make_58 dX8_make_59 dX8_make_61 dX8_make_64 hno ⟨Nat.le_of_ble_eq_true rfl, Nat.le_of_ble_eq_true rfl, Nat.le_of_ble_eq_true rfl, Nat.le_of_ble_eq_true rfl⟩ hlk (⟨rfl, Or.inr (Or.inr (Or.inl d3))⟩) (Nat.le_of_ble_eq_true rfl) (Nat.le_of_ble_eq_true rfl)
    · have d2 : ¬ rf_ds (f 6) nD = di := d2
      exact fw_throw (ik := 68) (is := 107) (ic := 72) hx hb hl9 hown (by decide +kernel) wd_282 wd_16 hT (fw_atS hT hcx) fw_otS hz hw (List.mem_of_getElem? (i := 6) rfl) (hl.1.trans hml.symm) dX8_make_34 dX8_make_37 dX8_make_38 dX8_make_40 dX8_make_43 hno ⟨Nat.le_of_ble_eq_true rfl, Nat.le_of_ble_eq_true rfl, Nat.le_of_ble_eq_true rfl, Nat.le_of_ble_eq_true rfl⟩ hlk (⟨rfl, Or.inr (Or.inl (fun z => d2 z.symm))⟩) (Nat.le_of_ble_eq_true rfl) (Nat.le_of_ble_eq_true rfl)
  · have d := fw_b1 d
    exact fw_throw (ik := 68) (is := 105) (ic := 72) hx hb hl9 hown (by decide +kernel) wd_282 wd_16 hT (fw_atS hT hcx) fw_otS hz hw (List.mem_of_getElem? (i := 5) rfl) (hl.1.trans hml.symm) dX8_make_13 dX8_make_16 dX8_make_17 dX8_make_19 dX8_make_22 hno ⟨Nat.le_of_ble_eq_true rfl, Nat.le_of_ble_eq_true rfl, Nat.le_of_ble_eq_true rfl, Nat.le_of_ble_eq_true rfl⟩ hlk (⟨rfl, Or.inl (of_decide_eq_true d)⟩) (Nat.le_of_ble_eq_true rfl) (Nat.le_of_ble_eq_true rfl)
