/-! The class's calls that change something: passing time, cutters, the draft. -/
theorem cr_K.kp {F F1 : fw_F} {P : fw_T → Prop} {lm lw : Nat} {ma ja oa tr ml : Nat → Nat} {f : mm_A} {nJ nO nW : Nat} {wj : Nat → Nat} (hK : cr_K F lm lw ma ja oa tr ml f nJ nO nW wj) (hk : fw_kp F F1 P) (hP : ∀ t : fw_T, t.1 = 9 ∨ t.1 = 5 ∨ t.1 = 8 ∨ t = (1, 3, 0) ∨ t = (1, 4, 0) → ¬ P t) : cr_K F1 lm lw ma ja oa tr ml f nJ nO nW wj := by
  obtain ⟨⟨⟨arm, hLm⟩, hms⟩, ⟨hn, ⟨arr, hLw⟩, hjs⟩, hO, hJ⟩ := hK
  exact ⟨⟨⟨arm, hk _ _ _ hLm (hP _ (by simp))⟩, fun m h3 => hk _ _ _ (hms m h3) (hP _ (by simp))⟩, ⟨hn, ⟨arr, hk _ _ _ hLw (hP _ (by simp))⟩, fun a ha => hk _ _ _ (hjs a ha) (hP _ (by simp))⟩, fun o ho => hk _ _ _ (hO o ho) (hP _ (by simp)), fun j hj => hk _ _ _ (hJ j hj) (hP _ (by simp))⟩
def cr_Z (F : fw_F) (ml : Nat → Nat) (ms sa : Nat → Nat → Nat) (f : mm_A) (nO : Nat) : Prop := ∀ o, o < nO → (∃ arr, F (ml o) = some ((6, o, 0), fw_ls arr (rf_sm f (rf_ot f o)) (ms o))) ∧ ∀ k, k < rf_sm f (rf_ot f o) → F (ms o k) = some ((7, o, k), fw_obj 5 [.ref (sa (rf_ot f o) k), .int (f 15 (4 * o + k))])
set_option maxHeartbeats 4000000 in
set_option maxRecDepth 100000 in
theorem c_X8_pass (l : Launch) (G : fw_G) (F : fw_F) (sz : Nat) (x lc lt lo lm lw dr : Nat) (tm : Int32) (ma ja oa tr ml : Nat → Nat) (f : mm_A) (nJ nO nW : Nat) (wj : Nat → Nat) (q : Int32) (hl9 : l.stackTraces = false) (hX : cr_X F x lc lt lo lm lw dr tm) (hK : cr_K F lm lw ma ja oa tr ml f nJ nO nW wj) (hI : cr_I f nJ nO nW wj) : vx_Met l yX8_pass (fw_ws yX8_pass cX8_pass 4 (some (.int))) { frames := 7, cells := 1, slots := 6, locals := 155 } (va_Pc [.ref x, .int q] (fw_PreX G F sz)) (va_Qi (fun r F1 => ∃ j nW1 wj1, 1 ≤ j ∧ j ≤ 200 ∧ q = nI j ∧ r = nI (rf_passn nJ tm f j) ∧ cr_X F1 x lc lt lo lm lw dr (tm + nI j) ∧ cr_K F1 lm lw ma ja oa tr ml (rf_passf nJ tm f j) nJ nO nW1 wj1 ∧ cr_I (rf_passf nJ tm f j) nJ nO nW1 wj1 ∧ fw_kp F F1 (fun t => t.1 = 9 ∨ t.1 = 5 ∨ t = (1, 4, 0) ∨ t = (50, 0, 0))) (fw_B G (fw_W G F sz)) (fw_W G F sz)) (fw_xc G (fw_W G F sz) F (fun E => E = "java/lang/IllegalArgumentException" ∧ rf_in q (nI 1) (nI 200) = false)) 1 6 (fw_W G F sz) := by
  refine fw_metX (lv := [(0, .ref x), (1, .int q)]) (by decide +kernel) (Nat.le_of_ble_eq_true rfl) rfl ?_
  intro A hA p e s m below meth c ls hx hb hml hown hT hr hlk hno hcx hz hsz hw hAn hl
  rw [← hA]
  have hown : s.vm.findClass RX8 = some m.cls := hown
  have C : CallFix p m c cX8_pass 4 s _ fw_tb RX8 := ⟨hx, hb, hml, hown, hT⟩
  refine lv_iload_n hx hb dX8_pass_0 rfl (lv_at hl 1 rfl) ?_
  refine lv_iconst (v := (nI 1)) hx hb dX8_pass_1 (by decide) ?_
  refine lv_sipush (v := (nI 200)) hx hb dX8_pass_2 (by decide) ?_
  refine fw_calli (fw_runS (As := [.int q, .int (nI 1), .int (nI 200)]) (rest := []) C hz hw (c_X8_isOutside l G _ _ q (nI 1) (nI 200)) (fw_cwS hT wd_204 ySX8_isOutside rfl rfl ⟨Nat.le_of_ble_eq_true rfl, Nat.le_of_ble_eq_true rfl⟩) rfl hl.1 rfl (Nat.le_of_ble_eq_true rfl) dX8_pass_5 ⟨Nat.le_of_ble_eq_true rfl, Nat.le_of_ble_eq_true rfl⟩) hw (fun r F1 H locs hw hp => ?_)
  obtain ⟨hp0, hp⟩ := hp
  rw [hp0] at hw
  refine W.widen (k := 0) (n := 0) (Nat.le_of_ble_eq_true rfl) (Nat.le_of_ble_eq_true rfl) ?_
  subst hp
  refine lv_if_eq (tgt := 21) hx hb dX8_pass_8 (by decide) (fun d9 => ?_) (fun d9 => ?_)
  · have d9 := fw_b0 d9
    have d9 : rf_in q (nI 1) (nI 200) = true := by simpa using d9
    obtain ⟨j, hj1, hj2, hq⟩ := rf_in_n (by omega) d9
    rw [hq] at hl
    refine lv_iconst (v := (nI 0)) hx hb dX8_pass_21 (by decide) ?_
    refine lv_istore_n (lv' := [(2, .int (nI 0)), (0, .ref x), (1, .int (nI j))]) hx hb dX8_pass_22 rfl hl (by decide) rfl (fun ls hl => ?_)
    refine lv_iconst (v := (nI 0)) hx hb dX8_pass_23 (by decide) ?_
    refine lv_istore_n (lv' := [(3, .int (nI 0)), (2, .int (nI 0)), (0, .ref x), (1, .int (nI j))]) hx hb dX8_pass_24 rfl hl (by decide) rfl (fun ls hl => ?_)
    suffices hlp : ∀ (d k : Nat) (F1 : fw_F) (nW1 : Nat) (wj1 : Nat → Nat), k + d = j → cr_X F1 x lc lt lo lm lw dr (tm + nI k) → cr_K F1 lm lw ma ja oa tr ml (rf_passf nJ tm f k) nJ nO nW1 wj1 → cr_I (rf_passf nJ tm f k) nJ nO nW1 wj1 → fw_kp F F1 (fun t => t.1 = 9 ∨ t.1 = 5 ∨ t = (1, 4, 0) ∨ t = (50, 0, 0)) → ∀ (H : Heap) (locs : List Loc) (ls : Array Slot), fw_S G A s F1 H locs → lv_has ls 4 [(3, .int (nI k)), (2, .int (nI (rf_passn nJ tm f k))), (0, .ref x), (1, .int (nI j))] → W p l e { frames := 7, cells := 1, slots := 6, locals := 155 } s m ([.ref x, .int q] : List Value).toArray below meth c H locs 0 0 (vx_MQ below (va_Qi (fun r F1 => ∃ j nW1 wj1, 1 ≤ j ∧ j ≤ 200 ∧ q = nI j ∧ r = nI (rf_passn nJ tm f j) ∧ cr_X F1 x lc lt lo lm lw dr (tm + nI j) ∧ cr_K F1 lm lw ma ja oa tr ml (rf_passf nJ tm f j) nJ nO nW1 wj1 ∧ cr_I (rf_passf nJ tm f j) nJ nO nW1 wj1 ∧ fw_kp F F1 (fun t => t.1 = 9 ∨ t.1 = 5 ∨ t = (1, 4, 0) ∨ t = (50, 0, 0))) (fw_B G A) A) (fw_xc G A F (fun E => E = "java/lang/IllegalArgumentException" ∧ rf_in q (nI 1) (nI 200) = false)) ([.ref x, .int q] : List Value).toArray s 1 6 A) (F0 m 25 ls []) by
      exact hlp j 0 F nW wj (Nat.zero_add _) (by rw [show tm + nI 0 = tm from Int32.add_zero tm]; exact hX) hK hI fw_kp.rf _ _ _ hw (lv_sub hl [0, 1, 2, 3] rfl)
    intro d
    induction d with
    | zero =>
      intro k E1 nW1 wj1 hk hX1 hK1 hI1 hkp H locs ls hw hl
      refine lv_iload_n hx hb dX8_pass_25 rfl (lv_at hl 0 rfl) ?_
      refine lv_iload_n hx hb dX8_pass_26 rfl (lv_at hl 3 rfl) ?_
      refine lv_icmp_ge (tgt := 57) hx hb dX8_pass_27 (by decide) (fun q9 => ?_) (fun q9 => ?_)
      · have q9 := (nI_leI (a := j) (b := k) (by omega) (by omega)).mp q9
        obtain rfl : k = j := by omega
        refine lv_iload_n hx hb dX8_pass_57 rfl (lv_at hl 1 rfl) ?_
        refine vx_ret ?_
        exact fw_iret hx hb hr hlk (Nat.le_of_ble_eq_true rfl) (Nat.le_of_ble_eq_true rfl) hw dX8_pass_58 (⟨_, nW1, wj1, hj1, hj2, hq, rfl, hX1, hK1, hI1, hkp⟩)
      · have q9 : ¬ j ≤ k := fun h9 => q9 ((nI_leI (a := j) (b := k) (by omega) (by omega)).mpr h9)
        omega
    | succ d ih =>
      intro k E1 nW1 wj1 hk hX1 hK1 hI1 hkp H locs ls hw hl
      refine lv_iload_n hx hb dX8_pass_25 rfl (lv_at hl 0 rfl) ?_
      refine lv_iload_n hx hb dX8_pass_26 rfl (lv_at hl 3 rfl) ?_
      refine lv_icmp_ge (tgt := 57) hx hb dX8_pass_27 (by decide) (fun q9 => ?_) (fun q9 => ?_)
      · have q9 := (nI_leI (a := j) (b := k) (by omega) (by omega)).mp q9
        omega
      · have q9 : ¬ j ≤ k := fun h9 => q9 ((nI_leI (a := j) (b := k) (by omega) (by omega)).mpr h9)
        refine lv_aload_n hx hb dX8_pass_30 rfl (lv_at hl 2 rfl) ?_
        refine lv_dup hx hb dX8_pass_31 rfl ?_
        refine fw_get (v := .int (tm + nI k)) hx hb hT fi_RX8 hown hz hw hX1 rfl 6 (by decide) (hT _ wd_181) (fun _ h9 => h9) rfl dX8_pass_32 ?_
        refine lv_iconst (v := (nI 1)) hx hb dX8_pass_35 (by decide) ?_
        refine lv_iadd hx hb dX8_pass_36 ?_
        refine fw_top (x' := (tm + nI (k + 1))) (by rw [Int32.add_assoc, nI_add]) ?_
        refine fw_put (v := .int (tm + nI (k + 1))) (fs' := [.ref lc, .ref lt, .ref lo, .ref lm, .ref lw, .ref dr, .int (tm + nI (k + 1))]) hx hb hT fi_RX8 tyX8 tyX8_ok nmX8 hown hz hw hX1 rfl 6 (by decide) (hT _ wd_181) (fun _ h9 => h9) rfl (ty := tyX8 6) (by decide +kernel) rfl rfl (Nat.le_of_ble_eq_true rfl) rfl dX8_pass_37 (fun H locs hw => ?_)
        obtain ⟨W1, hFW1⟩ : ∃ z, z = va_up E1 x (some ((50, 0, 0), fw_obj 9 [.ref lc, .ref lt, .ref lo, .ref lm, .ref lw, .ref dr, .int (tm + nI (k + 1))])) := ⟨_, rfl⟩
        rw [← hFW1] at hw
        have k1_s : W1 x = some ((50, 0, 0), fw_obj 9 [.ref lc, .ref lt, .ref lo, .ref lm, .ref lw, .ref dr, .int (tm + nI (k + 1))]) := by rw [hFW1]; exact fw_up_self
        have hkx : fw_kp E1 W1 (fun t => t = (50, 0, 0)) := by rw [hFW1]; exact fw_kp.rf.up hX1 rfl
        have hK2 := hK1.kp hkx (fun t h z => by rw [z] at h; simp at h)
        have hX2 : cr_X W1 x lc lt lo lm lw dr (tm + nI (k + 1)) := k1_s
        refine lv_aload_n hx hb dX8_pass_40 rfl (lv_at hl 2 rfl) ?_
        refine fw_callv (fw_runV (As := []) (rest := []) C hz hw (c_X8_giveOutJobs l G _ _ x lc lt lo lm lw dr (tm + nI (k + 1)) ma ja oa tr ml (rf_passf nJ tm f k) nJ nO nW1 wj1 hX2 hK2 hI1) (fw_cwV hT wd_511 yVX8_giveOutJobs rfl rfl ⟨Nat.le_of_ble_eq_true rfl, Nat.le_of_ble_eq_true rfl⟩) (fw_rec hz hw k1_s (q := vwCl[9]) rfl) rfl hl.1 rfl (Nat.le_of_ble_eq_true rfl) dX8_pass_41 ⟨Nat.le_of_ble_eq_true rfl, Nat.le_of_ble_eq_true rfl⟩) hw (fun F2 H locs hw hp => ?_)
        refine W.widen (k := 0) (n := 0) (Nat.le_of_ble_eq_true rfl) (Nat.le_of_ble_eq_true rfl) ?_
        obtain ⟨nW2, wj2, hK3, hI3, hkg⟩ := hp
        have hX3 : cr_X F2 x lc lt lo lm lw dr (tm + nI (k + 1)) := hkg _ _ _ hX2 (by simp)
        refine lv_iload_n hx hb dX8_pass_44 rfl (lv_at hl 1 rfl) ?_
        refine lv_aload_n hx hb dX8_pass_45 rfl (lv_at hl 2 rfl) ?_
        refine fw_calli (fw_runV (As := []) (rest := [.int (nI (rf_passn nJ tm f k))]) C hz hw (c_X8_workOneTick l G _ _ x lc lt lo lm lw dr (tm + nI (k + 1)) ma ja oa tr ml (rf_give (rf_passf nJ tm f k) nJ 3) nJ nO nW2 wj2 hX3 hK3 hI3) (fw_cwV hT wd_544 yVX8_workOneTick rfl rfl ⟨Nat.le_of_ble_eq_true rfl, Nat.le_of_ble_eq_true rfl⟩) (fw_rec hz hw hX3 (q := vwCl[9]) rfl) rfl hl.1 rfl (Nat.le_of_ble_eq_true rfl) dX8_pass_46 ⟨Nat.le_of_ble_eq_true rfl, Nat.le_of_ble_eq_true rfl⟩) hw (fun r F3 H locs hw hp => ?_)
        refine W.widen (k := 0) (n := 0) (Nat.le_of_ble_eq_true rfl) (Nat.le_of_ble_eq_true rfl) ?_
        obtain ⟨hr9, hK4, hI4, hkw⟩ := hp
        have hX4 : cr_X F3 x lc lt lo lm lw dr (tm + nI (k + 1)) := hkw _ _ _ hX3 (by simp)
        subst hr9
        have et : tm + nI (k + 1) = tm + nI k + 1 := by rw [← nI_1, Int32.add_assoc]
        have e9 : rf_passf nJ tm f (k + 1) = rf_work nJ (tm + nI (k + 1)) (rf_give (rf_passf nJ tm f k) nJ 3) 3 := by rw [rf_passf, rf_tickf, et]
        have e8 : rf_passn nJ tm f (k + 1) = rf_passn nJ tm f k + rf_cnt nJ (tm + nI (k + 1)) (rf_give (rf_passf nJ tm f k) nJ 3) 3 := by rw [rf_passn, rf_tickn, et]
        rw [← e9] at hK4 hI4
        have hkp4 := (((hkp.tr hkx).tr hkg).tr hkw).wk (Q := (fun t => t.1 = 9 ∨ t.1 = 5 ∨ t = (1, 4, 0) ∨ t = (50, 0, 0))) (fun t z => z.elim (fun z => z.elim (fun z => z.elim id (fun z => Or.inr (Or.inr (Or.inr z)))) (fun z => z.elim Or.inl (fun z => Or.inr (Or.inr (Or.inl z))))) (fun z => z.elim Or.inl (fun z => Or.inr (Or.inl z))))
        refine lv_iadd hx hb dX8_pass_49 ?_
        refine fw_top (nI_add _ _) ?_
        refine fw_top (x' := (nI (rf_passn nJ tm f (k + 1)))) (by rw [e8]) ?_
        refine lv_istore_n (lv' := [(2, .int (nI (rf_passn nJ tm f (k + 1)))), (3, .int (nI k)), (0, .ref x), (1, .int (nI j))]) hx hb dX8_pass_50 rfl hl (by decide) rfl (fun ls hl => ?_)
        refine lv_iinc (v := (nI (k + 1))) (lv' := [(3, .int (nI (k + 1))), (2, .int (nI (rf_passn nJ tm f (k + 1)))), (0, .ref x), (1, .int (nI j))]) hx hb dX8_pass_51 hl (k := 1) rfl (nI_1 _) (by decide) rfl (fun ls hl => ?_)
        refine lv_goto (tgt := 25) hx hb dX8_pass_54 (by decide) ?_
        exact ih (k + 1) _ nW2 wj2 (by omega) hX4 hK4 hI4 hkp4 _ _ _ hw (lv_sub hl [0, 1, 2, 3] rfl)
  · have d9 := fw_b1 d9
    exact fw_throw (ik := 57) (is := 172) (ic := 61) hx hb hl9 hown (by decide +kernel) wd_210 wd_15 hT (fw_atA hT hcx) fw_otA hz hw (List.mem_of_getElem? (i := 12) rfl) (hl.1.trans hml.symm) dX8_pass_11 dX8_pass_14 dX8_pass_15 dX8_pass_17 dX8_pass_20 hno ⟨Nat.le_of_ble_eq_true rfl, Nat.le_of_ble_eq_true rfl, Nat.le_of_ble_eq_true rfl, Nat.le_of_ble_eq_true rfl⟩ hlk (⟨rfl, by simpa using d9⟩) (Nat.le_of_ble_eq_true rfl) (Nat.le_of_ble_eq_true rfl)
set_option maxHeartbeats 4000000 in
set_option maxRecDepth 100000 in
theorem c_X8_addCutter (l : Launch) (G : fw_G) (F : fw_F) (sz : Nat) (x lc lt lo lm lw dr : Nat) (tm : Int32) (ca : Nat → Nat) (f : mm_A) (nC arr : Nat) (mo le mx : Int32) (hl9 : l.stackTraces = false) (hX : cr_X F x lc lt lo lm lw dr tm) (hL : F lc = some ((1, 0, 0), fw_ls arr nC ca)) (hnC : nC ≤ 10) : vx_Met l yX8_addCutter (fw_ws yX8_addCutter cX8_addCutter 4 (some (.int))) { frames := 7, cells := 2, slots := 244, locals := 171 } (va_Pc [.ref x, .int mo, .int le, .int mx] (fw_PreX G F sz)) (va_Qi (fun r F1 => rf_okC mo le mx = true ∧ nC < 10 ∧ r = nI nC ∧ ∃ b q, F b = none ∧ F1 = va_up (va_up F b (some ((2, nC, 0), fw_obj 1 [.int mo, .int le, .int mx]))) lc (some ((1, 0, 0), fw_ls q (nC + 1) (va_up ca nC b)))) (fw_B G (fw_W G F sz)) (fw_W G F sz)) (fw_xc G (fw_W G F sz) F (fun E => (E = "java/lang/IllegalArgumentException" ∧ rf_okC mo le mx = false) ∨ (E = "java/lang/IllegalStateException" ∧ rf_okC mo le mx = true ∧ nC = 10))) 2 244 (fw_W G F sz) := by
  refine fw_metX (lv := [(0, .ref x), (1, .int mo), (2, .int le), (3, .int mx)]) (by decide +kernel) (Nat.le_of_ble_eq_true rfl) rfl ?_
  intro A hA p e s m below meth c ls hx hb hml hown hT hr hlk hno hcx hz hsz hw hAn hl
  rw [← hA]
  have hown : s.vm.findClass RX8 = some m.cls := hown
  have C : CallFix p m c cX8_addCutter 4 s _ fw_tb RX8 := ⟨hx, hb, hml, hown, hT⟩
  refine lv_iload_n hx hb dX8_addCutter_0 rfl (lv_at hl 1 rfl) ?_
  refine fw_calli (fw_runS (As := [.int mo]) (rest := []) C hz hw (c_X8_isNoModule l G _ _ mo) (fw_cwS hT wd_201 ySX8_isNoModule rfl rfl ⟨Nat.le_of_ble_eq_true rfl, Nat.le_of_ble_eq_true rfl⟩) rfl hl.1 rfl (Nat.le_of_ble_eq_true rfl) dX8_addCutter_1 ⟨Nat.le_of_ble_eq_true rfl, Nat.le_of_ble_eq_true rfl⟩) hw (fun r F1 H locs hw hp => ?_)
  obtain ⟨hp0, hp⟩ := hp
  rw [hp0] at hw
  refine W.widen (k := 0) (n := 0) (Nat.le_of_ble_eq_true rfl) (Nat.le_of_ble_eq_true rfl) ?_
  subst hp
  refine lv_if_ne (tgt := 24) hx hb dX8_addCutter_4 (by decide) (fun d => ?_) (fun d => ?_)
  · have d := fw_b1 d
    have d : rf_in mo (nI 1) (nI 4) = false := by simpa using d
    exact fw_throw (ik := 57) (is := 59) (ic := 61) hx hb hl9 hown (by decide +kernel) wd_210 wd_15 hT (fw_atA hT hcx) fw_otA hz hw (List.mem_of_getElem? (i := 0) rfl) (hl.1.trans hml.symm) dX8_addCutter_24 dX8_addCutter_27 dX8_addCutter_28 dX8_addCutter_30 dX8_addCutter_33 hno ⟨Nat.le_of_ble_eq_true rfl, Nat.le_of_ble_eq_true rfl, Nat.le_of_ble_eq_true rfl, Nat.le_of_ble_eq_true rfl⟩ hlk (Or.inl ⟨rfl, by rw [rf_okC, d]; rfl⟩) (Nat.le_of_ble_eq_true rfl) (Nat.le_of_ble_eq_true rfl)
  · have d := fw_b0 d
    have d : rf_in mo (nI 1) (nI 4) = true := by simpa using d
    refine lv_iload_n hx hb dX8_addCutter_7 rfl (lv_at hl 2 rfl) ?_
    refine fw_calli (fw_runS (As := [.int le]) (rest := []) C hz hw (c_X8_isNoToothCount l G _ _ le) (fw_cwS hT wd_207 ySX8_isNoToothCount rfl rfl ⟨Nat.le_of_ble_eq_true rfl, Nat.le_of_ble_eq_true rfl⟩) rfl hl.1 rfl (Nat.le_of_ble_eq_true rfl) dX8_addCutter_8 ⟨Nat.le_of_ble_eq_true rfl, Nat.le_of_ble_eq_true rfl⟩) hw (fun r F1 H locs hw hp => ?_)
    obtain ⟨hp0, hp⟩ := hp
    rw [hp0] at hw
    refine W.widen (k := 0) (n := 0) (Nat.le_of_ble_eq_true rfl) (Nat.le_of_ble_eq_true rfl) ?_
    subst hp
    refine lv_if_ne (tgt := 24) hx hb dX8_addCutter_11 (by decide) (fun d2 => ?_) (fun d2 => ?_)
    · have d2 := fw_b1 d2
      have d2 : rf_in le (nI 8) (nI 60) = false := by simpa using d2
      exact fw_throw (ik := 57) (is := 59) (ic := 61) hx hb hl9 hown (by decide +kernel) wd_210 wd_15 hT (fw_atA hT hcx) fw_otA hz hw (List.mem_of_getElem? (i := 0) rfl) (hl.1.trans hml.symm) dX8_addCutter_24 dX8_addCutter_27 dX8_addCutter_28 dX8_addCutter_30 dX8_addCutter_33 hno ⟨Nat.le_of_ble_eq_true rfl, Nat.le_of_ble_eq_true rfl, Nat.le_of_ble_eq_true rfl, Nat.le_of_ble_eq_true rfl⟩ hlk (Or.inl ⟨rfl, by rw [rf_okC, d, d2]; rfl⟩) (Nat.le_of_ble_eq_true rfl) (Nat.le_of_ble_eq_true rfl)
    · have d2 := fw_b0 d2
      have d2 : rf_in le (nI 8) (nI 60) = true := by simpa using d2
      refine lv_iload_n hx hb dX8_addCutter_14 rfl (lv_at hl 3 rfl) ?_
      refine lv_iload_n hx hb dX8_addCutter_15 rfl (lv_at hl 2 rfl) ?_
      refine lv_bipush (v := (nI 60)) hx hb dX8_addCutter_16 (by decide) ?_
      refine fw_calli (fw_runS (As := [.int mx, .int le, .int (nI 60)]) (rest := []) C hz hw (c_X8_isOutside l G _ _ mx le (nI 60)) (fw_cwS hT wd_204 ySX8_isOutside rfl rfl ⟨Nat.le_of_ble_eq_true rfl, Nat.le_of_ble_eq_true rfl⟩) rfl hl.1 rfl (Nat.le_of_ble_eq_true rfl) dX8_addCutter_18 ⟨Nat.le_of_ble_eq_true rfl, Nat.le_of_ble_eq_true rfl⟩) hw (fun r F1 H locs hw hp => ?_)
      obtain ⟨hp0, hp⟩ := hp
      rw [hp0] at hw
      refine W.widen (k := 0) (n := 0) (Nat.le_of_ble_eq_true rfl) (Nat.le_of_ble_eq_true rfl) ?_
      subst hp
      refine lv_if_eq (tgt := 34) hx hb dX8_addCutter_21 (by decide) (fun d3 => ?_) (fun d3 => ?_)
      · have d3 := fw_b0 d3
        have d3 : rf_in mx le (nI 60) = true := by simpa using d3
        have hok : rf_okC mo le mx = true := by rw [rf_okC, d, d2, d3]; rfl
        refine lv_aload_n hx hb dX8_addCutter_34 rfl (lv_at hl 0 rfl) ?_
        refine fw_get (v := .ref lc) hx hb hT fi_RX8 hown hz hw hX rfl 0 (by decide) (hT _ wd_175) (fun _ h9 => h9) rfl dX8_addCutter_35 ?_
        refine fw_calli (fw_runV (As := []) (rest := []) C hz hw (c_Jx4a65c_size_8abf5 l G _ _ lc arr nC (1, 0, 0) ca hL) (fw_cwV hT wd_278 yVJx4a65c_size_8abf5 rfl rfl ⟨Nat.le_of_ble_eq_true rfl, Nat.le_of_ble_eq_true rfl⟩) (fw_recL hz hw hL) rfl hl.1 rfl (Nat.le_of_ble_eq_true rfl) dX8_addCutter_38 ⟨Nat.le_of_ble_eq_true rfl, Nat.le_of_ble_eq_true rfl⟩) hw (fun r F1 H locs hw hp => ?_)
        obtain ⟨hp0, hp⟩ := hp
        rw [hp0] at hw
        refine W.widen (k := 0) (n := 0) (Nat.le_of_ble_eq_true rfl) (Nat.le_of_ble_eq_true rfl) ?_
        subst hp
        refine lv_bipush (v := (nI 10)) hx hb dX8_addCutter_41 (by decide) ?_
        refine lv_icmp_lt (tgt := 56) hx hb dX8_addCutter_43 (by decide) (fun d4 => ?_) (fun d4 => ?_)
        · have d4 := (nI_ltI (a := nC) (b := 10) (by omega) (by omega)).mp d4
          refine lv_aload_n hx hb dX8_addCutter_56 rfl (lv_at hl 0 rfl) ?_
          refine fw_get (v := .ref lc) hx hb hT fi_RX8 hown hz hw hX rfl 0 (by decide) (hT _ wd_175) (fun _ h9 => h9) rfl dX8_addCutter_57 ?_
          refine fw_new (2, nC, 0) (ci := 1) (fs := [.int (nI 0), .int (nI 0), .int (nI 0)]) hx hb hT fi_RX0 tyX0 tyX0_ok hown (hT _ wd_298) (hT _ wd_299) (hT _ wd_17) hz hw hAn rfl (by intro j hj; rcases (show j = 0 ∨ j = 1 ∨ j = 2 by omega) with rfl | rfl | rfl <;> rfl) (Nat.le_of_ble_eq_true rfl) (Nat.le_of_ble_eq_true rfl) dX8_addCutter_60 (fun b9 H hqb9 hw => ?_)
          refine W.widen (k := 1) (n := 3) (Nat.le_of_ble_eq_true rfl) (Nat.le_of_ble_eq_true rfl) ?_
          obtain ⟨W1, hFW1⟩ : ∃ z, z = va_up F b9 (some ((2, nC, 0), fw_obj 1 [.int (nI 0), .int (nI 0), .int (nI 0)])) := ⟨_, rfl⟩
          rw [← hFW1] at hw
          have k1_0 : W1 x = some ((50, 0, 0), fw_obj 9 [.ref lc, .ref lt, .ref lo, .ref lm, .ref lw, .ref dr, .int tm]) := by rw [hFW1]; exact fw_up_new hX hqb9
          have k1_1 : W1 lc = some ((1, 0, 0), fw_ls arr nC ca) := by rw [hFW1]; exact fw_up_new hL hqb9
          have k1_s : W1 b9 = some ((2, nC, 0), fw_obj 1 [.int (nI 0), .int (nI 0), .int (nI 0)]) := by rw [hFW1]; exact fw_up_self
          refine lv_dup hx hb dX8_addCutter_63 rfl ?_
          refine lv_iload_n hx hb dX8_addCutter_64 rfl (lv_at hl 1 rfl) ?_
          refine lv_iload_n hx hb dX8_addCutter_65 rfl (lv_at hl 2 rfl) ?_
          refine lv_iload_n hx hb dX8_addCutter_66 rfl (lv_at hl 3 rfl) ?_
          refine fw_callv (fw_runI (As := [.int mo, .int le, .int mx]) (rest := [.ref b9, .ref lc]) C hz hw (c_X0_init l G _ _ b9 (2, nC, 0) mo le mx k1_s) (fw_cwI hT wd_300 yIX0_init rfl rfl ⟨Nat.le_of_ble_eq_true rfl, Nat.le_of_ble_eq_true rfl⟩) rfl hl.1 rfl (Nat.le_of_ble_eq_true rfl) dX8_addCutter_67 ⟨Nat.le_of_ble_eq_true rfl, Nat.le_of_ble_eq_true rfl⟩) hw (fun F1 H locs hw hp => ?_)
          refine W.widen (k := 1) (n := 3) (Nat.le_of_ble_eq_true rfl) (Nat.le_of_ble_eq_true rfl) ?_
          rw [hp] at hw
          obtain ⟨W2, hFW2⟩ : ∃ z, z = va_up W1 b9 (some ((2, nC, 0), fw_obj 1 [.int mo, .int le, .int mx])) := ⟨_, rfl⟩
          rw [← hFW2] at hw
          have k2_0 : W2 x = some ((50, 0, 0), fw_obj 9 [.ref lc, .ref lt, .ref lo, .ref lm, .ref lw, .ref dr, .int tm]) := by rw [hFW2]; exact fw_up_tag k1_0 k1_s (by intro z; cases z)
          have k2_1 : W2 lc = some ((1, 0, 0), fw_ls arr nC ca) := by rw [hFW2]; exact fw_up_tag k1_1 k1_s (by intro z; cases z)
          have k2_s : W2 b9 = some ((2, nC, 0), fw_obj 1 [.int mo, .int le, .int mx]) := by rw [hFW2]; exact fw_up_self
          refine fw_calli (fw_runV (As := [.ref b9]) (rest := []) C hz hw (c_Jx4a65c_add_9ea2d l G _ _ lc arr nC (1, 0, 0) ca b9 1 (2, nC, 0) _ (by decide) k2_1 (by omega) k2_s) (fw_cwV hT wd_115 yVJx4a65c_add_9ea2d rfl rfl ⟨Nat.le_of_ble_eq_true rfl, Nat.le_of_ble_eq_true rfl⟩) (fw_recL hz hw k2_1) rfl hl.1 rfl (Nat.le_of_ble_eq_true rfl) dX8_addCutter_70 ⟨Nat.le_of_ble_eq_true rfl, Nat.le_of_ble_eq_true rfl⟩) hw (fun r F1 H locs hw hp => ?_)
          refine W.widen (k := 2) (n := 243) (Nat.le_of_ble_eq_true rfl) (Nat.le_of_ble_eq_true rfl) ?_
          obtain ⟨rfl, q, hp⟩ := hp
          rw [hp] at hw
          obtain ⟨W3, hFW3⟩ : ∃ z, z = va_up W2 lc (some ((1, 0, 0), fw_ls q (nC + 1) (va_up ca nC b9))) := ⟨_, rfl⟩
          rw [← hFW3] at hw
          have k3_0 : W3 x = some ((50, 0, 0), fw_obj 9 [.ref lc, .ref lt, .ref lo, .ref lm, .ref lw, .ref dr, .int tm]) := by rw [hFW3]; exact fw_up_tag k2_0 k2_1 (by intro z; cases z)
          have k3_1 : W3 b9 = some ((2, nC, 0), fw_obj 1 [.int mo, .int le, .int mx]) := by rw [hFW3]; exact fw_up_tag k2_s k2_1 (by intro z; cases z)
          have k3_s : W3 lc = some ((1, 0, 0), fw_ls q (nC + 1) (va_up ca nC b9)) := by rw [hFW3]; exact fw_up_self
          refine lv_pop hx hb dX8_addCutter_73 rfl ?_
          refine lv_aload_n hx hb dX8_addCutter_74 rfl (lv_at hl 0 rfl) ?_
          refine fw_get (v := .ref lc) hx hb hT fi_RX8 hown hz hw k3_0 rfl 0 (by decide) (hT _ wd_175) (fun _ h9 => h9) rfl dX8_addCutter_75 ?_
          refine fw_calli (fw_runV (As := []) (rest := []) C hz hw (c_Jx4a65c_size_8abf5 l G _ _ lc q (nC + 1) (1, 0, 0) _ k3_s) (fw_cwV hT wd_278 yVJx4a65c_size_8abf5 rfl rfl ⟨Nat.le_of_ble_eq_true rfl, Nat.le_of_ble_eq_true rfl⟩) (fw_recL hz hw k3_s) rfl hl.1 rfl (Nat.le_of_ble_eq_true rfl) dX8_addCutter_78 ⟨Nat.le_of_ble_eq_true rfl, Nat.le_of_ble_eq_true rfl⟩) hw (fun r F1 H locs hw hp => ?_)
          obtain ⟨hp0, hp⟩ := hp
          rw [hp0] at hw
          refine W.widen (k := 2) (n := 243) (Nat.le_of_ble_eq_true rfl) (Nat.le_of_ble_eq_true rfl) ?_
          subst hp
          refine lv_iconst (v := (nI 1)) hx hb dX8_addCutter_81 (by decide) ?_
          refine lv_isub hx hb dX8_addCutter_82 ?_
          refine fw_top (pk_sub (by omega)) ?_
          refine fw_top (x' := (nI nC)) (by rw [Nat.add_sub_cancel]) ?_
          refine vx_ret ?_
          exact fw_iret hx hb hr hlk (Nat.le_of_ble_eq_true rfl) (Nat.le_of_ble_eq_true rfl) hw dX8_addCutter_83 (⟨hok, d4, rfl, b9, q, hqb9, by rw [hFW3, hFW2, hFW1, bx_uu]⟩)
        · have d4 : ¬ nC < 10 := fun h9 => d4 ((nI_ltI (a := nC) (b := 10) (by omega) (by omega)).mpr h9)
          exact fw_throw (ik := 68) (is := 70) (ic := 72) hx hb hl9 hown (by decide +kernel) wd_282 wd_16 hT (fw_atS hT hcx) fw_otS hz hw (List.mem_of_getElem? (i := 1) rfl) (hl.1.trans hml.symm) dX8_addCutter_46 dX8_addCutter_49 dX8_addCutter_50 dX8_addCutter_52 dX8_addCutter_55 hno ⟨Nat.le_of_ble_eq_true rfl, Nat.le_of_ble_eq_true rfl, Nat.le_of_ble_eq_true rfl, Nat.le_of_ble_eq_true rfl⟩ hlk (Or.inr ⟨rfl, hok, by omega⟩) (Nat.le_of_ble_eq_true rfl) (Nat.le_of_ble_eq_true rfl)
      · have d3 := fw_b1 d3
        have d3 : rf_in mx le (nI 60) = false := by simpa using d3
        exact fw_throw (ik := 57) (is := 59) (ic := 61) hx hb hl9 hown (by decide +kernel) wd_210 wd_15 hT (fw_atA hT hcx) fw_otA hz hw (List.mem_of_getElem? (i := 0) rfl) (hl.1.trans hml.symm) dX8_addCutter_24 dX8_addCutter_27 dX8_addCutter_28 dX8_addCutter_30 dX8_addCutter_33 hno ⟨Nat.le_of_ble_eq_true rfl, Nat.le_of_ble_eq_true rfl, Nat.le_of_ble_eq_true rfl, Nat.le_of_ble_eq_true rfl⟩ hlk (Or.inl ⟨rfl, by rw [rf_okC, d, d2, d3]; rfl⟩) (Nat.le_of_ble_eq_true rfl) (Nat.le_of_ble_eq_true rfl)
set_option maxHeartbeats 4000000 in
set_option maxRecDepth 100000 in
theorem c_X8_wear (l : Launch) (G : fw_G) (F : fw_F) (sz : Nat) (x lc lt lo lm lw dr : Nat) (tm : Int32) (oa tr ml : Nat → Nat) (f : mm_A) (nJ nO : Nat) (ms sa : Nat → Nat → Nat) (o q : Int32) (hl9 : l.stackTraces = false) (hX : cr_X F x lc lt lo lm lw dr tm) (hO1 : cr_o F lo oa nO) (hO : cr_O F oa tr ml f nJ nO) (hZ : cr_Z F ml ms sa f nO) (hsm : ∀ j, j < nO → rf_sm f (rf_ot f j) ≤ 4) : vx_Met l yX8_wear (fw_ws yX8_wear cX8_wear 4 (some (.int))) { frames := 8, cells := 2, slots := 12, locals := 141 } (va_Pc [.ref x, .int o, .int q] (fw_PreX G F sz)) (va_Qi (fun r F1 => F1 = F ∧ (fun r => ∃ j k, j < nO ∧ o = nI j ∧ k < rf_sm f (rf_ot f j) ∧ q = nI k ∧ r = f 15 (4 * j + k)) r) (fw_B G (fw_W G F sz)) (fw_W G F sz)) (fw_xc G (fw_W G F sz) F (fun E => E = "java/lang/IndexOutOfBoundsException" ∧ (rf_ix o nO = false ∨ ∃ j, j < nO ∧ o = nI j ∧ rf_ix q (rf_sm f (rf_ot f j)) = false))) 2 12 (fw_W G F sz) := by
  refine fw_metX (lv := [(0, .ref x), (1, .int o), (2, .int q)]) (by decide +kernel) (Nat.le_of_ble_eq_true rfl) rfl ?_
  intro A hA p e s m below meth c ls hx hb hml hown hT hr hlk hno hcx hz hsz hw hAn hl
  rw [← hA]
  have hown : s.vm.findClass RX8 = some m.cls := hown
  have C : CallFix p m c cX8_wear 4 s _ fw_tb RX8 := ⟨hx, hb, hml, hown, hT⟩
  obtain ⟨hno9, arr, hLo⟩ := hO1
  refine lv_aload_n hx hb dX8_wear_0 rfl (lv_at hl 0 rfl) ?_
  refine lv_iload_n hx hb dX8_wear_1 rfl (lv_at hl 1 rfl) ?_
  refine fw_xcallo (fw_xrunV (As := [.int o]) (rest := []) C hz hcx hw (c_X8_orderAt l G _ _ x lc lt lo lm lw dr tm arr nO oa o hl9 hX hLo hno9 (fun i hi => ⟨_, _, hO i hi⟩)) (fw_cwV hT wd_564 yVX8_orderAt rfl rfl ⟨Nat.le_of_ble_eq_true rfl, Nat.le_of_ble_eq_true rfl⟩) (fw_rec hz hw hX (q := vwCl[9]) rfl) rfl hl.1 rfl (Nat.le_of_ble_eq_true rfl) dX8_wear_2 ⟨Nat.le_of_ble_eq_true rfl, Nat.le_of_ble_eq_true rfl⟩) hw hno hlk (fun E h => ⟨h.1, Or.inl h.2⟩) (Nat.le_of_ble_eq_true rfl) (Nat.le_of_ble_eq_true rfl) (fun r F1 H locs hw hp => ?_)
  obtain ⟨hp0, hp⟩ := hp
  rw [hp0] at hw
  refine W.widen (k := 1) (n := 6) (Nat.le_of_ble_eq_true rfl) (Nat.le_of_ble_eq_true rfl) ?_
  obtain ⟨j, hj, rfl, rfl⟩ := hp
  have hs9 := hO j hj
  obtain ⟨⟨arz, hz1⟩, hz2⟩ := hZ j hj
  have hs4 := hsm j hj
  refine fw_get (v := .ref (ml j)) hx hb hT fi_RX5 hown hz hw hs9 rfl 1 (by decide) (hT _ wd_464) (fun _ h9 => h9) rfl dX8_wear_5 ?_
  refine lv_astore_n (lv' := [(3, .ref (ml j)), (0, .ref x), (1, .int (nI j)), (2, .int q)]) hx hb dX8_wear_8 rfl hl (by decide) rfl (fun ls hl => ?_)
  refine lv_iload_n hx hb dX8_wear_9 rfl (lv_at hl 3 rfl) ?_
  refine lv_if_lt (tgt := 21) hx hb dX8_wear_10 (by decide) (fun d => ?_) (fun d => ?_)
  · exact fw_throw (ik := 220) (is := 222) (ic := 224) hx hb hl9 hown (by decide +kernel) wd_416 wd_21 hT (fw_atB hT hcx) fw_otB hz hw (List.mem_of_getElem? (i := 17) rfl) (hl.1.trans hml.symm) dX8_wear_21 dX8_wear_24 dX8_wear_25 dX8_wear_27 dX8_wear_30 hno ⟨Nat.le_of_ble_eq_true rfl, Nat.le_of_ble_eq_true rfl, Nat.le_of_ble_eq_true rfl, Nat.le_of_ble_eq_true rfl⟩ hlk (⟨rfl, Or.inr ⟨j, hj, rfl, rf_in_f1 (by exact d)⟩⟩) (Nat.le_of_ble_eq_true rfl) (Nat.le_of_ble_eq_true rfl)
  · refine lv_iload_n hx hb dX8_wear_13 rfl (lv_at hl 3 rfl) ?_
    refine lv_aload_n hx hb dX8_wear_14 rfl (lv_at hl 0 rfl) ?_
    refine fw_calli (fw_runV (As := []) (rest := [.int q]) C hz hw (c_Jx4a65c_size_8abf5 l G _ _ (ml j) arz (rf_sm f (rf_ot f j)) (6, j, 0) (ms j) hz1) (fw_cwV hT wd_278 yVJx4a65c_size_8abf5 rfl rfl ⟨Nat.le_of_ble_eq_true rfl, Nat.le_of_ble_eq_true rfl⟩) (fw_recL hz hw hz1) rfl hl.1 rfl (Nat.le_of_ble_eq_true rfl) dX8_wear_15 ⟨Nat.le_of_ble_eq_true rfl, Nat.le_of_ble_eq_true rfl⟩) hw (fun r F1 H locs hw hp => ?_)
    obtain ⟨hp0, hp⟩ := hp
    rw [hp0] at hw
    refine W.widen (k := 1) (n := 6) (Nat.le_of_ble_eq_true rfl) (Nat.le_of_ble_eq_true rfl) ?_
    subst hp
    refine lv_icmp_lt (tgt := 31) hx hb dX8_wear_18 (by decide) (fun d2 => ?_) (fun d2 => ?_)
    · obtain ⟨k, hk, rfl⟩ := nI_of (x := q) d
      rw [nI_ltI (by omega) (by omega)] at d2
      refine lv_aload_n hx hb dX8_wear_31 rfl (lv_at hl 0 rfl) ?_
      refine lv_iload_n hx hb dX8_wear_32 rfl (lv_at hl 3 rfl) ?_
      refine fw_callo (fw_runV (As := [.int (nI k)]) (rest := []) C hz hw (c_Jx4a65c_get_915e3 l G _ _ (ml j) arz (rf_sm f (rf_ot f j)) (6, j, 0) (ms j) k hz1 d2 (by omega)) (fw_cwV hT wd_323 yVJx4a65c_get_915e3 rfl rfl ⟨Nat.le_of_ble_eq_true rfl, Nat.le_of_ble_eq_true rfl⟩) (fw_recL hz hw hz1) rfl hl.1 rfl (Nat.le_of_ble_eq_true rfl) dX8_wear_33 ⟨Nat.le_of_ble_eq_true rfl, Nat.le_of_ble_eq_true rfl⟩) hw (fun r F1 H locs hw hp => ?_)
      obtain ⟨hp0, hp⟩ := hp
      rw [hp0] at hw
      refine W.widen (k := 1) (n := 6) (Nat.le_of_ble_eq_true rfl) (Nat.le_of_ble_eq_true rfl) ?_
      subst hp
      have hs8 := hz2 k d2
      refine fw_cast hx hb hown hz hw hs8 (q := vwCl[5]) rfl (hT _ wd_593) dX8_wear_36 ?_
      refine fw_get (v := .int (f 15 (4 * j + k))) hx hb hT fi_RX4 hown hz hw hs8 rfl 1 (by decide) (hT _ wd_454) (fun _ h9 => h9) rfl dX8_wear_39 ?_
      refine vx_ret ?_
      exact fw_iret hx hb hr hlk (Nat.le_of_ble_eq_true rfl) (Nat.le_of_ble_eq_true rfl) hw dX8_wear_42 (⟨rfl, ⟨j, k, hj, rfl, d2, rfl, rfl⟩⟩)
    · exact fw_throw (ik := 220) (is := 222) (ic := 224) hx hb hl9 hown (by decide +kernel) wd_416 wd_21 hT (fw_atB hT hcx) fw_otB hz hw (List.mem_of_getElem? (i := 17) rfl) (hl.1.trans hml.symm) dX8_wear_21 dX8_wear_24 dX8_wear_25 dX8_wear_27 dX8_wear_30 hno ⟨Nat.le_of_ble_eq_true rfl, Nat.le_of_ble_eq_true rfl, Nat.le_of_ble_eq_true rfl, Nat.le_of_ble_eq_true rfl⟩ hlk (⟨rfl, Or.inr ⟨j, hj, rfl, rf_ixF (by omega) d2⟩⟩) (Nat.le_of_ble_eq_true rfl) (Nat.le_of_ble_eq_true rfl)
