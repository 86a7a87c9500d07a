/-! The class: an order. -/
theorem cr_C.kp {F F1 : fw_F} {P : fw_T → Prop} {lc : Nat} {ca : Nat → Nat} {f : mm_A} {nC : Nat} (h : cr_C F lc ca f nC) (hk : fw_kp F F1 P) (hP : ∀ t : fw_T, t = (1, 0, 0) ∨ t.1 = 2 → ¬ P t) : cr_C F1 lc ca f nC := by
  obtain ⟨h1, ⟨arr, h2⟩, h3⟩ := h
  exact ⟨h1, ⟨arr, hk _ _ _ h2 (hP _ (by simp))⟩, fun i hi => hk _ _ _ (h3 i hi) (hP _ (by simp))⟩
theorem cl_PO {nO : Nat} (t : fw_T) (h : t = (1, 0, 0) ∨ t.1 = 2) : ¬ ((t.2.1 = nO ∧ (t.1 = 5 ∨ t.1 = 6 ∨ t.1 = 7)) ∨ t = (1, 2, 0) ∨ t = (1, 4, 0)) := by
  obtain ⟨a, b, c⟩ := t
  simp only [Prod.mk.injEq] at h ⊢
  omega
theorem fw_kp.tr1 {F F1 F2 : fw_F} {P : fw_T → Prop} (h : fw_kp F F1 P) (h2 : fw_kp F1 F2 P) : fw_kp F F2 P := (h.tr h2).wk (fun _ z => z.elim id id)
set_option maxHeartbeats 4000000 in
set_option maxRecDepth 100000 in
theorem c_X8_order_1 (l : Launch) (G : fw_G) (F : fw_F) (sz : Nat) (x lc lt lo lm lw dr : Nat) (tm : Int32) (ta sl fr : Nat → Nat) (sa : Nat → Nat → Nat) (f : mm_A) (nT : Nat) (ca : Nat → Nat) (nC al0 aw0 nO nW nJ : Nat) (oa wf : Nat → Nat) (t : Int32) (hl9 : l.stackTraces = false) (hX : cr_X F x lc lt lo lm lw dr tm) (hT1 : cr_t F lt ta nT) (hTr : cr_T F ta sl fr sa f nT) (hC : cr_C F lc ca f nC) (hLo : F lo = some ((1, 2, 0), fw_ls al0 nO oa)) (hnO : nO ≤ 12) (hLw : F lw = some ((1, 4, 0), fw_ls aw0 nW wf)) (hnW : nW ≤ 8 * nO) (htok : ∀ j, j < nT → rf_tok f j) (hct : ∀ j, j < nT → t = nI j → rf_sm f j = 1) : vx_Met l yX8_order (fw_ws yX8_order cX8_order 6 (some (.int))) { frames := 8, cells := 28, slots := 3166, locals := 194 } (va_Pc [.ref x, .int t] (fw_PreX G F sz)) (va_Qi (fun r F1 => ∃ j p q arr ms al aw wf1, j < nT ∧ t = nI j ∧ nO < 12 ∧ r = nI nO ∧ F1 p = some ((5, nO, 0), fw_obj 6 [.ref (ta j), .ref q, .int (nI (2 * rf_sm f j)), .int (-1), .int (nI 0)]) ∧ F1 q = some ((6, nO, 0), fw_ls arr (rf_sm f j) ms) ∧ (∀ k, k < rf_sm f j → F1 (ms k) = some ((7, nO, k), fw_obj 5 [.ref (sa j k), .int (nI 0)])) ∧ F1 lo = some ((1, 2, 0), fw_ls al (nO + 1) (va_up oa nO p)) ∧ F1 lw = some ((1, 4, 0), fw_ls aw (nW + 2 * rf_sm f j) wf1) ∧ (∀ k, k < nW → wf1 k = wf k) ∧ (∀ k, k < rf_sm f j → F1 (wf1 (nW + 2 * k)) = some ((8, nJ + 2 * k, 0), fw_obj 3 [.ref p, .int (f 9 (12 * j + 3 * k + 1)), .int (rf_cut f nC (f 9 (12 * j + 3 * k)) (f 9 (12 * j + 3 * k + 1)))]) ∧ F1 (wf1 (nW + 2 * k + 1)) = some ((8, nJ + 2 * k + 1, 0), fw_obj 3 [.ref p, .int (f 9 (12 * j + 3 * k + 2)), .int (rf_cut f nC (f 9 (12 * j + 3 * k)) (f 9 (12 * j + 3 * k + 2)))])) ∧ fw_kp F F1 (fun w => (w.2.1 = nO ∧ (w.1 = 5 ∨ w.1 = 6 ∨ w.1 = 7)) ∨ w = (1, 2, 0) ∨ w = (1, 4, 0))) (fw_B G (fw_W G F sz)) (fw_W G F sz)) (fw_xc G (fw_W G F sz) F (fun E => (E = "java/lang/IndexOutOfBoundsException" ∧ rf_ix t nT = false) ∨ (E = "java/lang/IllegalStateException" ∧ rf_ix t nT = true ∧ nO = 12))) 28 3166 (fw_W G F sz) := by
  refine fw_metX (lv := [(0, .ref x), (1, .int t)]) (by decide +kernel) (Nat.le_of_ble_eq_true rfl) rfl ?_
  intro A hA p e s m below meth c ls hx hb hml hown hT hr hlk hno hcx hz hsz hw hAn hl
  rw [← hA]
  have hown : s.vm.findClass RX8 = some m.cls := hown
  have C : CallFix p m c cX8_order 6 s _ fw_tb RX8 := ⟨hx, hb, hml, hown, hT⟩
  obtain ⟨hnt9, arr, hLt⟩ := hT1
  refine lv_aload_n hx hb dX8_order_0 rfl (lv_at hl 0 rfl) ?_
  refine lv_iload_n hx hb dX8_order_1 rfl (lv_at hl 1 rfl) ?_
  refine fw_xcallo (fw_xrunV (As := [.int t]) (rest := []) C hz hcx hw (c_X8_trainAt l G _ _ x lc lt lo lm lw dr tm arr nT ta t hl9 hX hLt hnt9 (fun i hi => ⟨_, _, (hTr i hi).1⟩)) (fw_cwV hT wd_412 yVX8_trainAt rfl rfl ⟨Nat.le_of_ble_eq_true rfl, Nat.le_of_ble_eq_true rfl⟩) (fw_rec hz hw hX (q := vwCl[9]) rfl) rfl hl.1 rfl (Nat.le_of_ble_eq_true rfl) dX8_order_2 ⟨Nat.le_of_ble_eq_true rfl, Nat.le_of_ble_eq_true rfl⟩) hw hno hlk (fun E h => Or.inl h) (Nat.le_of_ble_eq_true rfl) (Nat.le_of_ble_eq_true rfl) (fun r F1 H locs hw hp => ?_)
  obtain ⟨hp0, hp⟩ := hp
  rw [hp0] at hw
  refine W.widen (k := 1) (n := 6) (Nat.le_of_ble_eq_true rfl) (Nat.le_of_ble_eq_true rfl) ?_
  obtain ⟨j, hj, rfl, rfl⟩ := hp
  obtain ⟨hs1, ⟨ars, hs2⟩, hs3, hs4⟩ := hTr j hj
  have hct := hct j hj rfl
  refine lv_astore_n (lv' := [(2, .ref (ta j)), (0, .ref x), (1, .int (nI j))]) hx hb dX8_order_5 rfl hl (by decide) rfl (fun ls hl => ?_)
  refine lv_aload_n hx hb dX8_order_6 rfl (lv_at hl 1 rfl) ?_
  refine fw_get (v := .ref lo) hx hb hT fi_RX8 hown hz hw hX rfl 2 (by decide) (hT _ wd_177) (fun _ h9 => h9) rfl dX8_order_7 ?_
  refine fw_calli (fw_runV (As := []) (rest := []) C hz hw (c_Jx4a65c_size_8abf5 l G _ _ lo al0 nO (1, 2, 0) oa hLo) (fw_cwV hT wd_278 yVJx4a65c_size_8abf5 rfl rfl ⟨Nat.le_of_ble_eq_true rfl, Nat.le_of_ble_eq_true rfl⟩) (fw_recL hz hw hLo) rfl hl.1 rfl (Nat.le_of_ble_eq_true rfl) dX8_order_10 ⟨Nat.le_of_ble_eq_true rfl, Nat.le_of_ble_eq_true rfl⟩) hw (fun r F1 H locs hw hp => ?_)
  obtain ⟨hp0, hp⟩ := hp
  rw [hp0] at hw
  refine W.widen (k := 1) (n := 6) (Nat.le_of_ble_eq_true rfl) (Nat.le_of_ble_eq_true rfl) ?_
  subst hp
  refine lv_bipush (v := (nI 12)) hx hb dX8_order_13 (by decide) ?_
  refine lv_icmp_lt (tgt := 28) hx hb dX8_order_15 (by decide) (fun d4 => ?_) (fun d4 => ?_)
  · have d4 := (nI_ltI (a := nO) (b := 12) (by omega) (by omega)).mp d4
    rw [hct] at hs2 hs4
    refine fw_new (5, nO, 0) (ci := 6) (fs := [.null, .null, .int (nI 0), .int (nI 0), .int (nI 0)]) hx hb hT fi_RX5 tyX5 tyX5_ok hown (hT _ wd_433) (hT _ wd_434) (hT _ wd_22) hz hw hAn rfl (by intro j hj; rcases (show j = 0 ∨ j = 1 ∨ j = 2 ∨ j = 3 ∨ j = 4 by omega) with rfl | rfl | rfl | rfl | rfl <;> rfl) (Nat.le_of_ble_eq_true rfl) (Nat.le_of_ble_eq_true rfl) dX8_order_28 (fun p9 H hqp9 hw => ?_)
    refine W.widen (k := 2) (n := 11) (Nat.le_of_ble_eq_true rfl) (Nat.le_of_ble_eq_true rfl) ?_
    obtain ⟨W1, hFW1⟩ : ∃ z, z = va_up F p9 (some ((5, nO, 0), fw_obj 6 [.null, .null, .int (nI 0), .int (nI 0), .int (nI 0)])) := ⟨_, rfl⟩
    rw [← hFW1] at hw
    have k1_0 : W1 x = some ((50, 0, 0), fw_obj 9 [.ref lc, .ref lt, .ref lo, .ref lm, .ref lw, .ref dr, .int tm]) := by rw [hFW1]; exact fw_up_new hX hqp9
    have k1_1 : W1 (ta j) = some ((3, j, 0), fw_obj 8 [.ref (sl j), .ref (fr j), .int (f 10 j)]) := by rw [hFW1]; exact fw_up_new hs1 hqp9
    have k1_2 : W1 (sl j) = some ((13, j, 0), fw_ls ars 1 (sa j)) := by rw [hFW1]; exact fw_up_new hs2 hqp9
    have k1_3 : W1 (fr j) = some ((33, j, 0), fw_obj 2 [.long (lN (rf_P f j 2 / cr_g f j)), .long (lN (rf_P f j 1 / cr_g f j))]) := by rw [hFW1]; exact fw_up_new hs3 hqp9
    have k1_4 : W1 lo = some ((1, 2, 0), fw_ls al0 nO oa) := by rw [hFW1]; exact fw_up_new hLo hqp9
    have k1_s : W1 p9 = some ((5, nO, 0), fw_obj 6 [.null, .null, .int (nI 0), .int (nI 0), .int (nI 0)]) := by rw [hFW1]; exact fw_up_self
    have hkp1 : fw_kp F W1 (fun w => (w.2.1 = nO ∧ (w.1 = 5 ∨ w.1 = 6 ∨ w.1 = 7)) ∨ w = (1, 2, 0) ∨ w = (1, 4, 0)) := by rw [hFW1]; exact fw_kp.rf.new hqp9
    refine lv_dup hx hb dX8_order_31 rfl ?_
    refine lv_aload_n hx hb dX8_order_32 rfl (lv_at hl 0 rfl) ?_
    refine fw_callv (fw_runI (As := [.ref (ta j)]) (rest := [.ref p9]) C hz hw (c_X5_init_1 l G _ _ p9 (ta j) (sl j) (fr j) ars j nO (f 10 j) (sa j) (fun k => f 9 (12 * j + 3 * k)) (fun k => f 9 (12 * j + 3 * k + 1)) (fun k => f 9 (12 * j + 3 * k + 2)) k1_s (hkp1 _ _ _ hs1 (by simp)) (hkp1 _ _ _ hs2 (by simp)) (fun k hk => (hkp1 _ _ _ (hs4 k hk) (by simp)))) (fw_cwI hT wd_435 yIX5_init rfl rfl ⟨Nat.le_of_ble_eq_true rfl, Nat.le_of_ble_eq_true rfl⟩) rfl hl.1 rfl (Nat.le_of_ble_eq_true rfl) dX8_order_33 ⟨Nat.le_of_ble_eq_true rfl, Nat.le_of_ble_eq_true rfl⟩) hw (fun F2 H locs hw hp => ?_)
    refine W.widen (k := 5) (n := 256) (Nat.le_of_ble_eq_true rfl) (Nat.le_of_ble_eq_true rfl) ?_
    obtain ⟨qm, am, ms, hp5, hp6, hp7, hpk⟩ := hp
    have hkp2 : fw_kp F F2 (fun w => (w.2.1 = nO ∧ (w.1 = 5 ∨ w.1 = 6 ∨ w.1 = 7)) ∨ w = (1, 2, 0) ∨ w = (1, 4, 0)) := (hkp1.tr hpk).wk (fun t z => z.elim id Or.inl)
    have hX2 := hkp2 _ _ _ hX (by simp)
    have hLo2 := hpk _ _ _ (show W1 lo = some ((1, 2, 0), fw_ls al0 nO oa) from by rw [hFW1]; exact fw_up_new hLo hqp9) (by simp)
    have hLw2 := hpk _ _ _ (show W1 lw = some ((1, 4, 0), fw_ls aw0 nW wf) from by rw [hFW1]; exact fw_up_new hLw hqp9) (by simp)
    refine lv_astore_n (lv' := [(3, .ref p9), (2, .ref (ta j)), (0, .ref x), (1, .int (nI j))]) hx hb dX8_order_36 rfl hl (by decide) rfl (fun ls hl => ?_)
    refine lv_aload_n hx hb dX8_order_37 rfl (lv_at hl 2 rfl) ?_
    refine fw_get (v := .ref lo) hx hb hT fi_RX8 hown hz hw hX2 rfl 2 (by decide) (hT _ wd_177) (fun _ h9 => h9) rfl dX8_order_38 ?_
    refine lv_aload_n hx hb dX8_order_41 rfl (lv_at hl 0 rfl) ?_
    refine fw_calli (fw_runV (As := [.ref p9]) (rest := []) C hz hw (c_Jx4a65c_add_9ea2d l G _ _ lo al0 nO (1, 2, 0) oa p9 6 (5, nO, 0) _ (by decide) hLo2 (by omega) hp5) (fw_cwV hT wd_115 yVJx4a65c_add_9ea2d rfl rfl ⟨Nat.le_of_ble_eq_true rfl, Nat.le_of_ble_eq_true rfl⟩) (fw_recL hz hw hLo2) rfl hl.1 rfl (Nat.le_of_ble_eq_true rfl) dX8_order_42 ⟨Nat.le_of_ble_eq_true rfl, Nat.le_of_ble_eq_true rfl⟩) hw (fun r F3 H locs hw hp => ?_)
    refine W.widen (k := 6) (n := 496) (Nat.le_of_ble_eq_true rfl) (Nat.le_of_ble_eq_true rfl) ?_
    obtain ⟨rfl, al, hp⟩ := hp
    have hkq3 : fw_kp F2 F3 (fun w => w = (1, 2, 0)) := by rw [hp]; exact fw_kp.rf.up hLo2 rfl
    have hkp3 : fw_kp F F3 (fun w => (w.2.1 = nO ∧ (w.1 = 5 ∨ w.1 = 6 ∨ w.1 = 7)) ∨ w = (1, 2, 0) ∨ w = (1, 4, 0)) := (hkp2.tr hkq3).wk (fun t z => z.elim id (fun z => Or.inr (Or.inl z)))
    have hLo3 : F3 lo = some ((1, 2, 0), fw_ls al (nO + 1) (va_up oa nO p9)) := by rw [hp]; exact fw_up_self
    have hLw3 := hkq3 _ _ _ hLw2 (by simp)
    have hp5 := hkq3 _ _ _ hp5 (by simp)
    have hp6 := hkq3 _ _ _ hp6 (by simp)
    have hp7 := fun k hk => hkq3 _ _ _ (hp7 k hk) (by simp)
    have hkr3 : fw_kp F3 F3 (fun w => w = (1, 4, 0)) := fw_kp.rf
    have hX3 := hkp3 _ _ _ hX (by simp)
    have hs1_3 := hkp3 _ _ _ hs1 (by simp)
    have hs2_3 := hkp3 _ _ _ hs2 (by simp)
    have hs4_3 := hkp3 _ _ _ (hs4 0 (by decide)) (by simp)
    refine lv_pop hx hb dX8_order_45 rfl ?_
    refine lv_iconst (v := (nI 0)) hx hb dX8_order_46 (by decide) ?_
    refine lv_istore (lv' := [(4, .int (nI 0)), (3, .ref p9), (2, .ref (ta j)), (0, .ref x), (1, .int (nI j))]) hx hb dX8_order_47 hl (by decide) rfl (fun ls hl => ?_)
    refine lv_iload hx hb dX8_order_49 (lv_at hl 0 rfl) ?_
    refine lv_aload_n hx hb dX8_order_51 rfl (lv_at hl 2 rfl) ?_
    refine fw_get (v := .ref (sl j)) hx hb hT fi_RX7 hown hz hw hs1_3 rfl 0 (by decide) (hT _ wd_84) (fun _ h9 => h9) rfl dX8_order_52 ?_
    refine fw_calli (fw_runV (As := []) (rest := [.int (nI 0)]) C hz hw (c_Jx4a65c_size_8abf5 l G _ _ (sl j) ars 1 (13, j, 0) (sa j) hs2_3) (fw_cwV hT wd_278 yVJx4a65c_size_8abf5 rfl rfl ⟨Nat.le_of_ble_eq_true rfl, Nat.le_of_ble_eq_true rfl⟩) (fw_recL hz hw hs2_3) rfl hl.1 rfl (Nat.le_of_ble_eq_true rfl) dX8_order_55 ⟨Nat.le_of_ble_eq_true rfl, Nat.le_of_ble_eq_true rfl⟩) hw (fun r F1 H locs hw hp => ?_)
    obtain ⟨hp0, hp⟩ := hp
    rw [hp0] at hw
    refine W.widen (k := 6) (n := 496) (Nat.le_of_ble_eq_true rfl) (Nat.le_of_ble_eq_true rfl) ?_
    subst hp
    refine lv_icmp_ge (tgt := 111) hx hb dX8_order_58 (by decide) (fun cx => absurd cx (by decide)) (fun cx => ?_)
    refine lv_aload_n hx hb dX8_order_61 rfl (lv_at hl 2 rfl) ?_
    refine fw_get (v := .ref (sl j)) hx hb hT fi_RX7 hown hz hw hs1_3 rfl 0 (by decide) (hT _ wd_84) (fun _ h9 => h9) rfl dX8_order_62 ?_
    refine lv_iload hx hb dX8_order_65 (lv_at hl 0 rfl) ?_
    refine fw_callo (fw_runV (As := [.int (nI 0)]) (rest := []) C hz hw (c_Jx4a65c_get_915e3 l G _ _ (sl j) ars 1 (13, j, 0) (sa j) 0 hs2_3 (by decide) (by decide)) (fw_cwV hT wd_323 yVJx4a65c_get_915e3 rfl rfl ⟨Nat.le_of_ble_eq_true rfl, Nat.le_of_ble_eq_true rfl⟩) (fw_recL hz hw hs2_3) rfl hl.1 rfl (Nat.le_of_ble_eq_true rfl) dX8_order_67 ⟨Nat.le_of_ble_eq_true rfl, Nat.le_of_ble_eq_true rfl⟩) hw (fun r F1 H locs hw hp => ?_)
    obtain ⟨hp0, hp⟩ := hp
    rw [hp0] at hw
    refine W.widen (k := 6) (n := 496) (Nat.le_of_ble_eq_true rfl) (Nat.le_of_ble_eq_true rfl) ?_
    subst hp
    refine fw_cast hx hb hown hz hw hs4_3 (q := vwCl[7]) rfl (hT _ wd_347) dX8_order_70 ?_
    refine lv_astore (lv' := [(5, .ref (sa j 0)), (4, .int (nI 0)), (3, .ref p9), (2, .ref (ta j)), (0, .ref x), (1, .int (nI j))]) hx hb dX8_order_73 hl (by decide) rfl (fun ls hl => ?_)
    refine lv_aload_n hx hb dX8_order_75 rfl (lv_at hl 4 rfl) ?_
    refine lv_aload_n hx hb dX8_order_76 rfl (lv_at hl 2 rfl) ?_
    refine lv_aload hx hb dX8_order_77 (lv_at hl 0 rfl) ?_
    refine fw_get (v := .int (f 9 (12 * j + 3 * 0))) hx hb hT fi_RX6 hown hz hw hs4_3 rfl 0 (by decide) (hT _ wd_355) (fun _ h9 => h9) rfl dX8_order_79 ?_
    refine lv_aload hx hb dX8_order_82 (lv_at hl 0 rfl) ?_
    refine fw_get (v := .int (f 9 (12 * j + 3 * 0 + 1))) hx hb hT fi_RX6 hown hz hw hs4_3 rfl 1 (by decide) (hT _ wd_358) (fun _ h9 => h9) rfl dX8_order_84 ?_
    refine fw_callv (fw_runV (As := [.ref p9, .int (f 9 (12 * j + 3 * 0)), .int (f 9 (12 * j + 3 * 0 + 1))]) (rest := []) C hz hw (c_X8_queue l G _ _ x lc lt lo lm lw dr tm ca f nC p9 aw0 (nW + 0) (nJ + 0) wf (f 9 (12 * j + 3 * 0)) (f 9 (12 * j + 3 * 0 + 1)) hX3 (hC.kp hkp3 cl_PO) hLw3 (by omega)) (fw_cwV hT wd_482 yVX8_queue rfl rfl ⟨Nat.le_of_ble_eq_true rfl, Nat.le_of_ble_eq_true rfl⟩) (fw_rec hz hw hX3 (q := vwCl[9]) rfl) rfl hl.1 rfl (Nat.le_of_ble_eq_true rfl) dX8_order_87 ⟨Nat.le_of_ble_eq_true rfl, Nat.le_of_ble_eq_true rfl⟩) hw (fun F4 H locs hw hp => ?_)
    refine W.widen (k := 8) (n := 739) (Nat.le_of_ble_eq_true rfl) (Nat.le_of_ble_eq_true rfl) ?_
    obtain ⟨j0, aw0, hqj0, hp⟩ := hp
    have hkq4 : fw_kp F3 F4 (fun w => w = (1, 4, 0)) := by rw [hp]; exact (fw_kp.rf.new hqj0).up (fw_up_new hLw3 hqj0) rfl
    have hLw4 : F4 lw = some ((1, 4, 0), fw_ls aw0 (nW + 1) (va_up wf (nW + 0) j0)) := by rw [hp]; exact fw_up_self
    have hjb0 : F4 j0 = some ((8, nJ + 0, 0), fw_obj 3 [.ref p9, .int (f 9 (12 * j + 3 * 0 + 1)), .int (rf_cut f nC (f 9 (12 * j + 3 * 0)) (f 9 (12 * j + 3 * 0 + 1)))]) := by rw [hp]; exact fw_up_tag fw_up_self (fw_up_new hLw3 hqj0) (by intro z; cases z)
    have hkp4 : fw_kp F F4 (fun w => (w.2.1 = nO ∧ (w.1 = 5 ∨ w.1 = 6 ∨ w.1 = 7)) ∨ w = (1, 2, 0) ∨ w = (1, 4, 0)) := (hkp3.tr hkq4).wk (fun t z => z.elim id (fun z => Or.inr (Or.inr z)))
    have hkr4 := hkr3.tr1 hkq4
    have hX4 := hkp4 _ _ _ hX (by simp)
    have hs1_4 := hkp4 _ _ _ hs1 (by simp)
    have hs2_4 := hkp4 _ _ _ hs2 (by simp)
    have hs4_4 := hkp4 _ _ _ (hs4 0 (by decide)) (by simp)
    refine lv_aload_n hx hb dX8_order_90 rfl (lv_at hl 4 rfl) ?_
    refine lv_aload_n hx hb dX8_order_91 rfl (lv_at hl 2 rfl) ?_
    refine lv_aload hx hb dX8_order_92 (lv_at hl 0 rfl) ?_
    refine fw_get (v := .int (f 9 (12 * j + 3 * 0))) hx hb hT fi_RX6 hown hz hw hs4_4 rfl 0 (by decide) (hT _ wd_355) (fun _ h9 => h9) rfl dX8_order_94 ?_
    refine lv_aload hx hb dX8_order_97 (lv_at hl 0 rfl) ?_
    refine fw_get (v := .int (f 9 (12 * j + 3 * 0 + 2))) hx hb hT fi_RX6 hown hz hw hs4_4 rfl 2 (by decide) (hT _ wd_361) (fun _ h9 => h9) rfl dX8_order_99 ?_
    refine fw_callv (fw_runV (As := [.ref p9, .int (f 9 (12 * j + 3 * 0)), .int (f 9 (12 * j + 3 * 0 + 2))]) (rest := []) C hz hw (c_X8_queue l G _ _ x lc lt lo lm lw dr tm ca f nC p9 aw0 (nW + 1) (nJ + 1) (va_up wf (nW + 0) j0) (f 9 (12 * j + 3 * 0)) (f 9 (12 * j + 3 * 0 + 2)) hX4 (hC.kp hkp4 cl_PO) hLw4 (by omega)) (fw_cwV hT wd_482 yVX8_queue rfl rfl ⟨Nat.le_of_ble_eq_true rfl, Nat.le_of_ble_eq_true rfl⟩) (fw_rec hz hw hX4 (q := vwCl[9]) rfl) rfl hl.1 rfl (Nat.le_of_ble_eq_true rfl) dX8_order_102 ⟨Nat.le_of_ble_eq_true rfl, Nat.le_of_ble_eq_true rfl⟩) hw (fun F5 H locs hw hp => ?_)
    refine W.widen (k := 10) (n := 982) (Nat.le_of_ble_eq_true rfl) (Nat.le_of_ble_eq_true rfl) ?_
    obtain ⟨j1, aw1, hqj1, hp⟩ := hp
    have hkq5 : fw_kp F4 F5 (fun w => w = (1, 4, 0)) := by rw [hp]; exact (fw_kp.rf.new hqj1).up (fw_up_new hLw4 hqj1) rfl
    have hLw5 : F5 lw = some ((1, 4, 0), fw_ls aw1 (nW + 2) (va_up (va_up wf (nW + 0) j0) (nW + 1) j1)) := by rw [hp]; exact fw_up_self
    have hjb1 : F5 j1 = some ((8, nJ + 1, 0), fw_obj 3 [.ref p9, .int (f 9 (12 * j + 3 * 0 + 2)), .int (rf_cut f nC (f 9 (12 * j + 3 * 0)) (f 9 (12 * j + 3 * 0 + 2)))]) := by rw [hp]; exact fw_up_tag fw_up_self (fw_up_new hLw4 hqj1) (by intro z; cases z)
    have hjb0 := hkq5 _ _ _ hjb0 (by simp)
    have hkp5 : fw_kp F F5 (fun w => (w.2.1 = nO ∧ (w.1 = 5 ∨ w.1 = 6 ∨ w.1 = 7)) ∨ w = (1, 2, 0) ∨ w = (1, 4, 0)) := (hkp4.tr hkq5).wk (fun t z => z.elim id (fun z => Or.inr (Or.inr z)))
    have hkr5 := hkr4.tr1 hkq5
    have hX5 := hkp5 _ _ _ hX (by simp)
    have hs1_5 := hkp5 _ _ _ hs1 (by simp)
    have hs2_5 := hkp5 _ _ _ hs2 (by simp)
    refine lv_iinc (v := (nI (0 + 1))) (lv' := [(4, .int (nI (0 + 1))), (5, .ref (sa j 0)), (3, .ref p9), (2, .ref (ta j)), (0, .ref x), (1, .int (nI j))]) hx hb dX8_order_105 hl (k := 1) rfl (nI_1 _) (by decide) rfl (fun ls hl => ?_)
    refine lv_goto (tgt := 49) hx hb dX8_order_108 (by decide) ?_
    refine lv_iload hx hb dX8_order_49 (lv_at hl 0 rfl) ?_
    refine lv_aload_n hx hb dX8_order_51 rfl (lv_at hl 3 rfl) ?_
    refine fw_get (v := .ref (sl j)) hx hb hT fi_RX7 hown hz hw hs1_5 rfl 0 (by decide) (hT _ wd_84) (fun _ h9 => h9) rfl dX8_order_52 ?_
    refine fw_calli (fw_runV (As := []) (rest := [.int (nI (0 + 1))]) C hz hw (c_Jx4a65c_size_8abf5 l G _ _ (sl j) ars 1 (13, j, 0) (sa j) hs2_5) (fw_cwV hT wd_278 yVJx4a65c_size_8abf5 rfl rfl ⟨Nat.le_of_ble_eq_true rfl, Nat.le_of_ble_eq_true rfl⟩) (fw_recL hz hw hs2_5) rfl hl.1 rfl (Nat.le_of_ble_eq_true rfl) dX8_order_55 ⟨Nat.le_of_ble_eq_true rfl, Nat.le_of_ble_eq_true rfl⟩) hw (fun r F1 H locs hw hp => ?_)
    obtain ⟨hp0, hp⟩ := hp
    rw [hp0] at hw
    refine W.widen (k := 10) (n := 982) (Nat.le_of_ble_eq_true rfl) (Nat.le_of_ble_eq_true rfl) ?_
    subst hp
    refine lv_icmp_ge (tgt := 111) hx hb dX8_order_58 (by decide) (fun cx => ?_) (fun cx => absurd cx (by decide))
    refine lv_aload_n hx hb dX8_order_111 rfl (lv_at hl 4 rfl) ?_
    refine fw_get (v := .ref lo) hx hb hT fi_RX8 hown hz hw hX5 rfl 2 (by decide) (hT _ wd_177) (fun _ h9 => h9) rfl dX8_order_112 ?_
    have hLoE := hkr5 _ _ _ hLo3 (by simp)
    refine fw_calli (fw_runV (As := []) (rest := []) C hz hw (c_Jx4a65c_size_8abf5 l G _ _ lo al (nO + 1) (1, 2, 0) _ hLoE) (fw_cwV hT wd_278 yVJx4a65c_size_8abf5 rfl rfl ⟨Nat.le_of_ble_eq_true rfl, Nat.le_of_ble_eq_true rfl⟩) (fw_recL hz hw hLoE) rfl hl.1 rfl (Nat.le_of_ble_eq_true rfl) dX8_order_115 ⟨Nat.le_of_ble_eq_true rfl, Nat.le_of_ble_eq_true rfl⟩) hw (fun r F1 H locs hw hp => ?_)
    obtain ⟨hp0, hp⟩ := hp
    rw [hp0] at hw
    refine W.widen (k := 10) (n := 982) (Nat.le_of_ble_eq_true rfl) (Nat.le_of_ble_eq_true rfl) ?_
    subst hp
    refine lv_iconst (v := (nI 1)) hx hb dX8_order_118 (by decide) ?_
    refine lv_isub hx hb dX8_order_119 ?_
    refine fw_top (pk_sub (by omega)) ?_
    refine fw_top (x' := (nI nO)) (by rw [Nat.add_sub_cancel]) ?_
    have hjE : ∀ k, k < rf_sm f j → F5 ((va_up (va_up wf (nW + 0) j0) (nW + 1) j1) (nW + 2 * k)) = some ((8, nJ + 2 * k, 0), fw_obj 3 [.ref p9, .int (f 9 (12 * j + 3 * k + 1)), .int (rf_cut f nC (f 9 (12 * j + 3 * k)) (f 9 (12 * j + 3 * k + 1)))]) ∧ F5 ((va_up (va_up wf (nW + 0) j0) (nW + 1) j1) (nW + 2 * k + 1)) = some ((8, nJ + 2 * k + 1, 0), fw_obj 3 [.ref p9, .int (f 9 (12 * j + 3 * k + 2)), .int (rf_cut f nC (f 9 (12 * j + 3 * k)) (f 9 (12 * j + 3 * k + 2)))]) := fun k hk => by
        rcases (show k = 0 by omega) with rfl
        · exact ⟨by show F5 ((va_up (va_up wf (nW + 0) j0) (nW + 1) j1) (nW + 0)) = _; rw [va_up_ne _ _ (show nW + 0 ≠ nW + 1 by omega), va_up_self]; exact hjb0, by show F5 ((va_up (va_up wf (nW + 0) j0) (nW + 1) j1) (nW + 1)) = _; rw [va_up_self]; exact hjb1⟩
    rw [← hct] at hp6
    have hp7E : ∀ k, k < rf_sm f j → F5 (ms k) = some ((7, nO, k), fw_obj 5 [.ref (sa j k), .int (nI 0)]) := fun k hk => hkr5 _ _ _ (hp7 k (by omega)) (by simp)
    refine vx_ret ?_
    exact fw_iret hx hb hr hlk (Nat.le_of_ble_eq_true rfl) (Nat.le_of_ble_eq_true rfl) hw dX8_order_120 (⟨j, p9, qm, am, ms, al, aw1, (va_up (va_up wf (nW + 0) j0) (nW + 1) j1), hj, rfl, d4, rfl, by rw [hct]; exact hkr5 _ _ _ hp5 (by simp), hkr5 _ _ _ hp6 (by simp), hp7E, hLoE, by rw [hct]; exact hLw5, fun k hk => by rw [va_up_ne _ _ (show k ≠ nW + 1 by omega), va_up_ne _ _ (show k ≠ nW + 0 by omega)], hjE, hkp5⟩)
  · have d4 : ¬ nO < 12 := fun h9 => d4 ((nI_ltI (a := nO) (b := 12) (by omega) (by omega)).mpr h9)
    exact fw_throw (ik := 68) (is := 158) (ic := 72) hx hb hl9 hown (by decide +kernel) wd_282 wd_16 hT (fw_atS hT hcx) fw_otS hz hw (List.mem_of_getElem? (i := 11) rfl) (hl.1.trans hml.symm) dX8_order_18 dX8_order_21 dX8_order_22 dX8_order_24 dX8_order_27 hno ⟨Nat.le_of_ble_eq_true rfl, Nat.le_of_ble_eq_true rfl, Nat.le_of_ble_eq_true rfl, Nat.le_of_ble_eq_true rfl⟩ hlk (Or.inr ⟨rfl, rf_ix_of (by omega) hj, by omega⟩) (Nat.le_of_ble_eq_true rfl) (Nat.le_of_ble_eq_true rfl)
set_option maxHeartbeats 4000000 in
set_option maxRecDepth 100000 in
theorem c_X8_order_2 (l : Launch) (G : fw_G) (F : fw_F) (sz : Nat) (x lc lt lo lm lw dr : Nat) (tm : Int32) (ta sl fr : Nat → Nat) (sa : Nat → Nat → Nat) (f : mm_A) (nT : Nat) (ca : Nat → Nat) (nC al0 aw0 nO nW nJ : Nat) (oa wf : Nat → Nat) (t : Int32) (hl9 : l.stackTraces = false) (hX : cr_X F x lc lt lo lm lw dr tm) (hT1 : cr_t F lt ta nT) (hTr : cr_T F ta sl fr sa f nT) (hC : cr_C F lc ca f nC) (hLo : F lo = some ((1, 2, 0), fw_ls al0 nO oa)) (hnO : nO ≤ 12) (hLw : F lw = some ((1, 4, 0), fw_ls aw0 nW wf)) (hnW : nW ≤ 8 * nO) (htok : ∀ j, j < nT → rf_tok f j) (hct : ∀ j, j < nT → t = nI j → rf_sm f j = 2) : vx_Met l yX8_order (fw_ws yX8_order cX8_order 6 (some (.int))) { frames := 8, cells := 28, slots := 3166, locals := 194 } (va_Pc [.ref x, .int t] (fw_PreX G F sz)) (va_Qi (fun r F1 => ∃ j p q arr ms al aw wf1, j < nT ∧ t = nI j ∧ nO < 12 ∧ r = nI nO ∧ F1 p = some ((5, nO, 0), fw_obj 6 [.ref (ta j), .ref q, .int (nI (2 * rf_sm f j)), .int (-1), .int (nI 0)]) ∧ F1 q = some ((6, nO, 0), fw_ls arr (rf_sm f j) ms) ∧ (∀ k, k < rf_sm f j → F1 (ms k) = some ((7, nO, k), fw_obj 5 [.ref (sa j k), .int (nI 0)])) ∧ F1 lo = some ((1, 2, 0), fw_ls al (nO + 1) (va_up oa nO p)) ∧ F1 lw = some ((1, 4, 0), fw_ls aw (nW + 2 * rf_sm f j) wf1) ∧ (∀ k, k < nW → wf1 k = wf k) ∧ (∀ k, k < rf_sm f j → F1 (wf1 (nW + 2 * k)) = some ((8, nJ + 2 * k, 0), fw_obj 3 [.ref p, .int (f 9 (12 * j + 3 * k + 1)), .int (rf_cut f nC (f 9 (12 * j + 3 * k)) (f 9 (12 * j + 3 * k + 1)))]) ∧ F1 (wf1 (nW + 2 * k + 1)) = some ((8, nJ + 2 * k + 1, 0), fw_obj 3 [.ref p, .int (f 9 (12 * j + 3 * k + 2)), .int (rf_cut f nC (f 9 (12 * j + 3 * k)) (f 9 (12 * j + 3 * k + 2)))])) ∧ fw_kp F F1 (fun w => (w.2.1 = nO ∧ (w.1 = 5 ∨ w.1 = 6 ∨ w.1 = 7)) ∨ w = (1, 2, 0) ∨ w = (1, 4, 0))) (fw_B G (fw_W G F sz)) (fw_W G F sz)) (fw_xc G (fw_W G F sz) F (fun E => (E = "java/lang/IndexOutOfBoundsException" ∧ rf_ix t nT = false) ∨ (E = "java/lang/IllegalStateException" ∧ rf_ix t nT = true ∧ nO = 12))) 28 3166 (fw_W G F sz) := by
  refine fw_metX (lv := [(0, .ref x), (1, .int t)]) (by decide +kernel) (Nat.le_of_ble_eq_true rfl) rfl ?_
  intro A hA p e s m below meth c ls hx hb hml hown hT hr hlk hno hcx hz hsz hw hAn hl
  rw [← hA]
  have hown : s.vm.findClass RX8 = some m.cls := hown
  have C : CallFix p m c cX8_order 6 s _ fw_tb RX8 := ⟨hx, hb, hml, hown, hT⟩
  obtain ⟨hnt9, arr, hLt⟩ := hT1
  refine lv_aload_n hx hb dX8_order_0 rfl (lv_at hl 0 rfl) ?_
  refine lv_iload_n hx hb dX8_order_1 rfl (lv_at hl 1 rfl) ?_
  refine fw_xcallo (fw_xrunV (As := [.int t]) (rest := []) C hz hcx hw (c_X8_trainAt l G _ _ x lc lt lo lm lw dr tm arr nT ta t hl9 hX hLt hnt9 (fun i hi => ⟨_, _, (hTr i hi).1⟩)) (fw_cwV hT wd_412 yVX8_trainAt rfl rfl ⟨Nat.le_of_ble_eq_true rfl, Nat.le_of_ble_eq_true rfl⟩) (fw_rec hz hw hX (q := vwCl[9]) rfl) rfl hl.1 rfl (Nat.le_of_ble_eq_true rfl) dX8_order_2 ⟨Nat.le_of_ble_eq_true rfl, Nat.le_of_ble_eq_true rfl⟩) hw hno hlk (fun E h => Or.inl h) (Nat.le_of_ble_eq_true rfl) (Nat.le_of_ble_eq_true rfl) (fun r F1 H locs hw hp => ?_)
  obtain ⟨hp0, hp⟩ := hp
  rw [hp0] at hw
  refine W.widen (k := 1) (n := 6) (Nat.le_of_ble_eq_true rfl) (Nat.le_of_ble_eq_true rfl) ?_
  obtain ⟨j, hj, rfl, rfl⟩ := hp
  obtain ⟨hs1, ⟨ars, hs2⟩, hs3, hs4⟩ := hTr j hj
  have hct := hct j hj rfl
  refine lv_astore_n (lv' := [(2, .ref (ta j)), (0, .ref x), (1, .int (nI j))]) hx hb dX8_order_5 rfl hl (by decide) rfl (fun ls hl => ?_)
  refine lv_aload_n hx hb dX8_order_6 rfl (lv_at hl 1 rfl) ?_
  refine fw_get (v := .ref lo) hx hb hT fi_RX8 hown hz hw hX rfl 2 (by decide) (hT _ wd_177) (fun _ h9 => h9) rfl dX8_order_7 ?_
  refine fw_calli (fw_runV (As := []) (rest := []) C hz hw (c_Jx4a65c_size_8abf5 l G _ _ lo al0 nO (1, 2, 0) oa hLo) (fw_cwV hT wd_278 yVJx4a65c_size_8abf5 rfl rfl ⟨Nat.le_of_ble_eq_true rfl, Nat.le_of_ble_eq_true rfl⟩) (fw_recL hz hw hLo) rfl hl.1 rfl (Nat.le_of_ble_eq_true rfl) dX8_order_10 ⟨Nat.le_of_ble_eq_true rfl, Nat.le_of_ble_eq_true rfl⟩) hw (fun r F1 H locs hw hp => ?_)
  obtain ⟨hp0, hp⟩ := hp
  rw [hp0] at hw
  refine W.widen (k := 1) (n := 6) (Nat.le_of_ble_eq_true rfl) (Nat.le_of_ble_eq_true rfl) ?_
  subst hp
  refine lv_bipush (v := (nI 12)) hx hb dX8_order_13 (by decide) ?_
  refine lv_icmp_lt (tgt := 28) hx hb dX8_order_15 (by decide) (fun d4 => ?_) (fun d4 => ?_)
  · have d4 := (nI_ltI (a := nO) (b := 12) (by omega) (by omega)).mp d4
    rw [hct] at hs2 hs4
    refine fw_new (5, nO, 0) (ci := 6) (fs := [.null, .null, .int (nI 0), .int (nI 0), .int (nI 0)]) hx hb hT fi_RX5 tyX5 tyX5_ok hown (hT _ wd_433) (hT _ wd_434) (hT _ wd_22) hz hw hAn rfl (by intro j hj; rcases (show j = 0 ∨ j = 1 ∨ j = 2 ∨ j = 3 ∨ j = 4 by omega) with rfl | rfl | rfl | rfl | rfl <;> rfl) (Nat.le_of_ble_eq_true rfl) (Nat.le_of_ble_eq_true rfl) dX8_order_28 (fun p9 H hqp9 hw => ?_)
    refine W.widen (k := 2) (n := 11) (Nat.le_of_ble_eq_true rfl) (Nat.le_of_ble_eq_true rfl) ?_
    obtain ⟨W1, hFW1⟩ : ∃ z, z = va_up F p9 (some ((5, nO, 0), fw_obj 6 [.null, .null, .int (nI 0), .int (nI 0), .int (nI 0)])) := ⟨_, rfl⟩
    rw [← hFW1] at hw
    have k1_0 : W1 x = some ((50, 0, 0), fw_obj 9 [.ref lc, .ref lt, .ref lo, .ref lm, .ref lw, .ref dr, .int tm]) := by rw [hFW1]; exact fw_up_new hX hqp9
    have k1_1 : W1 (ta j) = some ((3, j, 0), fw_obj 8 [.ref (sl j), .ref (fr j), .int (f 10 j)]) := by rw [hFW1]; exact fw_up_new hs1 hqp9
    have k1_2 : W1 (sl j) = some ((13, j, 0), fw_ls ars 2 (sa j)) := by rw [hFW1]; exact fw_up_new hs2 hqp9
    have k1_3 : W1 (fr j) = some ((33, j, 0), fw_obj 2 [.long (lN (rf_P f j 2 / cr_g f j)), .long (lN (rf_P f j 1 / cr_g f j))]) := by rw [hFW1]; exact fw_up_new hs3 hqp9
    have k1_4 : W1 lo = some ((1, 2, 0), fw_ls al0 nO oa) := by rw [hFW1]; exact fw_up_new hLo hqp9
    have k1_s : W1 p9 = some ((5, nO, 0), fw_obj 6 [.null, .null, .int (nI 0), .int (nI 0), .int (nI 0)]) := by rw [hFW1]; exact fw_up_self
    have hkp1 : fw_kp F W1 (fun w => (w.2.1 = nO ∧ (w.1 = 5 ∨ w.1 = 6 ∨ w.1 = 7)) ∨ w = (1, 2, 0) ∨ w = (1, 4, 0)) := by rw [hFW1]; exact fw_kp.rf.new hqp9
    refine lv_dup hx hb dX8_order_31 rfl ?_
    refine lv_aload_n hx hb dX8_order_32 rfl (lv_at hl 0 rfl) ?_
    refine fw_callv (fw_runI (As := [.ref (ta j)]) (rest := [.ref p9]) C hz hw (c_X5_init_2 l G _ _ p9 (ta j) (sl j) (fr j) ars j nO (f 10 j) (sa j) (fun k => f 9 (12 * j + 3 * k)) (fun k => f 9 (12 * j + 3 * k + 1)) (fun k => f 9 (12 * j + 3 * k + 2)) k1_s (hkp1 _ _ _ hs1 (by simp)) (hkp1 _ _ _ hs2 (by simp)) (fun k hk => (hkp1 _ _ _ (hs4 k hk) (by simp)))) (fw_cwI hT wd_435 yIX5_init rfl rfl ⟨Nat.le_of_ble_eq_true rfl, Nat.le_of_ble_eq_true rfl⟩) rfl hl.1 rfl (Nat.le_of_ble_eq_true rfl) dX8_order_33 ⟨Nat.le_of_ble_eq_true rfl, Nat.le_of_ble_eq_true rfl⟩) hw (fun F2 H locs hw hp => ?_)
    refine W.widen (k := 7) (n := 498) (Nat.le_of_ble_eq_true rfl) (Nat.le_of_ble_eq_true rfl) ?_
    obtain ⟨qm, am, ms, hp5, hp6, hp7, hpk⟩ := hp
    have hkp2 : fw_kp F F2 (fun w => (w.2.1 = nO ∧ (w.1 = 5 ∨ w.1 = 6 ∨ w.1 = 7)) ∨ w = (1, 2, 0) ∨ w = (1, 4, 0)) := (hkp1.tr hpk).wk (fun t z => z.elim id Or.inl)
    have hX2 := hkp2 _ _ _ hX (by simp)
    have hLo2 := hpk _ _ _ (show W1 lo = some ((1, 2, 0), fw_ls al0 nO oa) from by rw [hFW1]; exact fw_up_new hLo hqp9) (by simp)
    have hLw2 := hpk _ _ _ (show W1 lw = some ((1, 4, 0), fw_ls aw0 nW wf) from by rw [hFW1]; exact fw_up_new hLw hqp9) (by simp)
    refine lv_astore_n (lv' := [(3, .ref p9), (2, .ref (ta j)), (0, .ref x), (1, .int (nI j))]) hx hb dX8_order_36 rfl hl (by decide) rfl (fun ls hl => ?_)
    refine lv_aload_n hx hb dX8_order_37 rfl (lv_at hl 2 rfl) ?_
    refine fw_get (v := .ref lo) hx hb hT fi_RX8 hown hz hw hX2 rfl 2 (by decide) (hT _ wd_177) (fun _ h9 => h9) rfl dX8_order_38 ?_
    refine lv_aload_n hx hb dX8_order_41 rfl (lv_at hl 0 rfl) ?_
    refine fw_calli (fw_runV (As := [.ref p9]) (rest := []) C hz hw (c_Jx4a65c_add_9ea2d l G _ _ lo al0 nO (1, 2, 0) oa p9 6 (5, nO, 0) _ (by decide) hLo2 (by omega) hp5) (fw_cwV hT wd_115 yVJx4a65c_add_9ea2d rfl rfl ⟨Nat.le_of_ble_eq_true rfl, Nat.le_of_ble_eq_true rfl⟩) (fw_recL hz hw hLo2) rfl hl.1 rfl (Nat.le_of_ble_eq_true rfl) dX8_order_42 ⟨Nat.le_of_ble_eq_true rfl, Nat.le_of_ble_eq_true rfl⟩) hw (fun r F3 H locs hw hp => ?_)
    refine W.widen (k := 8) (n := 738) (Nat.le_of_ble_eq_true rfl) (Nat.le_of_ble_eq_true rfl) ?_
    obtain ⟨rfl, al, hp⟩ := hp
    have hkq3 : fw_kp F2 F3 (fun w => w = (1, 2, 0)) := by rw [hp]; exact fw_kp.rf.up hLo2 rfl
    have hkp3 : fw_kp F F3 (fun w => (w.2.1 = nO ∧ (w.1 = 5 ∨ w.1 = 6 ∨ w.1 = 7)) ∨ w = (1, 2, 0) ∨ w = (1, 4, 0)) := (hkp2.tr hkq3).wk (fun t z => z.elim id (fun z => Or.inr (Or.inl z)))
    have hLo3 : F3 lo = some ((1, 2, 0), fw_ls al (nO + 1) (va_up oa nO p9)) := by rw [hp]; exact fw_up_self
    have hLw3 := hkq3 _ _ _ hLw2 (by simp)
    have hp5 := hkq3 _ _ _ hp5 (by simp)
    have hp6 := hkq3 _ _ _ hp6 (by simp)
    have hp7 := fun k hk => hkq3 _ _ _ (hp7 k hk) (by simp)
    have hkr3 : fw_kp F3 F3 (fun w => w = (1, 4, 0)) := fw_kp.rf
    have hX3 := hkp3 _ _ _ hX (by simp)
    have hs1_3 := hkp3 _ _ _ hs1 (by simp)
    have hs2_3 := hkp3 _ _ _ hs2 (by simp)
    have hs4_3 := hkp3 _ _ _ (hs4 0 (by decide)) (by simp)
    refine lv_pop hx hb dX8_order_45 rfl ?_
    refine lv_iconst (v := (nI 0)) hx hb dX8_order_46 (by decide) ?_
    refine lv_istore (lv' := [(4, .int (nI 0)), (3, .ref p9), (2, .ref (ta j)), (0, .ref x), (1, .int (nI j))]) hx hb dX8_order_47 hl (by decide) rfl (fun ls hl => ?_)
    refine lv_iload hx hb dX8_order_49 (lv_at hl 0 rfl) ?_
    refine lv_aload_n hx hb dX8_order_51 rfl (lv_at hl 2 rfl) ?_
    refine fw_get (v := .ref (sl j)) hx hb hT fi_RX7 hown hz hw hs1_3 rfl 0 (by decide) (hT _ wd_84) (fun _ h9 => h9) rfl dX8_order_52 ?_
    refine fw_calli (fw_runV (As := []) (rest := [.int (nI 0)]) C hz hw (c_Jx4a65c_size_8abf5 l G _ _ (sl j) ars 2 (13, j, 0) (sa j) hs2_3) (fw_cwV hT wd_278 yVJx4a65c_size_8abf5 rfl rfl ⟨Nat.le_of_ble_eq_true rfl, Nat.le_of_ble_eq_true rfl⟩) (fw_recL hz hw hs2_3) rfl hl.1 rfl (Nat.le_of_ble_eq_true rfl) dX8_order_55 ⟨Nat.le_of_ble_eq_true rfl, Nat.le_of_ble_eq_true rfl⟩) hw (fun r F1 H locs hw hp => ?_)
    obtain ⟨hp0, hp⟩ := hp
    rw [hp0] at hw
    refine W.widen (k := 8) (n := 738) (Nat.le_of_ble_eq_true rfl) (Nat.le_of_ble_eq_true rfl) ?_
    subst hp
    refine lv_icmp_ge (tgt := 111) hx hb dX8_order_58 (by decide) (fun cx => absurd cx (by decide)) (fun cx => ?_)
    refine lv_aload_n hx hb dX8_order_61 rfl (lv_at hl 2 rfl) ?_
    refine fw_get (v := .ref (sl j)) hx hb hT fi_RX7 hown hz hw hs1_3 rfl 0 (by decide) (hT _ wd_84) (fun _ h9 => h9) rfl dX8_order_62 ?_
    refine lv_iload hx hb dX8_order_65 (lv_at hl 0 rfl) ?_
    refine fw_callo (fw_runV (As := [.int (nI 0)]) (rest := []) C hz hw (c_Jx4a65c_get_915e3 l G _ _ (sl j) ars 2 (13, j, 0) (sa j) 0 hs2_3 (by decide) (by decide)) (fw_cwV hT wd_323 yVJx4a65c_get_915e3 rfl rfl ⟨Nat.le_of_ble_eq_true rfl, Nat.le_of_ble_eq_true rfl⟩) (fw_recL hz hw hs2_3) rfl hl.1 rfl (Nat.le_of_ble_eq_true rfl) dX8_order_67 ⟨Nat.le_of_ble_eq_true rfl, Nat.le_of_ble_eq_true rfl⟩) hw (fun r F1 H locs hw hp => ?_)
    obtain ⟨hp0, hp⟩ := hp
    rw [hp0] at hw
    refine W.widen (k := 8) (n := 738) (Nat.le_of_ble_eq_true rfl) (Nat.le_of_ble_eq_true rfl) ?_
    subst hp
    refine fw_cast hx hb hown hz hw hs4_3 (q := vwCl[7]) rfl (hT _ wd_347) dX8_order_70 ?_
    refine lv_astore (lv' := [(5, .ref (sa j 0)), (4, .int (nI 0)), (3, .ref p9), (2, .ref (ta j)), (0, .ref x), (1, .int (nI j))]) hx hb dX8_order_73 hl (by decide) rfl (fun ls hl => ?_)
    refine lv_aload_n hx hb dX8_order_75 rfl (lv_at hl 4 rfl) ?_
    refine lv_aload_n hx hb dX8_order_76 rfl (lv_at hl 2 rfl) ?_
    refine lv_aload hx hb dX8_order_77 (lv_at hl 0 rfl) ?_
    refine fw_get (v := .int (f 9 (12 * j + 3 * 0))) hx hb hT fi_RX6 hown hz hw hs4_3 rfl 0 (by decide) (hT _ wd_355) (fun _ h9 => h9) rfl dX8_order_79 ?_
    refine lv_aload hx hb dX8_order_82 (lv_at hl 0 rfl) ?_
    refine fw_get (v := .int (f 9 (12 * j + 3 * 0 + 1))) hx hb hT fi_RX6 hown hz hw hs4_3 rfl 1 (by decide) (hT _ wd_358) (fun _ h9 => h9) rfl dX8_order_84 ?_
    refine fw_callv (fw_runV (As := [.ref p9, .int (f 9 (12 * j + 3 * 0)), .int (f 9 (12 * j + 3 * 0 + 1))]) (rest := []) C hz hw (c_X8_queue l G _ _ x lc lt lo lm lw dr tm ca f nC p9 aw0 (nW + 0) (nJ + 0) wf (f 9 (12 * j + 3 * 0)) (f 9 (12 * j + 3 * 0 + 1)) hX3 (hC.kp hkp3 cl_PO) hLw3 (by omega)) (fw_cwV hT wd_482 yVX8_queue rfl rfl ⟨Nat.le_of_ble_eq_true rfl, Nat.le_of_ble_eq_true rfl⟩) (fw_rec hz hw hX3 (q := vwCl[9]) rfl) rfl hl.1 rfl (Nat.le_of_ble_eq_true rfl) dX8_order_87 ⟨Nat.le_of_ble_eq_true rfl, Nat.le_of_ble_eq_true rfl⟩) hw (fun F4 H locs hw hp => ?_)
    refine W.widen (k := 10) (n := 981) (Nat.le_of_ble_eq_true rfl) (Nat.le_of_ble_eq_true rfl) ?_
    obtain ⟨j0, aw0, hqj0, hp⟩ := hp
    have hkq4 : fw_kp F3 F4 (fun w => w = (1, 4, 0)) := by rw [hp]; exact (fw_kp.rf.new hqj0).up (fw_up_new hLw3 hqj0) rfl
    have hLw4 : F4 lw = some ((1, 4, 0), fw_ls aw0 (nW + 1) (va_up wf (nW + 0) j0)) := by rw [hp]; exact fw_up_self
    have hjb0 : F4 j0 = some ((8, nJ + 0, 0), fw_obj 3 [.ref p9, .int (f 9 (12 * j + 3 * 0 + 1)), .int (rf_cut f nC (f 9 (12 * j + 3 * 0)) (f 9 (12 * j + 3 * 0 + 1)))]) := by rw [hp]; exact fw_up_tag fw_up_self (fw_up_new hLw3 hqj0) (by intro z; cases z)
    have hkp4 : fw_kp F F4 (fun w => (w.2.1 = nO ∧ (w.1 = 5 ∨ w.1 = 6 ∨ w.1 = 7)) ∨ w = (1, 2, 0) ∨ w = (1, 4, 0)) := (hkp3.tr hkq4).wk (fun t z => z.elim id (fun z => Or.inr (Or.inr z)))
    have hkr4 := hkr3.tr1 hkq4
    have hX4 := hkp4 _ _ _ hX (by simp)
    have hs1_4 := hkp4 _ _ _ hs1 (by simp)
    have hs2_4 := hkp4 _ _ _ hs2 (by simp)
    have hs4_4 := hkp4 _ _ _ (hs4 0 (by decide)) (by simp)
    refine lv_aload_n hx hb dX8_order_90 rfl (lv_at hl 4 rfl) ?_
    refine lv_aload_n hx hb dX8_order_91 rfl (lv_at hl 2 rfl) ?_
    refine lv_aload hx hb dX8_order_92 (lv_at hl 0 rfl) ?_
    refine fw_get (v := .int (f 9 (12 * j + 3 * 0))) hx hb hT fi_RX6 hown hz hw hs4_4 rfl 0 (by decide) (hT _ wd_355) (fun _ h9 => h9) rfl dX8_order_94 ?_
    refine lv_aload hx hb dX8_order_97 (lv_at hl 0 rfl) ?_
    refine fw_get (v := .int (f 9 (12 * j + 3 * 0 + 2))) hx hb hT fi_RX6 hown hz hw hs4_4 rfl 2 (by decide) (hT _ wd_361) (fun _ h9 => h9) rfl dX8_order_99 ?_
    refine fw_callv (fw_runV (As := [.ref p9, .int (f 9 (12 * j + 3 * 0)), .int (f 9 (12 * j + 3 * 0 + 2))]) (rest := []) C hz hw (c_X8_queue l G _ _ x lc lt lo lm lw dr tm ca f nC p9 aw0 (nW + 1) (nJ + 1) (va_up wf (nW + 0) j0) (f 9 (12 * j + 3 * 0)) (f 9 (12 * j + 3 * 0 + 2)) hX4 (hC.kp hkp4 cl_PO) hLw4 (by omega)) (fw_cwV hT wd_482 yVX8_queue rfl rfl ⟨Nat.le_of_ble_eq_true rfl, Nat.le_of_ble_eq_true rfl⟩) (fw_rec hz hw hX4 (q := vwCl[9]) rfl) rfl hl.1 rfl (Nat.le_of_ble_eq_true rfl) dX8_order_102 ⟨Nat.le_of_ble_eq_true rfl, Nat.le_of_ble_eq_true rfl⟩) hw (fun F5 H locs hw hp => ?_)
    refine W.widen (k := 12) (n := 1224) (Nat.le_of_ble_eq_true rfl) (Nat.le_of_ble_eq_true rfl) ?_
    obtain ⟨j1, aw1, hqj1, hp⟩ := hp
    have hkq5 : fw_kp F4 F5 (fun w => w = (1, 4, 0)) := by rw [hp]; exact (fw_kp.rf.new hqj1).up (fw_up_new hLw4 hqj1) rfl
    have hLw5 : F5 lw = some ((1, 4, 0), fw_ls aw1 (nW + 2) (va_up (va_up wf (nW + 0) j0) (nW + 1) j1)) := by rw [hp]; exact fw_up_self
    have hjb1 : F5 j1 = some ((8, nJ + 1, 0), fw_obj 3 [.ref p9, .int (f 9 (12 * j + 3 * 0 + 2)), .int (rf_cut f nC (f 9 (12 * j + 3 * 0)) (f 9 (12 * j + 3 * 0 + 2)))]) := by rw [hp]; exact fw_up_tag fw_up_self (fw_up_new hLw4 hqj1) (by intro z; cases z)
    have hjb0 := hkq5 _ _ _ hjb0 (by simp)
    have hkp5 : fw_kp F F5 (fun w => (w.2.1 = nO ∧ (w.1 = 5 ∨ w.1 = 6 ∨ w.1 = 7)) ∨ w = (1, 2, 0) ∨ w = (1, 4, 0)) := (hkp4.tr hkq5).wk (fun t z => z.elim id (fun z => Or.inr (Or.inr z)))
    have hkr5 := hkr4.tr1 hkq5
    have hX5 := hkp5 _ _ _ hX (by simp)
    have hs1_5 := hkp5 _ _ _ hs1 (by simp)
    have hs2_5 := hkp5 _ _ _ hs2 (by simp)
    have hs4_5 := hkp5 _ _ _ (hs4 1 (by decide)) (by simp)
    refine lv_iinc (v := (nI (0 + 1))) (lv' := [(4, .int (nI (0 + 1))), (5, .ref (sa j 0)), (3, .ref p9), (2, .ref (ta j)), (0, .ref x), (1, .int (nI j))]) hx hb dX8_order_105 hl (k := 1) rfl (nI_1 _) (by decide) rfl (fun ls hl => ?_)
    refine lv_goto (tgt := 49) hx hb dX8_order_108 (by decide) ?_
    refine lv_iload hx hb dX8_order_49 (lv_at hl 0 rfl) ?_
    refine lv_aload_n hx hb dX8_order_51 rfl (lv_at hl 3 rfl) ?_
    refine fw_get (v := .ref (sl j)) hx hb hT fi_RX7 hown hz hw hs1_5 rfl 0 (by decide) (hT _ wd_84) (fun _ h9 => h9) rfl dX8_order_52 ?_
    refine fw_calli (fw_runV (As := []) (rest := [.int (nI (0 + 1))]) C hz hw (c_Jx4a65c_size_8abf5 l G _ _ (sl j) ars 2 (13, j, 0) (sa j) hs2_5) (fw_cwV hT wd_278 yVJx4a65c_size_8abf5 rfl rfl ⟨Nat.le_of_ble_eq_true rfl, Nat.le_of_ble_eq_true rfl⟩) (fw_recL hz hw hs2_5) rfl hl.1 rfl (Nat.le_of_ble_eq_true rfl) dX8_order_55 ⟨Nat.le_of_ble_eq_true rfl, Nat.le_of_ble_eq_true rfl⟩) hw (fun r F1 H locs hw hp => ?_)
    obtain ⟨hp0, hp⟩ := hp
    rw [hp0] at hw
    refine W.widen (k := 12) (n := 1224) (Nat.le_of_ble_eq_true rfl) (Nat.le_of_ble_eq_true rfl) ?_
    subst hp
    refine lv_icmp_ge (tgt := 111) hx hb dX8_order_58 (by decide) (fun cx => absurd cx (by decide)) (fun cx => ?_)
    refine lv_aload_n hx hb dX8_order_61 rfl (lv_at hl 3 rfl) ?_
    refine fw_get (v := .ref (sl j)) hx hb hT fi_RX7 hown hz hw hs1_5 rfl 0 (by decide) (hT _ wd_84) (fun _ h9 => h9) rfl dX8_order_62 ?_
    refine lv_iload hx hb dX8_order_65 (lv_at hl 0 rfl) ?_
    refine fw_callo (fw_runV (As := [.int (nI (0 + 1))]) (rest := []) C hz hw (c_Jx4a65c_get_915e3 l G _ _ (sl j) ars 2 (13, j, 0) (sa j) 1 hs2_5 (by decide) (by decide)) (fw_cwV hT wd_323 yVJx4a65c_get_915e3 rfl rfl ⟨Nat.le_of_ble_eq_true rfl, Nat.le_of_ble_eq_true rfl⟩) (fw_recL hz hw hs2_5) rfl hl.1 rfl (Nat.le_of_ble_eq_true rfl) dX8_order_67 ⟨Nat.le_of_ble_eq_true rfl, Nat.le_of_ble_eq_true rfl⟩) hw (fun r F1 H locs hw hp => ?_)
    obtain ⟨hp0, hp⟩ := hp
    rw [hp0] at hw
    refine W.widen (k := 12) (n := 1224) (Nat.le_of_ble_eq_true rfl) (Nat.le_of_ble_eq_true rfl) ?_
    subst hp
    refine fw_cast hx hb hown hz hw hs4_5 (q := vwCl[7]) rfl (hT _ wd_347) dX8_order_70 ?_
    refine lv_astore (lv' := [(5, .ref (sa j 1)), (4, .int (nI (0 + 1))), (3, .ref p9), (2, .ref (ta j)), (0, .ref x), (1, .int (nI j))]) hx hb dX8_order_73 hl (by decide) rfl (fun ls hl => ?_)
    refine lv_aload_n hx hb dX8_order_75 rfl (lv_at hl 4 rfl) ?_
    refine lv_aload_n hx hb dX8_order_76 rfl (lv_at hl 2 rfl) ?_
    refine lv_aload hx hb dX8_order_77 (lv_at hl 0 rfl) ?_
    refine fw_get (v := .int (f 9 (12 * j + 3 * 1))) hx hb hT fi_RX6 hown hz hw hs4_5 rfl 0 (by decide) (hT _ wd_355) (fun _ h9 => h9) rfl dX8_order_79 ?_
    refine lv_aload hx hb dX8_order_82 (lv_at hl 0 rfl) ?_
    refine fw_get (v := .int (f 9 (12 * j + 3 * 1 + 1))) hx hb hT fi_RX6 hown hz hw hs4_5 rfl 1 (by decide) (hT _ wd_358) (fun _ h9 => h9) rfl dX8_order_84 ?_
    refine fw_callv (fw_runV (As := [.ref p9, .int (f 9 (12 * j + 3 * 1)), .int (f 9 (12 * j + 3 * 1 + 1))]) (rest := []) C hz hw (c_X8_queue l G _ _ x lc lt lo lm lw dr tm ca f nC p9 aw1 (nW + 2) (nJ + 2) (va_up (va_up wf (nW + 0) j0) (nW + 1) j1) (f 9 (12 * j + 3 * 1)) (f 9 (12 * j + 3 * 1 + 1)) hX5 (hC.kp hkp5 cl_PO) hLw5 (by omega)) (fw_cwV hT wd_482 yVX8_queue rfl rfl ⟨Nat.le_of_ble_eq_true rfl, Nat.le_of_ble_eq_true rfl⟩) (fw_rec hz hw hX5 (q := vwCl[9]) rfl) rfl hl.1 rfl (Nat.le_of_ble_eq_true rfl) dX8_order_87 ⟨Nat.le_of_ble_eq_true rfl, Nat.le_of_ble_eq_true rfl⟩) hw (fun F6 H locs hw hp => ?_)
    refine W.widen (k := 14) (n := 1467) (Nat.le_of_ble_eq_true rfl) (Nat.le_of_ble_eq_true rfl) ?_
    obtain ⟨j2, aw2, hqj2, hp⟩ := hp
    have hkq6 : fw_kp F5 F6 (fun w => w = (1, 4, 0)) := by rw [hp]; exact (fw_kp.rf.new hqj2).up (fw_up_new hLw5 hqj2) rfl
    have hLw6 : F6 lw = some ((1, 4, 0), fw_ls aw2 (nW + 3) (va_up (va_up (va_up wf (nW + 0) j0) (nW + 1) j1) (nW + 2) j2)) := by rw [hp]; exact fw_up_self
    have hjb2 : F6 j2 = some ((8, nJ + 2, 0), fw_obj 3 [.ref p9, .int (f 9 (12 * j + 3 * 1 + 1)), .int (rf_cut f nC (f 9 (12 * j + 3 * 1)) (f 9 (12 * j + 3 * 1 + 1)))]) := by rw [hp]; exact fw_up_tag fw_up_self (fw_up_new hLw5 hqj2) (by intro z; cases z)
    have hjb0 := hkq6 _ _ _ hjb0 (by simp)
    have hjb1 := hkq6 _ _ _ hjb1 (by simp)
    have hkp6 : fw_kp F F6 (fun w => (w.2.1 = nO ∧ (w.1 = 5 ∨ w.1 = 6 ∨ w.1 = 7)) ∨ w = (1, 2, 0) ∨ w = (1, 4, 0)) := (hkp5.tr hkq6).wk (fun t z => z.elim id (fun z => Or.inr (Or.inr z)))
    have hkr6 := hkr5.tr1 hkq6
    have hX6 := hkp6 _ _ _ hX (by simp)
    have hs1_6 := hkp6 _ _ _ hs1 (by simp)
    have hs2_6 := hkp6 _ _ _ hs2 (by simp)
    have hs4_6 := hkp6 _ _ _ (hs4 1 (by decide)) (by simp)
    refine lv_aload_n hx hb dX8_order_90 rfl (lv_at hl 4 rfl) ?_
    refine lv_aload_n hx hb dX8_order_91 rfl (lv_at hl 2 rfl) ?_
    refine lv_aload hx hb dX8_order_92 (lv_at hl 0 rfl) ?_
    refine fw_get (v := .int (f 9 (12 * j + 3 * 1))) hx hb hT fi_RX6 hown hz hw hs4_6 rfl 0 (by decide) (hT _ wd_355) (fun _ h9 => h9) rfl dX8_order_94 ?_
    refine lv_aload hx hb dX8_order_97 (lv_at hl 0 rfl) ?_
    refine fw_get (v := .int (f 9 (12 * j + 3 * 1 + 2))) hx hb hT fi_RX6 hown hz hw hs4_6 rfl 2 (by decide) (hT _ wd_361) (fun _ h9 => h9) rfl dX8_order_99 ?_
    refine fw_callv (fw_runV (As := [.ref p9, .int (f 9 (12 * j + 3 * 1)), .int (f 9 (12 * j + 3 * 1 + 2))]) (rest := []) C hz hw (c_X8_queue l G _ _ x lc lt lo lm lw dr tm ca f nC p9 aw2 (nW + 3) (nJ + 3) (va_up (va_up (va_up wf (nW + 0) j0) (nW + 1) j1) (nW + 2) j2) (f 9 (12 * j + 3 * 1)) (f 9 (12 * j + 3 * 1 + 2)) hX6 (hC.kp hkp6 cl_PO) hLw6 (by omega)) (fw_cwV hT wd_482 yVX8_queue rfl rfl ⟨Nat.le_of_ble_eq_true rfl, Nat.le_of_ble_eq_true rfl⟩) (fw_rec hz hw hX6 (q := vwCl[9]) rfl) rfl hl.1 rfl (Nat.le_of_ble_eq_true rfl) dX8_order_102 ⟨Nat.le_of_ble_eq_true rfl, Nat.le_of_ble_eq_true rfl⟩) hw (fun F7 H locs hw hp => ?_)
    refine W.widen (k := 16) (n := 1710) (Nat.le_of_ble_eq_true rfl) (Nat.le_of_ble_eq_true rfl) ?_
    obtain ⟨j3, aw3, hqj3, hp⟩ := hp
    have hkq7 : fw_kp F6 F7 (fun w => w = (1, 4, 0)) := by rw [hp]; exact (fw_kp.rf.new hqj3).up (fw_up_new hLw6 hqj3) rfl
    have hLw7 : F7 lw = some ((1, 4, 0), fw_ls aw3 (nW + 4) (va_up (va_up (va_up (va_up wf (nW + 0) j0) (nW + 1) j1) (nW + 2) j2) (nW + 3) j3)) := by rw [hp]; exact fw_up_self
    have hjb3 : F7 j3 = some ((8, nJ + 3, 0), fw_obj 3 [.ref p9, .int (f 9 (12 * j + 3 * 1 + 2)), .int (rf_cut f nC (f 9 (12 * j + 3 * 1)) (f 9 (12 * j + 3 * 1 + 2)))]) := by rw [hp]; exact fw_up_tag fw_up_self (fw_up_new hLw6 hqj3) (by intro z; cases z)
    have hjb0 := hkq7 _ _ _ hjb0 (by simp)
    have hjb1 := hkq7 _ _ _ hjb1 (by simp)
    have hjb2 := hkq7 _ _ _ hjb2 (by simp)
    have hkp7 : fw_kp F F7 (fun w => (w.2.1 = nO ∧ (w.1 = 5 ∨ w.1 = 6 ∨ w.1 = 7)) ∨ w = (1, 2, 0) ∨ w = (1, 4, 0)) := (hkp6.tr hkq7).wk (fun t z => z.elim id (fun z => Or.inr (Or.inr z)))
    have hkr7 := hkr6.tr1 hkq7
    have hX7 := hkp7 _ _ _ hX (by simp)
    have hs1_7 := hkp7 _ _ _ hs1 (by simp)
    have hs2_7 := hkp7 _ _ _ hs2 (by simp)
    refine lv_iinc (v := (nI (0 + 1 + 1))) (lv' := [(4, .int (nI (0 + 1 + 1))), (5, .ref (sa j 1)), (3, .ref p9), (2, .ref (ta j)), (0, .ref x), (1, .int (nI j))]) hx hb dX8_order_105 hl (k := 1) rfl (nI_1 _) (by decide) rfl (fun ls hl => ?_)
    refine lv_goto (tgt := 49) hx hb dX8_order_108 (by decide) ?_
    refine lv_iload hx hb dX8_order_49 (lv_at hl 0 rfl) ?_
    refine lv_aload_n hx hb dX8_order_51 rfl (lv_at hl 3 rfl) ?_
    refine fw_get (v := .ref (sl j)) hx hb hT fi_RX7 hown hz hw hs1_7 rfl 0 (by decide) (hT _ wd_84) (fun _ h9 => h9) rfl dX8_order_52 ?_
    refine fw_calli (fw_runV (As := []) (rest := [.int (nI (0 + 1 + 1))]) C hz hw (c_Jx4a65c_size_8abf5 l G _ _ (sl j) ars 2 (13, j, 0) (sa j) hs2_7) (fw_cwV hT wd_278 yVJx4a65c_size_8abf5 rfl rfl ⟨Nat.le_of_ble_eq_true rfl, Nat.le_of_ble_eq_true rfl⟩) (fw_recL hz hw hs2_7) rfl hl.1 rfl (Nat.le_of_ble_eq_true rfl) dX8_order_55 ⟨Nat.le_of_ble_eq_true rfl, Nat.le_of_ble_eq_true rfl⟩) hw (fun r F1 H locs hw hp => ?_)
    obtain ⟨hp0, hp⟩ := hp
    rw [hp0] at hw
    refine W.widen (k := 16) (n := 1710) (Nat.le_of_ble_eq_true rfl) (Nat.le_of_ble_eq_true rfl) ?_
    subst hp
    refine lv_icmp_ge (tgt := 111) hx hb dX8_order_58 (by decide) (fun cx => ?_) (fun cx => absurd cx (by decide))
    refine lv_aload_n hx hb dX8_order_111 rfl (lv_at hl 4 rfl) ?_
    refine fw_get (v := .ref lo) hx hb hT fi_RX8 hown hz hw hX7 rfl 2 (by decide) (hT _ wd_177) (fun _ h9 => h9) rfl dX8_order_112 ?_
    have hLoE := hkr7 _ _ _ hLo3 (by simp)
    refine fw_calli (fw_runV (As := []) (rest := []) C hz hw (c_Jx4a65c_size_8abf5 l G _ _ lo al (nO + 1) (1, 2, 0) _ hLoE) (fw_cwV hT wd_278 yVJx4a65c_size_8abf5 rfl rfl ⟨Nat.le_of_ble_eq_true rfl, Nat.le_of_ble_eq_true rfl⟩) (fw_recL hz hw hLoE) rfl hl.1 rfl (Nat.le_of_ble_eq_true rfl) dX8_order_115 ⟨Nat.le_of_ble_eq_true rfl, Nat.le_of_ble_eq_true rfl⟩) hw (fun r F1 H locs hw hp => ?_)
    obtain ⟨hp0, hp⟩ := hp
    rw [hp0] at hw
    refine W.widen (k := 16) (n := 1710) (Nat.le_of_ble_eq_true rfl) (Nat.le_of_ble_eq_true rfl) ?_
    subst hp
    refine lv_iconst (v := (nI 1)) hx hb dX8_order_118 (by decide) ?_
    refine lv_isub hx hb dX8_order_119 ?_
    refine fw_top (pk_sub (by omega)) ?_
    refine fw_top (x' := (nI nO)) (by rw [Nat.add_sub_cancel]) ?_
    have hjE : ∀ k, k < rf_sm f j → F7 ((va_up (va_up (va_up (va_up wf (nW + 0) j0) (nW + 1) j1) (nW + 2) j2) (nW + 3) j3) (nW + 2 * k)) = some ((8, nJ + 2 * k, 0), fw_obj 3 [.ref p9, .int (f 9 (12 * j + 3 * k + 1)), .int (rf_cut f nC (f 9 (12 * j + 3 * k)) (f 9 (12 * j + 3 * k + 1)))]) ∧ F7 ((va_up (va_up (va_up (va_up wf (nW + 0) j0) (nW + 1) j1) (nW + 2) j2) (nW + 3) j3) (nW + 2 * k + 1)) = some ((8, nJ + 2 * k + 1, 0), fw_obj 3 [.ref p9, .int (f 9 (12 * j + 3 * k + 2)), .int (rf_cut f nC (f 9 (12 * j + 3 * k)) (f 9 (12 * j + 3 * k + 2)))]) := fun k hk => by
        rcases (show k = 0 ∨ k = 1 by omega) with rfl | rfl
        · exact ⟨by show F7 ((va_up (va_up (va_up (va_up wf (nW + 0) j0) (nW + 1) j1) (nW + 2) j2) (nW + 3) j3) (nW + 0)) = _; rw [va_up_ne _ _ (show nW + 0 ≠ nW + 3 by omega), va_up_ne _ _ (show nW + 0 ≠ nW + 2 by omega), va_up_ne _ _ (show nW + 0 ≠ nW + 1 by omega), va_up_self]; exact hjb0, by show F7 ((va_up (va_up (va_up (va_up wf (nW + 0) j0) (nW + 1) j1) (nW + 2) j2) (nW + 3) j3) (nW + 1)) = _; rw [va_up_ne _ _ (show nW + 1 ≠ nW + 3 by omega), va_up_ne _ _ (show nW + 1 ≠ nW + 2 by omega), va_up_self]; exact hjb1⟩
        · exact ⟨by show F7 ((va_up (va_up (va_up (va_up wf (nW + 0) j0) (nW + 1) j1) (nW + 2) j2) (nW + 3) j3) (nW + 2)) = _; rw [va_up_ne _ _ (show nW + 2 ≠ nW + 3 by omega), va_up_self]; exact hjb2, by show F7 ((va_up (va_up (va_up (va_up wf (nW + 0) j0) (nW + 1) j1) (nW + 2) j2) (nW + 3) j3) (nW + 3)) = _; rw [va_up_self]; exact hjb3⟩
    rw [← hct] at hp6
    have hp7E : ∀ k, k < rf_sm f j → F7 (ms k) = some ((7, nO, k), fw_obj 5 [.ref (sa j k), .int (nI 0)]) := fun k hk => hkr7 _ _ _ (hp7 k (by omega)) (by simp)
    refine vx_ret ?_
    exact fw_iret hx hb hr hlk (Nat.le_of_ble_eq_true rfl) (Nat.le_of_ble_eq_true rfl) hw dX8_order_120 (⟨j, p9, qm, am, ms, al, aw3, (va_up (va_up (va_up (va_up wf (nW + 0) j0) (nW + 1) j1) (nW + 2) j2) (nW + 3) j3), hj, rfl, d4, rfl, by rw [hct]; exact hkr7 _ _ _ hp5 (by simp), hkr7 _ _ _ hp6 (by simp), hp7E, hLoE, by rw [hct]; exact hLw7, fun k hk => by rw [va_up_ne _ _ (show k ≠ nW + 3 by omega), va_up_ne _ _ (show k ≠ nW + 2 by omega), va_up_ne _ _ (show k ≠ nW + 1 by omega), va_up_ne _ _ (show k ≠ nW + 0 by omega)], hjE, hkp7⟩)
  · have d4 : ¬ nO < 12 := fun h9 => d4 ((nI_ltI (a := nO) (b := 12) (by omega) (by omega)).mpr h9)
    exact fw_throw (ik := 68) (is := 158) (ic := 72) hx hb hl9 hown (by decide +kernel) wd_282 wd_16 hT (fw_atS hT hcx) fw_otS hz hw (List.mem_of_getElem? (i := 11) rfl) (hl.1.trans hml.symm) dX8_order_18 dX8_order_21 dX8_order_22 dX8_order_24 dX8_order_27 hno ⟨Nat.le_of_ble_eq_true rfl, Nat.le_of_ble_eq_true rfl, Nat.le_of_ble_eq_true rfl, Nat.le_of_ble_eq_true rfl⟩ hlk (Or.inr ⟨rfl, rf_ix_of (by omega) hj, by omega⟩) (Nat.le_of_ble_eq_true rfl) (Nat.le_of_ble_eq_true rfl)
set_option maxHeartbeats 4000000 in
set_option maxRecDepth 100000 in
theorem c_X8_order_3 (l : Launch) (G : fw_G) (F : fw_F) (sz : Nat) (x lc lt lo lm lw dr : Nat) (tm : Int32) (ta sl fr : Nat → Nat) (sa : Nat → Nat → Nat) (f : mm_A) (nT : Nat) (ca : Nat → Nat) (nC al0 aw0 nO nW nJ : Nat) (oa wf : Nat → Nat) (t : Int32) (hl9 : l.stackTraces = false) (hX : cr_X F x lc lt lo lm lw dr tm) (hT1 : cr_t F lt ta nT) (hTr : cr_T F ta sl fr sa f nT) (hC : cr_C F lc ca f nC) (hLo : F lo = some ((1, 2, 0), fw_ls al0 nO oa)) (hnO : nO ≤ 12) (hLw : F lw = some ((1, 4, 0), fw_ls aw0 nW wf)) (hnW : nW ≤ 8 * nO) (htok : ∀ j, j < nT → rf_tok f j) (hct : ∀ j, j < nT → t = nI j → rf_sm f j = 3) : vx_Met l yX8_order (fw_ws yX8_order cX8_order 6 (some (.int))) { frames := 8, cells := 28, slots := 3166, locals := 194 } (va_Pc [.ref x, .int t] (fw_PreX G F sz)) (va_Qi (fun r F1 => ∃ j p q arr ms al aw wf1, j < nT ∧ t = nI j ∧ nO < 12 ∧ r = nI nO ∧ F1 p = some ((5, nO, 0), fw_obj 6 [.ref (ta j), .ref q, .int (nI (2 * rf_sm f j)), .int (-1), .int (nI 0)]) ∧ F1 q = some ((6, nO, 0), fw_ls arr (rf_sm f j) ms) ∧ (∀ k, k < rf_sm f j → F1 (ms k) = some ((7, nO, k), fw_obj 5 [.ref (sa j k), .int (nI 0)])) ∧ F1 lo = some ((1, 2, 0), fw_ls al (nO + 1) (va_up oa nO p)) ∧ F1 lw = some ((1, 4, 0), fw_ls aw (nW + 2 * rf_sm f j) wf1) ∧ (∀ k, k < nW → wf1 k = wf k) ∧ (∀ k, k < rf_sm f j → F1 (wf1 (nW + 2 * k)) = some ((8, nJ + 2 * k, 0), fw_obj 3 [.ref p, .int (f 9 (12 * j + 3 * k + 1)), .int (rf_cut f nC (f 9 (12 * j + 3 * k)) (f 9 (12 * j + 3 * k + 1)))]) ∧ F1 (wf1 (nW + 2 * k + 1)) = some ((8, nJ + 2 * k + 1, 0), fw_obj 3 [.ref p, .int (f 9 (12 * j + 3 * k + 2)), .int (rf_cut f nC (f 9 (12 * j + 3 * k)) (f 9 (12 * j + 3 * k + 2)))])) ∧ fw_kp F F1 (fun w => (w.2.1 = nO ∧ (w.1 = 5 ∨ w.1 = 6 ∨ w.1 = 7)) ∨ w = (1, 2, 0) ∨ w = (1, 4, 0))) (fw_B G (fw_W G F sz)) (fw_W G F sz)) (fw_xc G (fw_W G F sz) F (fun E => (E = "java/lang/IndexOutOfBoundsException" ∧ rf_ix t nT = false) ∨ (E = "java/lang/IllegalStateException" ∧ rf_ix t nT = true ∧ nO = 12))) 28 3166 (fw_W G F sz) := by
  refine fw_metX (lv := [(0, .ref x), (1, .int t)]) (by decide +kernel) (Nat.le_of_ble_eq_true rfl) rfl ?_
  intro A hA p e s m below meth c ls hx hb hml hown hT hr hlk hno hcx hz hsz hw hAn hl
  rw [← hA]
  have hown : s.vm.findClass RX8 = some m.cls := hown
  have C : CallFix p m c cX8_order 6 s _ fw_tb RX8 := ⟨hx, hb, hml, hown, hT⟩
  obtain ⟨hnt9, arr, hLt⟩ := hT1
  refine lv_aload_n hx hb dX8_order_0 rfl (lv_at hl 0 rfl) ?_
  refine lv_iload_n hx hb dX8_order_1 rfl (lv_at hl 1 rfl) ?_
  refine fw_xcallo (fw_xrunV (As := [.int t]) (rest := []) C hz hcx hw (c_X8_trainAt l G _ _ x lc lt lo lm lw dr tm arr nT ta t hl9 hX hLt hnt9 (fun i hi => ⟨_, _, (hTr i hi).1⟩)) (fw_cwV hT wd_412 yVX8_trainAt rfl rfl ⟨Nat.le_of_ble_eq_true rfl, Nat.le_of_ble_eq_true rfl⟩) (fw_rec hz hw hX (q := vwCl[9]) rfl) rfl hl.1 rfl (Nat.le_of_ble_eq_true rfl) dX8_order_2 ⟨Nat.le_of_ble_eq_true rfl, Nat.le_of_ble_eq_true rfl⟩) hw hno hlk (fun E h => Or.inl h) (Nat.le_of_ble_eq_true rfl) (Nat.le_of_ble_eq_true rfl) (fun r F1 H locs hw hp => ?_)
  obtain ⟨hp0, hp⟩ := hp
  rw [hp0] at hw
  refine W.widen (k := 1) (n := 6) (Nat.le_of_ble_eq_true rfl) (Nat.le_of_ble_eq_true rfl) ?_
  obtain ⟨j, hj, rfl, rfl⟩ := hp
  obtain ⟨hs1, ⟨ars, hs2⟩, hs3, hs4⟩ := hTr j hj
  have hct := hct j hj rfl
  refine lv_astore_n (lv' := [(2, .ref (ta j)), (0, .ref x), (1, .int (nI j))]) hx hb dX8_order_5 rfl hl (by decide) rfl (fun ls hl => ?_)
  refine lv_aload_n hx hb dX8_order_6 rfl (lv_at hl 1 rfl) ?_
  refine fw_get (v := .ref lo) hx hb hT fi_RX8 hown hz hw hX rfl 2 (by decide) (hT _ wd_177) (fun _ h9 => h9) rfl dX8_order_7 ?_
  refine fw_calli (fw_runV (As := []) (rest := []) C hz hw (c_Jx4a65c_size_8abf5 l G _ _ lo al0 nO (1, 2, 0) oa hLo) (fw_cwV hT wd_278 yVJx4a65c_size_8abf5 rfl rfl ⟨Nat.le_of_ble_eq_true rfl, Nat.le_of_ble_eq_true rfl⟩) (fw_recL hz hw hLo) rfl hl.1 rfl (Nat.le_of_ble_eq_true rfl) dX8_order_10 ⟨Nat.le_of_ble_eq_true rfl, Nat.le_of_ble_eq_true rfl⟩) hw (fun r F1 H locs hw hp => ?_)
  obtain ⟨hp0, hp⟩ := hp
  rw [hp0] at hw
  refine W.widen (k := 1) (n := 6) (Nat.le_of_ble_eq_true rfl) (Nat.le_of_ble_eq_true rfl) ?_
  subst hp
  refine lv_bipush (v := (nI 12)) hx hb dX8_order_13 (by decide) ?_
  refine lv_icmp_lt (tgt := 28) hx hb dX8_order_15 (by decide) (fun d4 => ?_) (fun d4 => ?_)
  · have d4 := (nI_ltI (a := nO) (b := 12) (by omega) (by omega)).mp d4
    rw [hct] at hs2 hs4
    refine fw_new (5, nO, 0) (ci := 6) (fs := [.null, .null, .int (nI 0), .int (nI 0), .int (nI 0)]) hx hb hT fi_RX5 tyX5 tyX5_ok hown (hT _ wd_433) (hT _ wd_434) (hT _ wd_22) hz hw hAn rfl (by intro j hj; rcases (show j = 0 ∨ j = 1 ∨ j = 2 ∨ j = 3 ∨ j = 4 by omega) with rfl | rfl | rfl | rfl | rfl <;> rfl) (Nat.le_of_ble_eq_true rfl) (Nat.le_of_ble_eq_true rfl) dX8_order_28 (fun p9 H hqp9 hw => ?_)
    refine W.widen (k := 2) (n := 11) (Nat.le_of_ble_eq_true rfl) (Nat.le_of_ble_eq_true rfl) ?_
    obtain ⟨W1, hFW1⟩ : ∃ z, z = va_up F p9 (some ((5, nO, 0), fw_obj 6 [.null, .null, .int (nI 0), .int (nI 0), .int (nI 0)])) := ⟨_, rfl⟩
    rw [← hFW1] at hw
    have k1_0 : W1 x = some ((50, 0, 0), fw_obj 9 [.ref lc, .ref lt, .ref lo, .ref lm, .ref lw, .ref dr, .int tm]) := by rw [hFW1]; exact fw_up_new hX hqp9
    have k1_1 : W1 (ta j) = some ((3, j, 0), fw_obj 8 [.ref (sl j), .ref (fr j), .int (f 10 j)]) := by rw [hFW1]; exact fw_up_new hs1 hqp9
    have k1_2 : W1 (sl j) = some ((13, j, 0), fw_ls ars 3 (sa j)) := by rw [hFW1]; exact fw_up_new hs2 hqp9
    have k1_3 : W1 (fr j) = some ((33, j, 0), fw_obj 2 [.long (lN (rf_P f j 2 / cr_g f j)), .long (lN (rf_P f j 1 / cr_g f j))]) := by rw [hFW1]; exact fw_up_new hs3 hqp9
    have k1_4 : W1 lo = some ((1, 2, 0), fw_ls al0 nO oa) := by rw [hFW1]; exact fw_up_new hLo hqp9
    have k1_s : W1 p9 = some ((5, nO, 0), fw_obj 6 [.null, .null, .int (nI 0), .int (nI 0), .int (nI 0)]) := by rw [hFW1]; exact fw_up_self
    have hkp1 : fw_kp F W1 (fun w => (w.2.1 = nO ∧ (w.1 = 5 ∨ w.1 = 6 ∨ w.1 = 7)) ∨ w = (1, 2, 0) ∨ w = (1, 4, 0)) := by rw [hFW1]; exact fw_kp.rf.new hqp9
    refine lv_dup hx hb dX8_order_31 rfl ?_
    refine lv_aload_n hx hb dX8_order_32 rfl (lv_at hl 0 rfl) ?_
    refine fw_callv (fw_runI (As := [.ref (ta j)]) (rest := [.ref p9]) C hz hw (c_X5_init_3 l G _ _ p9 (ta j) (sl j) (fr j) ars j nO (f 10 j) (sa j) (fun k => f 9 (12 * j + 3 * k)) (fun k => f 9 (12 * j + 3 * k + 1)) (fun k => f 9 (12 * j + 3 * k + 2)) k1_s (hkp1 _ _ _ hs1 (by simp)) (hkp1 _ _ _ hs2 (by simp)) (fun k hk => (hkp1 _ _ _ (hs4 k hk) (by simp)))) (fw_cwI hT wd_435 yIX5_init rfl rfl ⟨Nat.le_of_ble_eq_true rfl, Nat.le_of_ble_eq_true rfl⟩) rfl hl.1 rfl (Nat.le_of_ble_eq_true rfl) dX8_order_33 ⟨Nat.le_of_ble_eq_true rfl, Nat.le_of_ble_eq_true rfl⟩) hw (fun F2 H locs hw hp => ?_)
    refine W.widen (k := 9) (n := 740) (Nat.le_of_ble_eq_true rfl) (Nat.le_of_ble_eq_true rfl) ?_
    obtain ⟨qm, am, ms, hp5, hp6, hp7, hpk⟩ := hp
    have hkp2 : fw_kp F F2 (fun w => (w.2.1 = nO ∧ (w.1 = 5 ∨ w.1 = 6 ∨ w.1 = 7)) ∨ w = (1, 2, 0) ∨ w = (1, 4, 0)) := (hkp1.tr hpk).wk (fun t z => z.elim id Or.inl)
    have hX2 := hkp2 _ _ _ hX (by simp)
    have hLo2 := hpk _ _ _ (show W1 lo = some ((1, 2, 0), fw_ls al0 nO oa) from by rw [hFW1]; exact fw_up_new hLo hqp9) (by simp)
    have hLw2 := hpk _ _ _ (show W1 lw = some ((1, 4, 0), fw_ls aw0 nW wf) from by rw [hFW1]; exact fw_up_new hLw hqp9) (by simp)
    refine lv_astore_n (lv' := [(3, .ref p9), (2, .ref (ta j)), (0, .ref x), (1, .int (nI j))]) hx hb dX8_order_36 rfl hl (by decide) rfl (fun ls hl => ?_)
    refine lv_aload_n hx hb dX8_order_37 rfl (lv_at hl 2 rfl) ?_
    refine fw_get (v := .ref lo) hx hb hT fi_RX8 hown hz hw hX2 rfl 2 (by decide) (hT _ wd_177) (fun _ h9 => h9) rfl dX8_order_38 ?_
    refine lv_aload_n hx hb dX8_order_41 rfl (lv_at hl 0 rfl) ?_
    refine fw_calli (fw_runV (As := [.ref p9]) (rest := []) C hz hw (c_Jx4a65c_add_9ea2d l G _ _ lo al0 nO (1, 2, 0) oa p9 6 (5, nO, 0) _ (by decide) hLo2 (by omega) hp5) (fw_cwV hT wd_115 yVJx4a65c_add_9ea2d rfl rfl ⟨Nat.le_of_ble_eq_true rfl, Nat.le_of_ble_eq_true rfl⟩) (fw_recL hz hw hLo2) rfl hl.1 rfl (Nat.le_of_ble_eq_true rfl) dX8_order_42 ⟨Nat.le_of_ble_eq_true rfl, Nat.le_of_ble_eq_true rfl⟩) hw (fun r F3 H locs hw hp => ?_)
    refine W.widen (k := 10) (n := 980) (Nat.le_of_ble_eq_true rfl) (Nat.le_of_ble_eq_true rfl) ?_
    obtain ⟨rfl, al, hp⟩ := hp
    have hkq3 : fw_kp F2 F3 (fun w => w = (1, 2, 0)) := by rw [hp]; exact fw_kp.rf.up hLo2 rfl
    have hkp3 : fw_kp F F3 (fun w => (w.2.1 = nO ∧ (w.1 = 5 ∨ w.1 = 6 ∨ w.1 = 7)) ∨ w = (1, 2, 0) ∨ w = (1, 4, 0)) := (hkp2.tr hkq3).wk (fun t z => z.elim id (fun z => Or.inr (Or.inl z)))
    have hLo3 : F3 lo = some ((1, 2, 0), fw_ls al (nO + 1) (va_up oa nO p9)) := by rw [hp]; exact fw_up_self
    have hLw3 := hkq3 _ _ _ hLw2 (by simp)
    have hp5 := hkq3 _ _ _ hp5 (by simp)
    have hp6 := hkq3 _ _ _ hp6 (by simp)
    have hp7 := fun k hk => hkq3 _ _ _ (hp7 k hk) (by simp)
    have hkr3 : fw_kp F3 F3 (fun w => w = (1, 4, 0)) := fw_kp.rf
    have hX3 := hkp3 _ _ _ hX (by simp)
    have hs1_3 := hkp3 _ _ _ hs1 (by simp)
    have hs2_3 := hkp3 _ _ _ hs2 (by simp)
    have hs4_3 := hkp3 _ _ _ (hs4 0 (by decide)) (by simp)
    refine lv_pop hx hb dX8_order_45 rfl ?_
    refine lv_iconst (v := (nI 0)) hx hb dX8_order_46 (by decide) ?_
    refine lv_istore (lv' := [(4, .int (nI 0)), (3, .ref p9), (2, .ref (ta j)), (0, .ref x), (1, .int (nI j))]) hx hb dX8_order_47 hl (by decide) rfl (fun ls hl => ?_)
    refine lv_iload hx hb dX8_order_49 (lv_at hl 0 rfl) ?_
    refine lv_aload_n hx hb dX8_order_51 rfl (lv_at hl 2 rfl) ?_
    refine fw_get (v := .ref (sl j)) hx hb hT fi_RX7 hown hz hw hs1_3 rfl 0 (by decide) (hT _ wd_84) (fun _ h9 => h9) rfl dX8_order_52 ?_
    refine fw_calli (fw_runV (As := []) (rest := [.int (nI 0)]) C hz hw (c_Jx4a65c_size_8abf5 l G _ _ (sl j) ars 3 (13, j, 0) (sa j) hs2_3) (fw_cwV hT wd_278 yVJx4a65c_size_8abf5 rfl rfl ⟨Nat.le_of_ble_eq_true rfl, Nat.le_of_ble_eq_true rfl⟩) (fw_recL hz hw hs2_3) rfl hl.1 rfl (Nat.le_of_ble_eq_true rfl) dX8_order_55 ⟨Nat.le_of_ble_eq_true rfl, Nat.le_of_ble_eq_true rfl⟩) hw (fun r F1 H locs hw hp => ?_)
    obtain ⟨hp0, hp⟩ := hp
    rw [hp0] at hw
    refine W.widen (k := 10) (n := 980) (Nat.le_of_ble_eq_true rfl) (Nat.le_of_ble_eq_true rfl) ?_
    subst hp
    refine lv_icmp_ge (tgt := 111) hx hb dX8_order_58 (by decide) (fun cx => absurd cx (by decide)) (fun cx => ?_)
    refine lv_aload_n hx hb dX8_order_61 rfl (lv_at hl 2 rfl) ?_
    refine fw_get (v := .ref (sl j)) hx hb hT fi_RX7 hown hz hw hs1_3 rfl 0 (by decide) (hT _ wd_84) (fun _ h9 => h9) rfl dX8_order_62 ?_
    refine lv_iload hx hb dX8_order_65 (lv_at hl 0 rfl) ?_
    refine fw_callo (fw_runV (As := [.int (nI 0)]) (rest := []) C hz hw (c_Jx4a65c_get_915e3 l G _ _ (sl j) ars 3 (13, j, 0) (sa j) 0 hs2_3 (by decide) (by decide)) (fw_cwV hT wd_323 yVJx4a65c_get_915e3 rfl rfl ⟨Nat.le_of_ble_eq_true rfl, Nat.le_of_ble_eq_true rfl⟩) (fw_recL hz hw hs2_3) rfl hl.1 rfl (Nat.le_of_ble_eq_true rfl) dX8_order_67 ⟨Nat.le_of_ble_eq_true rfl, Nat.le_of_ble_eq_true rfl⟩) hw (fun r F1 H locs hw hp => ?_)
    obtain ⟨hp0, hp⟩ := hp
    rw [hp0] at hw
    refine W.widen (k := 10) (n := 980) (Nat.le_of_ble_eq_true rfl) (Nat.le_of_ble_eq_true rfl) ?_
    subst hp
    refine fw_cast hx hb hown hz hw hs4_3 (q := vwCl[7]) rfl (hT _ wd_347) dX8_order_70 ?_
    refine lv_astore (lv' := [(5, .ref (sa j 0)), (4, .int (nI 0)), (3, .ref p9), (2, .ref (ta j)), (0, .ref x), (1, .int (nI j))]) hx hb dX8_order_73 hl (by decide) rfl (fun ls hl => ?_)
    refine lv_aload_n hx hb dX8_order_75 rfl (lv_at hl 4 rfl) ?_
    refine lv_aload_n hx hb dX8_order_76 rfl (lv_at hl 2 rfl) ?_
    refine lv_aload hx hb dX8_order_77 (lv_at hl 0 rfl) ?_
    refine fw_get (v := .int (f 9 (12 * j + 3 * 0))) hx hb hT fi_RX6 hown hz hw hs4_3 rfl 0 (by decide) (hT _ wd_355) (fun _ h9 => h9) rfl dX8_order_79 ?_
    refine lv_aload hx hb dX8_order_82 (lv_at hl 0 rfl) ?_
    refine fw_get (v := .int (f 9 (12 * j + 3 * 0 + 1))) hx hb hT fi_RX6 hown hz hw hs4_3 rfl 1 (by decide) (hT _ wd_358) (fun _ h9 => h9) rfl dX8_order_84 ?_
    refine fw_callv (fw_runV (As := [.ref p9, .int (f 9 (12 * j + 3 * 0)), .int (f 9 (12 * j + 3 * 0 + 1))]) (rest := []) C hz hw (c_X8_queue l G _ _ x lc lt lo lm lw dr tm ca f nC p9 aw0 (nW + 0) (nJ + 0) wf (f 9 (12 * j + 3 * 0)) (f 9 (12 * j + 3 * 0 + 1)) hX3 (hC.kp hkp3 cl_PO) hLw3 (by omega)) (fw_cwV hT wd_482 yVX8_queue rfl rfl ⟨Nat.le_of_ble_eq_true rfl, Nat.le_of_ble_eq_true rfl⟩) (fw_rec hz hw hX3 (q := vwCl[9]) rfl) rfl hl.1 rfl (Nat.le_of_ble_eq_true rfl) dX8_order_87 ⟨Nat.le_of_ble_eq_true rfl, Nat.le_of_ble_eq_true rfl⟩) hw (fun F4 H locs hw hp => ?_)
    refine W.widen (k := 12) (n := 1223) (Nat.le_of_ble_eq_true rfl) (Nat.le_of_ble_eq_true rfl) ?_
    obtain ⟨j0, aw0, hqj0, hp⟩ := hp
    have hkq4 : fw_kp F3 F4 (fun w => w = (1, 4, 0)) := by rw [hp]; exact (fw_kp.rf.new hqj0).up (fw_up_new hLw3 hqj0) rfl
    have hLw4 : F4 lw = some ((1, 4, 0), fw_ls aw0 (nW + 1) (va_up wf (nW + 0) j0)) := by rw [hp]; exact fw_up_self
    have hjb0 : F4 j0 = some ((8, nJ + 0, 0), fw_obj 3 [.ref p9, .int (f 9 (12 * j + 3 * 0 + 1)), .int (rf_cut f nC (f 9 (12 * j + 3 * 0)) (f 9 (12 * j + 3 * 0 + 1)))]) := by rw [hp]; exact fw_up_tag fw_up_self (fw_up_new hLw3 hqj0) (by intro z; cases z)
    have hkp4 : fw_kp F F4 (fun w => (w.2.1 = nO ∧ (w.1 = 5 ∨ w.1 = 6 ∨ w.1 = 7)) ∨ w = (1, 2, 0) ∨ w = (1, 4, 0)) := (hkp3.tr hkq4).wk (fun t z => z.elim id (fun z => Or.inr (Or.inr z)))
    have hkr4 := hkr3.tr1 hkq4
    have hX4 := hkp4 _ _ _ hX (by simp)
    have hs1_4 := hkp4 _ _ _ hs1 (by simp)
    have hs2_4 := hkp4 _ _ _ hs2 (by simp)
    have hs4_4 := hkp4 _ _ _ (hs4 0 (by decide)) (by simp)
    refine lv_aload_n hx hb dX8_order_90 rfl (lv_at hl 4 rfl) ?_
    refine lv_aload_n hx hb dX8_order_91 rfl (lv_at hl 2 rfl) ?_
    refine lv_aload hx hb dX8_order_92 (lv_at hl 0 rfl) ?_
    refine fw_get (v := .int (f 9 (12 * j + 3 * 0))) hx hb hT fi_RX6 hown hz hw hs4_4 rfl 0 (by decide) (hT _ wd_355) (fun _ h9 => h9) rfl dX8_order_94 ?_
    refine lv_aload hx hb dX8_order_97 (lv_at hl 0 rfl) ?_
    refine fw_get (v := .int (f 9 (12 * j + 3 * 0 + 2))) hx hb hT fi_RX6 hown hz hw hs4_4 rfl 2 (by decide) (hT _ wd_361) (fun _ h9 => h9) rfl dX8_order_99 ?_
    refine fw_callv (fw_runV (As := [.ref p9, .int (f 9 (12 * j + 3 * 0)), .int (f 9 (12 * j + 3 * 0 + 2))]) (rest := []) C hz hw (c_X8_queue l G _ _ x lc lt lo lm lw dr tm ca f nC p9 aw0 (nW + 1) (nJ + 1) (va_up wf (nW + 0) j0) (f 9 (12 * j + 3 * 0)) (f 9 (12 * j + 3 * 0 + 2)) hX4 (hC.kp hkp4 cl_PO) hLw4 (by omega)) (fw_cwV hT wd_482 yVX8_queue rfl rfl ⟨Nat.le_of_ble_eq_true rfl, Nat.le_of_ble_eq_true rfl⟩) (fw_rec hz hw hX4 (q := vwCl[9]) rfl) rfl hl.1 rfl (Nat.le_of_ble_eq_true rfl) dX8_order_102 ⟨Nat.le_of_ble_eq_true rfl, Nat.le_of_ble_eq_true rfl⟩) hw (fun F5 H locs hw hp => ?_)
    refine W.widen (k := 14) (n := 1466) (Nat.le_of_ble_eq_true rfl) (Nat.le_of_ble_eq_true rfl) ?_
    obtain ⟨j1, aw1, hqj1, hp⟩ := hp
    have hkq5 : fw_kp F4 F5 (fun w => w = (1, 4, 0)) := by rw [hp]; exact (fw_kp.rf.new hqj1).up (fw_up_new hLw4 hqj1) rfl
    have hLw5 : F5 lw = some ((1, 4, 0), fw_ls aw1 (nW + 2) (va_up (va_up wf (nW + 0) j0) (nW + 1) j1)) := by rw [hp]; exact fw_up_self
    have hjb1 : F5 j1 = some ((8, nJ + 1, 0), fw_obj 3 [.ref p9, .int (f 9 (12 * j + 3 * 0 + 2)), .int (rf_cut f nC (f 9 (12 * j + 3 * 0)) (f 9 (12 * j + 3 * 0 + 2)))]) := by rw [hp]; exact fw_up_tag fw_up_self (fw_up_new hLw4 hqj1) (by intro z; cases z)
    have hjb0 := hkq5 _ _ _ hjb0 (by simp)
    have hkp5 : fw_kp F F5 (fun w => (w.2.1 = nO ∧ (w.1 = 5 ∨ w.1 = 6 ∨ w.1 = 7)) ∨ w = (1, 2, 0) ∨ w = (1, 4, 0)) := (hkp4.tr hkq5).wk (fun t z => z.elim id (fun z => Or.inr (Or.inr z)))
    have hkr5 := hkr4.tr1 hkq5
    have hX5 := hkp5 _ _ _ hX (by simp)
    have hs1_5 := hkp5 _ _ _ hs1 (by simp)
    have hs2_5 := hkp5 _ _ _ hs2 (by simp)
    have hs4_5 := hkp5 _ _ _ (hs4 1 (by decide)) (by simp)
    refine lv_iinc (v := (nI (0 + 1))) (lv' := [(4, .int (nI (0 + 1))), (5, .ref (sa j 0)), (3, .ref p9), (2, .ref (ta j)), (0, .ref x), (1, .int (nI j))]) hx hb dX8_order_105 hl (k := 1) rfl (nI_1 _) (by decide) rfl (fun ls hl => ?_)
    refine lv_goto (tgt := 49) hx hb dX8_order_108 (by decide) ?_
    refine lv_iload hx hb dX8_order_49 (lv_at hl 0 rfl) ?_
    refine lv_aload_n hx hb dX8_order_51 rfl (lv_at hl 3 rfl) ?_
    refine fw_get (v := .ref (sl j)) hx hb hT fi_RX7 hown hz hw hs1_5 rfl 0 (by decide) (hT _ wd_84) (fun _ h9 => h9) rfl dX8_order_52 ?_
    refine fw_calli (fw_runV (As := []) (rest := [.int (nI (0 + 1))]) C hz hw (c_Jx4a65c_size_8abf5 l G _ _ (sl j) ars 3 (13, j, 0) (sa j) hs2_5) (fw_cwV hT wd_278 yVJx4a65c_size_8abf5 rfl rfl ⟨Nat.le_of_ble_eq_true rfl, Nat.le_of_ble_eq_true rfl⟩) (fw_recL hz hw hs2_5) rfl hl.1 rfl (Nat.le_of_ble_eq_true rfl) dX8_order_55 ⟨Nat.le_of_ble_eq_true rfl, Nat.le_of_ble_eq_true rfl⟩) hw (fun r F1 H locs hw hp => ?_)
    obtain ⟨hp0, hp⟩ := hp
    rw [hp0] at hw
    refine W.widen (k := 14) (n := 1466) (Nat.le_of_ble_eq_true rfl) (Nat.le_of_ble_eq_true rfl) ?_
    subst hp
    refine lv_icmp_ge (tgt := 111) hx hb dX8_order_58 (by decide) (fun cx => absurd cx (by decide)) (fun cx => ?_)
    refine lv_aload_n hx hb dX8_order_61 rfl (lv_at hl 3 rfl) ?_
    refine fw_get (v := .ref (sl j)) hx hb hT fi_RX7 hown hz hw hs1_5 rfl 0 (by decide) (hT _ wd_84) (fun _ h9 => h9) rfl dX8_order_62 ?_
    refine lv_iload hx hb dX8_order_65 (lv_at hl 0 rfl) ?_
    refine fw_callo (fw_runV (As := [.int (nI (0 + 1))]) (rest := []) C hz hw (c_Jx4a65c_get_915e3 l G _ _ (sl j) ars 3 (13, j, 0) (sa j) 1 hs2_5 (by decide) (by decide)) (fw_cwV hT wd_323 yVJx4a65c_get_915e3 rfl rfl ⟨Nat.le_of_ble_eq_true rfl, Nat.le_of_ble_eq_true rfl⟩) (fw_recL hz hw hs2_5) rfl hl.1 rfl (Nat.le_of_ble_eq_true rfl) dX8_order_67 ⟨Nat.le_of_ble_eq_true rfl, Nat.le_of_ble_eq_true rfl⟩) hw (fun r F1 H locs hw hp => ?_)
    obtain ⟨hp0, hp⟩ := hp
    rw [hp0] at hw
    refine W.widen (k := 14) (n := 1466) (Nat.le_of_ble_eq_true rfl) (Nat.le_of_ble_eq_true rfl) ?_
    subst hp
    refine fw_cast hx hb hown hz hw hs4_5 (q := vwCl[7]) rfl (hT _ wd_347) dX8_order_70 ?_
    refine lv_astore (lv' := [(5, .ref (sa j 1)), (4, .int (nI (0 + 1))), (3, .ref p9), (2, .ref (ta j)), (0, .ref x), (1, .int (nI j))]) hx hb dX8_order_73 hl (by decide) rfl (fun ls hl => ?_)
    refine lv_aload_n hx hb dX8_order_75 rfl (lv_at hl 4 rfl) ?_
    refine lv_aload_n hx hb dX8_order_76 rfl (lv_at hl 2 rfl) ?_
    refine lv_aload hx hb dX8_order_77 (lv_at hl 0 rfl) ?_
    refine fw_get (v := .int (f 9 (12 * j + 3 * 1))) hx hb hT fi_RX6 hown hz hw hs4_5 rfl 0 (by decide) (hT _ wd_355) (fun _ h9 => h9) rfl dX8_order_79 ?_
    refine lv_aload hx hb dX8_order_82 (lv_at hl 0 rfl) ?_
    refine fw_get (v := .int (f 9 (12 * j + 3 * 1 + 1))) hx hb hT fi_RX6 hown hz hw hs4_5 rfl 1 (by decide) (hT _ wd_358) (fun _ h9 => h9) rfl dX8_order_84 ?_
    refine fw_callv (fw_runV (As := [.ref p9, .int (f 9 (12 * j + 3 * 1)), .int (f 9 (12 * j + 3 * 1 + 1))]) (rest := []) C hz hw (c_X8_queue l G _ _ x lc lt lo lm lw dr tm ca f nC p9 aw1 (nW + 2) (nJ + 2) (va_up (va_up wf (nW + 0) j0) (nW + 1) j1) (f 9 (12 * j + 3 * 1)) (f 9 (12 * j + 3 * 1 + 1)) hX5 (hC.kp hkp5 cl_PO) hLw5 (by omega)) (fw_cwV hT wd_482 yVX8_queue rfl rfl ⟨Nat.le_of_ble_eq_true rfl, Nat.le_of_ble_eq_true rfl⟩) (fw_rec hz hw hX5 (q := vwCl[9]) rfl) rfl hl.1 rfl (Nat.le_of_ble_eq_true rfl) dX8_order_87 ⟨Nat.le_of_ble_eq_true rfl, Nat.le_of_ble_eq_true rfl⟩) hw (fun F6 H locs hw hp => ?_)
    refine W.widen (k := 16) (n := 1709) (Nat.le_of_ble_eq_true rfl) (Nat.le_of_ble_eq_true rfl) ?_
    obtain ⟨j2, aw2, hqj2, hp⟩ := hp
    have hkq6 : fw_kp F5 F6 (fun w => w = (1, 4, 0)) := by rw [hp]; exact (fw_kp.rf.new hqj2).up (fw_up_new hLw5 hqj2) rfl
    have hLw6 : F6 lw = some ((1, 4, 0), fw_ls aw2 (nW + 3) (va_up (va_up (va_up wf (nW + 0) j0) (nW + 1) j1) (nW + 2) j2)) := by rw [hp]; exact fw_up_self
    have hjb2 : F6 j2 = some ((8, nJ + 2, 0), fw_obj 3 [.ref p9, .int (f 9 (12 * j + 3 * 1 + 1)), .int (rf_cut f nC (f 9 (12 * j + 3 * 1)) (f 9 (12 * j + 3 * 1 + 1)))]) := by rw [hp]; exact fw_up_tag fw_up_self (fw_up_new hLw5 hqj2) (by intro z; cases z)
    have hjb0 := hkq6 _ _ _ hjb0 (by simp)
    have hjb1 := hkq6 _ _ _ hjb1 (by simp)
    have hkp6 : fw_kp F F6 (fun w => (w.2.1 = nO ∧ (w.1 = 5 ∨ w.1 = 6 ∨ w.1 = 7)) ∨ w = (1, 2, 0) ∨ w = (1, 4, 0)) := (hkp5.tr hkq6).wk (fun t z => z.elim id (fun z => Or.inr (Or.inr z)))
    have hkr6 := hkr5.tr1 hkq6
    have hX6 := hkp6 _ _ _ hX (by simp)
    have hs1_6 := hkp6 _ _ _ hs1 (by simp)
    have hs2_6 := hkp6 _ _ _ hs2 (by simp)
    have hs4_6 := hkp6 _ _ _ (hs4 1 (by decide)) (by simp)
    refine lv_aload_n hx hb dX8_order_90 rfl (lv_at hl 4 rfl) ?_
    refine lv_aload_n hx hb dX8_order_91 rfl (lv_at hl 2 rfl) ?_
    refine lv_aload hx hb dX8_order_92 (lv_at hl 0 rfl) ?_
    refine fw_get (v := .int (f 9 (12 * j + 3 * 1))) hx hb hT fi_RX6 hown hz hw hs4_6 rfl 0 (by decide) (hT _ wd_355) (fun _ h9 => h9) rfl dX8_order_94 ?_
    refine lv_aload hx hb dX8_order_97 (lv_at hl 0 rfl) ?_
    refine fw_get (v := .int (f 9 (12 * j + 3 * 1 + 2))) hx hb hT fi_RX6 hown hz hw hs4_6 rfl 2 (by decide) (hT _ wd_361) (fun _ h9 => h9) rfl dX8_order_99 ?_
    refine fw_callv (fw_runV (As := [.ref p9, .int (f 9 (12 * j + 3 * 1)), .int (f 9 (12 * j + 3 * 1 + 2))]) (rest := []) C hz hw (c_X8_queue l G _ _ x lc lt lo lm lw dr tm ca f nC p9 aw2 (nW + 3) (nJ + 3) (va_up (va_up (va_up wf (nW + 0) j0) (nW + 1) j1) (nW + 2) j2) (f 9 (12 * j + 3 * 1)) (f 9 (12 * j + 3 * 1 + 2)) hX6 (hC.kp hkp6 cl_PO) hLw6 (by omega)) (fw_cwV hT wd_482 yVX8_queue rfl rfl ⟨Nat.le_of_ble_eq_true rfl, Nat.le_of_ble_eq_true rfl⟩) (fw_rec hz hw hX6 (q := vwCl[9]) rfl) rfl hl.1 rfl (Nat.le_of_ble_eq_true rfl) dX8_order_102 ⟨Nat.le_of_ble_eq_true rfl, Nat.le_of_ble_eq_true rfl⟩) hw (fun F7 H locs hw hp => ?_)
    refine W.widen (k := 18) (n := 1952) (Nat.le_of_ble_eq_true rfl) (Nat.le_of_ble_eq_true rfl) ?_
    obtain ⟨j3, aw3, hqj3, hp⟩ := hp
    have hkq7 : fw_kp F6 F7 (fun w => w = (1, 4, 0)) := by rw [hp]; exact (fw_kp.rf.new hqj3).up (fw_up_new hLw6 hqj3) rfl
    have hLw7 : F7 lw = some ((1, 4, 0), fw_ls aw3 (nW + 4) (va_up (va_up (va_up (va_up wf (nW + 0) j0) (nW + 1) j1) (nW + 2) j2) (nW + 3) j3)) := by rw [hp]; exact fw_up_self
    have hjb3 : F7 j3 = some ((8, nJ + 3, 0), fw_obj 3 [.ref p9, .int (f 9 (12 * j + 3 * 1 + 2)), .int (rf_cut f nC (f 9 (12 * j + 3 * 1)) (f 9 (12 * j + 3 * 1 + 2)))]) := by rw [hp]; exact fw_up_tag fw_up_self (fw_up_new hLw6 hqj3) (by intro z; cases z)
    have hjb0 := hkq7 _ _ _ hjb0 (by simp)
    have hjb1 := hkq7 _ _ _ hjb1 (by simp)
    have hjb2 := hkq7 _ _ _ hjb2 (by simp)
    have hkp7 : fw_kp F F7 (fun w => (w.2.1 = nO ∧ (w.1 = 5 ∨ w.1 = 6 ∨ w.1 = 7)) ∨ w = (1, 2, 0) ∨ w = (1, 4, 0)) := (hkp6.tr hkq7).wk (fun t z => z.elim id (fun z => Or.inr (Or.inr z)))
    have hkr7 := hkr6.tr1 hkq7
    have hX7 := hkp7 _ _ _ hX (by simp)
    have hs1_7 := hkp7 _ _ _ hs1 (by simp)
    have hs2_7 := hkp7 _ _ _ hs2 (by simp)
    have hs4_7 := hkp7 _ _ _ (hs4 2 (by decide)) (by simp)
    refine lv_iinc (v := (nI (0 + 1 + 1))) (lv' := [(4, .int (nI (0 + 1 + 1))), (5, .ref (sa j 1)), (3, .ref p9), (2, .ref (ta j)), (0, .ref x), (1, .int (nI j))]) hx hb dX8_order_105 hl (k := 1) rfl (nI_1 _) (by decide) rfl (fun ls hl => ?_)
    refine lv_goto (tgt := 49) hx hb dX8_order_108 (by decide) ?_
    refine lv_iload hx hb dX8_order_49 (lv_at hl 0 rfl) ?_
    refine lv_aload_n hx hb dX8_order_51 rfl (lv_at hl 3 rfl) ?_
    refine fw_get (v := .ref (sl j)) hx hb hT fi_RX7 hown hz hw hs1_7 rfl 0 (by decide) (hT _ wd_84) (fun _ h9 => h9) rfl dX8_order_52 ?_
    refine fw_calli (fw_runV (As := []) (rest := [.int (nI (0 + 1 + 1))]) C hz hw (c_Jx4a65c_size_8abf5 l G _ _ (sl j) ars 3 (13, j, 0) (sa j) hs2_7) (fw_cwV hT wd_278 yVJx4a65c_size_8abf5 rfl rfl ⟨Nat.le_of_ble_eq_true rfl, Nat.le_of_ble_eq_true rfl⟩) (fw_recL hz hw hs2_7) rfl hl.1 rfl (Nat.le_of_ble_eq_true rfl) dX8_order_55 ⟨Nat.le_of_ble_eq_true rfl, Nat.le_of_ble_eq_true rfl⟩) hw (fun r F1 H locs hw hp => ?_)
    obtain ⟨hp0, hp⟩ := hp
    rw [hp0] at hw
    refine W.widen (k := 18) (n := 1952) (Nat.le_of_ble_eq_true rfl) (Nat.le_of_ble_eq_true rfl) ?_
    subst hp
    refine lv_icmp_ge (tgt := 111) hx hb dX8_order_58 (by decide) (fun cx => absurd cx (by decide)) (fun cx => ?_)
    refine lv_aload_n hx hb dX8_order_61 rfl (lv_at hl 3 rfl) ?_
    refine fw_get (v := .ref (sl j)) hx hb hT fi_RX7 hown hz hw hs1_7 rfl 0 (by decide) (hT _ wd_84) (fun _ h9 => h9) rfl dX8_order_62 ?_
    refine lv_iload hx hb dX8_order_65 (lv_at hl 0 rfl) ?_
    refine fw_callo (fw_runV (As := [.int (nI (0 + 1 + 1))]) (rest := []) C hz hw (c_Jx4a65c_get_915e3 l G _ _ (sl j) ars 3 (13, j, 0) (sa j) 2 hs2_7 (by decide) (by decide)) (fw_cwV hT wd_323 yVJx4a65c_get_915e3 rfl rfl ⟨Nat.le_of_ble_eq_true rfl, Nat.le_of_ble_eq_true rfl⟩) (fw_recL hz hw hs2_7) rfl hl.1 rfl (Nat.le_of_ble_eq_true rfl) dX8_order_67 ⟨Nat.le_of_ble_eq_true rfl, Nat.le_of_ble_eq_true rfl⟩) hw (fun r F1 H locs hw hp => ?_)
    obtain ⟨hp0, hp⟩ := hp
    rw [hp0] at hw
    refine W.widen (k := 18) (n := 1952) (Nat.le_of_ble_eq_true rfl) (Nat.le_of_ble_eq_true rfl) ?_
    subst hp
    refine fw_cast hx hb hown hz hw hs4_7 (q := vwCl[7]) rfl (hT _ wd_347) dX8_order_70 ?_
    refine lv_astore (lv' := [(5, .ref (sa j 2)), (4, .int (nI (0 + 1 + 1))), (3, .ref p9), (2, .ref (ta j)), (0, .ref x), (1, .int (nI j))]) hx hb dX8_order_73 hl (by decide) rfl (fun ls hl => ?_)
    refine lv_aload_n hx hb dX8_order_75 rfl (lv_at hl 4 rfl) ?_
    refine lv_aload_n hx hb dX8_order_76 rfl (lv_at hl 2 rfl) ?_
    refine lv_aload hx hb dX8_order_77 (lv_at hl 0 rfl) ?_
    refine fw_get (v := .int (f 9 (12 * j + 3 * 2))) hx hb hT fi_RX6 hown hz hw hs4_7 rfl 0 (by decide) (hT _ wd_355) (fun _ h9 => h9) rfl dX8_order_79 ?_
    refine lv_aload hx hb dX8_order_82 (lv_at hl 0 rfl) ?_
    refine fw_get (v := .int (f 9 (12 * j + 3 * 2 + 1))) hx hb hT fi_RX6 hown hz hw hs4_7 rfl 1 (by decide) (hT _ wd_358) (fun _ h9 => h9) rfl dX8_order_84 ?_
    refine fw_callv (fw_runV (As := [.ref p9, .int (f 9 (12 * j + 3 * 2)), .int (f 9 (12 * j + 3 * 2 + 1))]) (rest := []) C hz hw (c_X8_queue l G _ _ x lc lt lo lm lw dr tm ca f nC p9 aw3 (nW + 4) (nJ + 4) (va_up (va_up (va_up (va_up wf (nW + 0) j0) (nW + 1) j1) (nW + 2) j2) (nW + 3) j3) (f 9 (12 * j + 3 * 2)) (f 9 (12 * j + 3 * 2 + 1)) hX7 (hC.kp hkp7 cl_PO) hLw7 (by omega)) (fw_cwV hT wd_482 yVX8_queue rfl rfl ⟨Nat.le_of_ble_eq_true rfl, Nat.le_of_ble_eq_true rfl⟩) (fw_rec hz hw hX7 (q := vwCl[9]) rfl) rfl hl.1 rfl (Nat.le_of_ble_eq_true rfl) dX8_order_87 ⟨Nat.le_of_ble_eq_true rfl, Nat.le_of_ble_eq_true rfl⟩) hw (fun F8 H locs hw hp => ?_)
    refine W.widen (k := 20) (n := 2195) (Nat.le_of_ble_eq_true rfl) (Nat.le_of_ble_eq_true rfl) ?_
    obtain ⟨j4, aw4, hqj4, hp⟩ := hp
    have hkq8 : fw_kp F7 F8 (fun w => w = (1, 4, 0)) := by rw [hp]; exact (fw_kp.rf.new hqj4).up (fw_up_new hLw7 hqj4) rfl
    have hLw8 : F8 lw = some ((1, 4, 0), fw_ls aw4 (nW + 5) (va_up (va_up (va_up (va_up (va_up wf (nW + 0) j0) (nW + 1) j1) (nW + 2) j2) (nW + 3) j3) (nW + 4) j4)) := by rw [hp]; exact fw_up_self
    have hjb4 : F8 j4 = some ((8, nJ + 4, 0), fw_obj 3 [.ref p9, .int (f 9 (12 * j + 3 * 2 + 1)), .int (rf_cut f nC (f 9 (12 * j + 3 * 2)) (f 9 (12 * j + 3 * 2 + 1)))]) := by rw [hp]; exact fw_up_tag fw_up_self (fw_up_new hLw7 hqj4) (by intro z; cases z)
    have hjb0 := hkq8 _ _ _ hjb0 (by simp)
    have hjb1 := hkq8 _ _ _ hjb1 (by simp)
    have hjb2 := hkq8 _ _ _ hjb2 (by simp)
    have hjb3 := hkq8 _ _ _ hjb3 (by simp)
    have hkp8 : fw_kp F F8 (fun w => (w.2.1 = nO ∧ (w.1 = 5 ∨ w.1 = 6 ∨ w.1 = 7)) ∨ w = (1, 2, 0) ∨ w = (1, 4, 0)) := (hkp7.tr hkq8).wk (fun t z => z.elim id (fun z => Or.inr (Or.inr z)))
    have hkr8 := hkr7.tr1 hkq8
    have hX8 := hkp8 _ _ _ hX (by simp)
    have hs1_8 := hkp8 _ _ _ hs1 (by simp)
    have hs2_8 := hkp8 _ _ _ hs2 (by simp)
    have hs4_8 := hkp8 _ _ _ (hs4 2 (by decide)) (by simp)
    refine lv_aload_n hx hb dX8_order_90 rfl (lv_at hl 4 rfl) ?_
    refine lv_aload_n hx hb dX8_order_91 rfl (lv_at hl 2 rfl) ?_
    refine lv_aload hx hb dX8_order_92 (lv_at hl 0 rfl) ?_
    refine fw_get (v := .int (f 9 (12 * j + 3 * 2))) hx hb hT fi_RX6 hown hz hw hs4_8 rfl 0 (by decide) (hT _ wd_355) (fun _ h9 => h9) rfl dX8_order_94 ?_
    refine lv_aload hx hb dX8_order_97 (lv_at hl 0 rfl) ?_
    refine fw_get (v := .int (f 9 (12 * j + 3 * 2 + 2))) hx hb hT fi_RX6 hown hz hw hs4_8 rfl 2 (by decide) (hT _ wd_361) (fun _ h9 => h9) rfl dX8_order_99 ?_
    refine fw_callv (fw_runV (As := [.ref p9, .int (f 9 (12 * j + 3 * 2)), .int (f 9 (12 * j + 3 * 2 + 2))]) (rest := []) C hz hw (c_X8_queue l G _ _ x lc lt lo lm lw dr tm ca f nC p9 aw4 (nW + 5) (nJ + 5) (va_up (va_up (va_up (va_up (va_up wf (nW + 0) j0) (nW + 1) j1) (nW + 2) j2) (nW + 3) j3) (nW + 4) j4) (f 9 (12 * j + 3 * 2)) (f 9 (12 * j + 3 * 2 + 2)) hX8 (hC.kp hkp8 cl_PO) hLw8 (by omega)) (fw_cwV hT wd_482 yVX8_queue rfl rfl ⟨Nat.le_of_ble_eq_true rfl, Nat.le_of_ble_eq_true rfl⟩) (fw_rec hz hw hX8 (q := vwCl[9]) rfl) rfl hl.1 rfl (Nat.le_of_ble_eq_true rfl) dX8_order_102 ⟨Nat.le_of_ble_eq_true rfl, Nat.le_of_ble_eq_true rfl⟩) hw (fun F9 H locs hw hp => ?_)
    refine W.widen (k := 22) (n := 2438) (Nat.le_of_ble_eq_true rfl) (Nat.le_of_ble_eq_true rfl) ?_
    obtain ⟨j5, aw5, hqj5, hp⟩ := hp
    have hkq9 : fw_kp F8 F9 (fun w => w = (1, 4, 0)) := by rw [hp]; exact (fw_kp.rf.new hqj5).up (fw_up_new hLw8 hqj5) rfl
    have hLw9 : F9 lw = some ((1, 4, 0), fw_ls aw5 (nW + 6) (va_up (va_up (va_up (va_up (va_up (va_up wf (nW + 0) j0) (nW + 1) j1) (nW + 2) j2) (nW + 3) j3) (nW + 4) j4) (nW + 5) j5)) := by rw [hp]; exact fw_up_self
    have hjb5 : F9 j5 = some ((8, nJ + 5, 0), fw_obj 3 [.ref p9, .int (f 9 (12 * j + 3 * 2 + 2)), .int (rf_cut f nC (f 9 (12 * j + 3 * 2)) (f 9 (12 * j + 3 * 2 + 2)))]) := by rw [hp]; exact fw_up_tag fw_up_self (fw_up_new hLw8 hqj5) (by intro z; cases z)
    have hjb0 := hkq9 _ _ _ hjb0 (by simp)
    have hjb1 := hkq9 _ _ _ hjb1 (by simp)
    have hjb2 := hkq9 _ _ _ hjb2 (by simp)
    have hjb3 := hkq9 _ _ _ hjb3 (by simp)
    have hjb4 := hkq9 _ _ _ hjb4 (by simp)
    have hkp9 : fw_kp F F9 (fun w => (w.2.1 = nO ∧ (w.1 = 5 ∨ w.1 = 6 ∨ w.1 = 7)) ∨ w = (1, 2, 0) ∨ w = (1, 4, 0)) := (hkp8.tr hkq9).wk (fun t z => z.elim id (fun z => Or.inr (Or.inr z)))
    have hkr9 := hkr8.tr1 hkq9
    have hX9 := hkp9 _ _ _ hX (by simp)
    have hs1_9 := hkp9 _ _ _ hs1 (by simp)
    have hs2_9 := hkp9 _ _ _ hs2 (by simp)
    refine lv_iinc (v := (nI (0 + 1 + 1 + 1))) (lv' := [(4, .int (nI (0 + 1 + 1 + 1))), (5, .ref (sa j 2)), (3, .ref p9), (2, .ref (ta j)), (0, .ref x), (1, .int (nI j))]) hx hb dX8_order_105 hl (k := 1) rfl (nI_1 _) (by decide) rfl (fun ls hl => ?_)
    refine lv_goto (tgt := 49) hx hb dX8_order_108 (by decide) ?_
    refine lv_iload hx hb dX8_order_49 (lv_at hl 0 rfl) ?_
    refine lv_aload_n hx hb dX8_order_51 rfl (lv_at hl 3 rfl) ?_
    refine fw_get (v := .ref (sl j)) hx hb hT fi_RX7 hown hz hw hs1_9 rfl 0 (by decide) (hT _ wd_84) (fun _ h9 => h9) rfl dX8_order_52 ?_
    refine fw_calli (fw_runV (As := []) (rest := [.int (nI (0 + 1 + 1 + 1))]) C hz hw (c_Jx4a65c_size_8abf5 l G _ _ (sl j) ars 3 (13, j, 0) (sa j) hs2_9) (fw_cwV hT wd_278 yVJx4a65c_size_8abf5 rfl rfl ⟨Nat.le_of_ble_eq_true rfl, Nat.le_of_ble_eq_true rfl⟩) (fw_recL hz hw hs2_9) rfl hl.1 rfl (Nat.le_of_ble_eq_true rfl) dX8_order_55 ⟨Nat.le_of_ble_eq_true rfl, Nat.le_of_ble_eq_true rfl⟩) hw (fun r F1 H locs hw hp => ?_)
    obtain ⟨hp0, hp⟩ := hp
    rw [hp0] at hw
    refine W.widen (k := 22) (n := 2438) (Nat.le_of_ble_eq_true rfl) (Nat.le_of_ble_eq_true rfl) ?_
    subst hp
    refine lv_icmp_ge (tgt := 111) hx hb dX8_order_58 (by decide) (fun cx => ?_) (fun cx => absurd cx (by decide))
    refine lv_aload_n hx hb dX8_order_111 rfl (lv_at hl 4 rfl) ?_
    refine fw_get (v := .ref lo) hx hb hT fi_RX8 hown hz hw hX9 rfl 2 (by decide) (hT _ wd_177) (fun _ h9 => h9) rfl dX8_order_112 ?_
    have hLoE := hkr9 _ _ _ hLo3 (by simp)
    refine fw_calli (fw_runV (As := []) (rest := []) C hz hw (c_Jx4a65c_size_8abf5 l G _ _ lo al (nO + 1) (1, 2, 0) _ hLoE) (fw_cwV hT wd_278 yVJx4a65c_size_8abf5 rfl rfl ⟨Nat.le_of_ble_eq_true rfl, Nat.le_of_ble_eq_true rfl⟩) (fw_recL hz hw hLoE) rfl hl.1 rfl (Nat.le_of_ble_eq_true rfl) dX8_order_115 ⟨Nat.le_of_ble_eq_true rfl, Nat.le_of_ble_eq_true rfl⟩) hw (fun r F1 H locs hw hp => ?_)
    obtain ⟨hp0, hp⟩ := hp
    rw [hp0] at hw
    refine W.widen (k := 22) (n := 2438) (Nat.le_of_ble_eq_true rfl) (Nat.le_of_ble_eq_true rfl) ?_
    subst hp
    refine lv_iconst (v := (nI 1)) hx hb dX8_order_118 (by decide) ?_
    refine lv_isub hx hb dX8_order_119 ?_
    refine fw_top (pk_sub (by omega)) ?_
    refine fw_top (x' := (nI nO)) (by rw [Nat.add_sub_cancel]) ?_
    have hjE : ∀ k, k < rf_sm f j → F9 ((va_up (va_up (va_up (va_up (va_up (va_up wf (nW + 0) j0) (nW + 1) j1) (nW + 2) j2) (nW + 3) j3) (nW + 4) j4) (nW + 5) j5) (nW + 2 * k)) = some ((8, nJ + 2 * k, 0), fw_obj 3 [.ref p9, .int (f 9 (12 * j + 3 * k + 1)), .int (rf_cut f nC (f 9 (12 * j + 3 * k)) (f 9 (12 * j + 3 * k + 1)))]) ∧ F9 ((va_up (va_up (va_up (va_up (va_up (va_up wf (nW + 0) j0) (nW + 1) j1) (nW + 2) j2) (nW + 3) j3) (nW + 4) j4) (nW + 5) j5) (nW + 2 * k + 1)) = some ((8, nJ + 2 * k + 1, 0), fw_obj 3 [.ref p9, .int (f 9 (12 * j + 3 * k + 2)), .int (rf_cut f nC (f 9 (12 * j + 3 * k)) (f 9 (12 * j + 3 * k + 2)))]) := fun k hk => by
        rcases (show k = 0 ∨ k = 1 ∨ k = 2 by omega) with rfl | rfl | rfl
        · exact ⟨by show F9 ((va_up (va_up (va_up (va_up (va_up (va_up wf (nW + 0) j0) (nW + 1) j1) (nW + 2) j2) (nW + 3) j3) (nW + 4) j4) (nW + 5) j5) (nW + 0)) = _; rw [va_up_ne _ _ (show nW + 0 ≠ nW + 5 by omega), va_up_ne _ _ (show nW + 0 ≠ nW + 4 by omega), va_up_ne _ _ (show nW + 0 ≠ nW + 3 by omega), va_up_ne _ _ (show nW + 0 ≠ nW + 2 by omega), va_up_ne _ _ (show nW + 0 ≠ nW + 1 by omega), va_up_self]; exact hjb0, by show F9 ((va_up (va_up (va_up (va_up (va_up (va_up wf (nW + 0) j0) (nW + 1) j1) (nW + 2) j2) (nW + 3) j3) (nW + 4) j4) (nW + 5) j5) (nW + 1)) = _; rw [va_up_ne _ _ (show nW + 1 ≠ nW + 5 by omega), va_up_ne _ _ (show nW + 1 ≠ nW + 4 by omega), va_up_ne _ _ (show nW + 1 ≠ nW + 3 by omega), va_up_ne _ _ (show nW + 1 ≠ nW + 2 by omega), va_up_self]; exact hjb1⟩
        · exact ⟨by show F9 ((va_up (va_up (va_up (va_up (va_up (va_up wf (nW + 0) j0) (nW + 1) j1) (nW + 2) j2) (nW + 3) j3) (nW + 4) j4) (nW + 5) j5) (nW + 2)) = _; rw [va_up_ne _ _ (show nW + 2 ≠ nW + 5 by omega), va_up_ne _ _ (show nW + 2 ≠ nW + 4 by omega), va_up_ne _ _ (show nW + 2 ≠ nW + 3 by omega), va_up_self]; exact hjb2, by show F9 ((va_up (va_up (va_up (va_up (va_up (va_up wf (nW + 0) j0) (nW + 1) j1) (nW + 2) j2) (nW + 3) j3) (nW + 4) j4) (nW + 5) j5) (nW + 3)) = _; rw [va_up_ne _ _ (show nW + 3 ≠ nW + 5 by omega), va_up_ne _ _ (show nW + 3 ≠ nW + 4 by omega), va_up_self]; exact hjb3⟩
        · exact ⟨by show F9 ((va_up (va_up (va_up (va_up (va_up (va_up wf (nW + 0) j0) (nW + 1) j1) (nW + 2) j2) (nW + 3) j3) (nW + 4) j4) (nW + 5) j5) (nW + 4)) = _; rw [va_up_ne _ _ (show nW + 4 ≠ nW + 5 by omega), va_up_self]; exact hjb4, by show F9 ((va_up (va_up (va_up (va_up (va_up (va_up wf (nW + 0) j0) (nW + 1) j1) (nW + 2) j2) (nW + 3) j3) (nW + 4) j4) (nW + 5) j5) (nW + 5)) = _; rw [va_up_self]; exact hjb5⟩
    rw [← hct] at hp6
    have hp7E : ∀ k, k < rf_sm f j → F9 (ms k) = some ((7, nO, k), fw_obj 5 [.ref (sa j k), .int (nI 0)]) := fun k hk => hkr9 _ _ _ (hp7 k (by omega)) (by simp)
    refine vx_ret ?_
    exact fw_iret hx hb hr hlk (Nat.le_of_ble_eq_true rfl) (Nat.le_of_ble_eq_true rfl) hw dX8_order_120 (⟨j, p9, qm, am, ms, al, aw5, (va_up (va_up (va_up (va_up (va_up (va_up wf (nW + 0) j0) (nW + 1) j1) (nW + 2) j2) (nW + 3) j3) (nW + 4) j4) (nW + 5) j5), hj, rfl, d4, rfl, by rw [hct]; exact hkr9 _ _ _ hp5 (by simp), hkr9 _ _ _ hp6 (by simp), hp7E, hLoE, by rw [hct]; exact hLw9, fun k hk => by rw [va_up_ne _ _ (show k ≠ nW + 5 by omega), va_up_ne _ _ (show k ≠ nW + 4 by omega), va_up_ne _ _ (show k ≠ nW + 3 by omega), va_up_ne _ _ (show k ≠ nW + 2 by omega), va_up_ne _ _ (show k ≠ nW + 1 by omega), va_up_ne _ _ (show k ≠ nW + 0 by omega)], hjE, hkp9⟩)
  · have d4 : ¬ nO < 12 := fun h9 => d4 ((nI_ltI (a := nO) (b := 12) (by omega) (by omega)).mpr h9)
    exact fw_throw (ik := 68) (is := 158) (ic := 72) hx hb hl9 hown (by decide +kernel) wd_282 wd_16 hT (fw_atS hT hcx) fw_otS hz hw (List.mem_of_getElem? (i := 11) rfl) (hl.1.trans hml.symm) dX8_order_18 dX8_order_21 dX8_order_22 dX8_order_24 dX8_order_27 hno ⟨Nat.le_of_ble_eq_true rfl, Nat.le_of_ble_eq_true rfl, Nat.le_of_ble_eq_true rfl, Nat.le_of_ble_eq_true rfl⟩ hlk (Or.inr ⟨rfl, rf_ix_of (by omega) hj, by omega⟩) (Nat.le_of_ble_eq_true rfl) (Nat.le_of_ble_eq_true rfl)
set_option maxHeartbeats 4000000 in
set_option maxRecDepth 100000 in
theorem c_X8_order_4 (l : Launch) (G : fw_G) (F : fw_F) (sz : Nat) (x lc lt lo lm lw dr : Nat) (tm : Int32) (ta sl fr : Nat → Nat) (sa : Nat → Nat → Nat) (f : mm_A) (nT : Nat) (ca : Nat → Nat) (nC al0 aw0 nO nW nJ : Nat) (oa wf : Nat → Nat) (t : Int32) (hl9 : l.stackTraces = false) (hX : cr_X F x lc lt lo lm lw dr tm) (hT1 : cr_t F lt ta nT) (hTr : cr_T F ta sl fr sa f nT) (hC : cr_C F lc ca f nC) (hLo : F lo = some ((1, 2, 0), fw_ls al0 nO oa)) (hnO : nO ≤ 12) (hLw : F lw = some ((1, 4, 0), fw_ls aw0 nW wf)) (hnW : nW ≤ 8 * nO) (htok : ∀ j, j < nT → rf_tok f j) (hct : ∀ j, j < nT → t = nI j → rf_sm f j = 4) : vx_Met l yX8_order (fw_ws yX8_order cX8_order 6 (some (.int))) { frames := 8, cells := 28, slots := 3166, locals := 194 } (va_Pc [.ref x, .int t] (fw_PreX G F sz)) (va_Qi (fun r F1 => ∃ j p q arr ms al aw wf1, j < nT ∧ t = nI j ∧ nO < 12 ∧ r = nI nO ∧ F1 p = some ((5, nO, 0), fw_obj 6 [.ref (ta j), .ref q, .int (nI (2 * rf_sm f j)), .int (-1), .int (nI 0)]) ∧ F1 q = some ((6, nO, 0), fw_ls arr (rf_sm f j) ms) ∧ (∀ k, k < rf_sm f j → F1 (ms k) = some ((7, nO, k), fw_obj 5 [.ref (sa j k), .int (nI 0)])) ∧ F1 lo = some ((1, 2, 0), fw_ls al (nO + 1) (va_up oa nO p)) ∧ F1 lw = some ((1, 4, 0), fw_ls aw (nW + 2 * rf_sm f j) wf1) ∧ (∀ k, k < nW → wf1 k = wf k) ∧ (∀ k, k < rf_sm f j → F1 (wf1 (nW + 2 * k)) = some ((8, nJ + 2 * k, 0), fw_obj 3 [.ref p, .int (f 9 (12 * j + 3 * k + 1)), .int (rf_cut f nC (f 9 (12 * j + 3 * k)) (f 9 (12 * j + 3 * k + 1)))]) ∧ F1 (wf1 (nW + 2 * k + 1)) = some ((8, nJ + 2 * k + 1, 0), fw_obj 3 [.ref p, .int (f 9 (12 * j + 3 * k + 2)), .int (rf_cut f nC (f 9 (12 * j + 3 * k)) (f 9 (12 * j + 3 * k + 2)))])) ∧ fw_kp F F1 (fun w => (w.2.1 = nO ∧ (w.1 = 5 ∨ w.1 = 6 ∨ w.1 = 7)) ∨ w = (1, 2, 0) ∨ w = (1, 4, 0))) (fw_B G (fw_W G F sz)) (fw_W G F sz)) (fw_xc G (fw_W G F sz) F (fun E => (E = "java/lang/IndexOutOfBoundsException" ∧ rf_ix t nT = false) ∨ (E = "java/lang/IllegalStateException" ∧ rf_ix t nT = true ∧ nO = 12))) 28 3166 (fw_W G F sz) := by
  refine fw_metX (lv := [(0, .ref x), (1, .int t)]) (by decide +kernel) (Nat.le_of_ble_eq_true rfl) rfl ?_
  intro A hA p e s m below meth c ls hx hb hml hown hT hr hlk hno hcx hz hsz hw hAn hl
  rw [← hA]
  have hown : s.vm.findClass RX8 = some m.cls := hown
  have C : CallFix p m c cX8_order 6 s _ fw_tb RX8 := ⟨hx, hb, hml, hown, hT⟩
  obtain ⟨hnt9, arr, hLt⟩ := hT1
  refine lv_aload_n hx hb dX8_order_0 rfl (lv_at hl 0 rfl) ?_
  refine lv_iload_n hx hb dX8_order_1 rfl (lv_at hl 1 rfl) ?_
  refine fw_xcallo (fw_xrunV (As := [.int t]) (rest := []) C hz hcx hw (c_X8_trainAt l G _ _ x lc lt lo lm lw dr tm arr nT ta t hl9 hX hLt hnt9 (fun i hi => ⟨_, _, (hTr i hi).1⟩)) (fw_cwV hT wd_412 yVX8_trainAt rfl rfl ⟨Nat.le_of_ble_eq_true rfl, Nat.le_of_ble_eq_true rfl⟩) (fw_rec hz hw hX (q := vwCl[9]) rfl) rfl hl.1 rfl (Nat.le_of_ble_eq_true rfl) dX8_order_2 ⟨Nat.le_of_ble_eq_true rfl, Nat.le_of_ble_eq_true rfl⟩) hw hno hlk (fun E h => Or.inl h) (Nat.le_of_ble_eq_true rfl) (Nat.le_of_ble_eq_true rfl) (fun r F1 H locs hw hp => ?_)
  obtain ⟨hp0, hp⟩ := hp
  rw [hp0] at hw
  refine W.widen (k := 1) (n := 6) (Nat.le_of_ble_eq_true rfl) (Nat.le_of_ble_eq_true rfl) ?_
  obtain ⟨j, hj, rfl, rfl⟩ := hp
  obtain ⟨hs1, ⟨ars, hs2⟩, hs3, hs4⟩ := hTr j hj
  have hct := hct j hj rfl
  refine lv_astore_n (lv' := [(2, .ref (ta j)), (0, .ref x), (1, .int (nI j))]) hx hb dX8_order_5 rfl hl (by decide) rfl (fun ls hl => ?_)
  refine lv_aload_n hx hb dX8_order_6 rfl (lv_at hl 1 rfl) ?_
  refine fw_get (v := .ref lo) hx hb hT fi_RX8 hown hz hw hX rfl 2 (by decide) (hT _ wd_177) (fun _ h9 => h9) rfl dX8_order_7 ?_
  refine fw_calli (fw_runV (As := []) (rest := []) C hz hw (c_Jx4a65c_size_8abf5 l G _ _ lo al0 nO (1, 2, 0) oa hLo) (fw_cwV hT wd_278 yVJx4a65c_size_8abf5 rfl rfl ⟨Nat.le_of_ble_eq_true rfl, Nat.le_of_ble_eq_true rfl⟩) (fw_recL hz hw hLo) rfl hl.1 rfl (Nat.le_of_ble_eq_true rfl) dX8_order_10 ⟨Nat.le_of_ble_eq_true rfl, Nat.le_of_ble_eq_true rfl⟩) hw (fun r F1 H locs hw hp => ?_)
  obtain ⟨hp0, hp⟩ := hp
  rw [hp0] at hw
  refine W.widen (k := 1) (n := 6) (Nat.le_of_ble_eq_true rfl) (Nat.le_of_ble_eq_true rfl) ?_
  subst hp
  refine lv_bipush (v := (nI 12)) hx hb dX8_order_13 (by decide) ?_
  refine lv_icmp_lt (tgt := 28) hx hb dX8_order_15 (by decide) (fun d4 => ?_) (fun d4 => ?_)
  · have d4 := (nI_ltI (a := nO) (b := 12) (by omega) (by omega)).mp d4
    rw [hct] at hs2 hs4
    refine fw_new (5, nO, 0) (ci := 6) (fs := [.null, .null, .int (nI 0), .int (nI 0), .int (nI 0)]) hx hb hT fi_RX5 tyX5 tyX5_ok hown (hT _ wd_433) (hT _ wd_434) (hT _ wd_22) hz hw hAn rfl (by intro j hj; rcases (show j = 0 ∨ j = 1 ∨ j = 2 ∨ j = 3 ∨ j = 4 by omega) with rfl | rfl | rfl | rfl | rfl <;> rfl) (Nat.le_of_ble_eq_true rfl) (Nat.le_of_ble_eq_true rfl) dX8_order_28 (fun p9 H hqp9 hw => ?_)
    refine W.widen (k := 2) (n := 11) (Nat.le_of_ble_eq_true rfl) (Nat.le_of_ble_eq_true rfl) ?_
    obtain ⟨W1, hFW1⟩ : ∃ z, z = va_up F p9 (some ((5, nO, 0), fw_obj 6 [.null, .null, .int (nI 0), .int (nI 0), .int (nI 0)])) := ⟨_, rfl⟩
    rw [← hFW1] at hw
    have k1_0 : W1 x = some ((50, 0, 0), fw_obj 9 [.ref lc, .ref lt, .ref lo, .ref lm, .ref lw, .ref dr, .int tm]) := by rw [hFW1]; exact fw_up_new hX hqp9
    have k1_1 : W1 (ta j) = some ((3, j, 0), fw_obj 8 [.ref (sl j), .ref (fr j), .int (f 10 j)]) := by rw [hFW1]; exact fw_up_new hs1 hqp9
    have k1_2 : W1 (sl j) = some ((13, j, 0), fw_ls ars 4 (sa j)) := by rw [hFW1]; exact fw_up_new hs2 hqp9
    have k1_3 : W1 (fr j) = some ((33, j, 0), fw_obj 2 [.long (lN (rf_P f j 2 / cr_g f j)), .long (lN (rf_P f j 1 / cr_g f j))]) := by rw [hFW1]; exact fw_up_new hs3 hqp9
    have k1_4 : W1 lo = some ((1, 2, 0), fw_ls al0 nO oa) := by rw [hFW1]; exact fw_up_new hLo hqp9
    have k1_s : W1 p9 = some ((5, nO, 0), fw_obj 6 [.null, .null, .int (nI 0), .int (nI 0), .int (nI 0)]) := by rw [hFW1]; exact fw_up_self
    have hkp1 : fw_kp F W1 (fun w => (w.2.1 = nO ∧ (w.1 = 5 ∨ w.1 = 6 ∨ w.1 = 7)) ∨ w = (1, 2, 0) ∨ w = (1, 4, 0)) := by rw [hFW1]; exact fw_kp.rf.new hqp9
    refine lv_dup hx hb dX8_order_31 rfl ?_
    refine lv_aload_n hx hb dX8_order_32 rfl (lv_at hl 0 rfl) ?_
    refine fw_callv (fw_runI (As := [.ref (ta j)]) (rest := [.ref p9]) C hz hw (c_X5_init_4 l G _ _ p9 (ta j) (sl j) (fr j) ars j nO (f 10 j) (sa j) (fun k => f 9 (12 * j + 3 * k)) (fun k => f 9 (12 * j + 3 * k + 1)) (fun k => f 9 (12 * j + 3 * k + 2)) k1_s (hkp1 _ _ _ hs1 (by simp)) (hkp1 _ _ _ hs2 (by simp)) (fun k hk => (hkp1 _ _ _ (hs4 k hk) (by simp)))) (fw_cwI hT wd_435 yIX5_init rfl rfl ⟨Nat.le_of_ble_eq_true rfl, Nat.le_of_ble_eq_true rfl⟩) rfl hl.1 rfl (Nat.le_of_ble_eq_true rfl) dX8_order_33 ⟨Nat.le_of_ble_eq_true rfl, Nat.le_of_ble_eq_true rfl⟩) hw (fun F2 H locs hw hp => ?_)
    refine W.widen (k := 11) (n := 982) (Nat.le_of_ble_eq_true rfl) (Nat.le_of_ble_eq_true rfl) ?_
    obtain ⟨qm, am, ms, hp5, hp6, hp7, hpk⟩ := hp
    have hkp2 : fw_kp F F2 (fun w => (w.2.1 = nO ∧ (w.1 = 5 ∨ w.1 = 6 ∨ w.1 = 7)) ∨ w = (1, 2, 0) ∨ w = (1, 4, 0)) := (hkp1.tr hpk).wk (fun t z => z.elim id Or.inl)
    have hX2 := hkp2 _ _ _ hX (by simp)
    have hLo2 := hpk _ _ _ (show W1 lo = some ((1, 2, 0), fw_ls al0 nO oa) from by rw [hFW1]; exact fw_up_new hLo hqp9) (by simp)
    have hLw2 := hpk _ _ _ (show W1 lw = some ((1, 4, 0), fw_ls aw0 nW wf) from by rw [hFW1]; exact fw_up_new hLw hqp9) (by simp)
    refine lv_astore_n (lv' := [(3, .ref p9), (2, .ref (ta j)), (0, .ref x), (1, .int (nI j))]) hx hb dX8_order_36 rfl hl (by decide) rfl (fun ls hl => ?_)
    refine lv_aload_n hx hb dX8_order_37 rfl (lv_at hl 2 rfl) ?_
    refine fw_get (v := .ref lo) hx hb hT fi_RX8 hown hz hw hX2 rfl 2 (by decide) (hT _ wd_177) (fun _ h9 => h9) rfl dX8_order_38 ?_
    refine lv_aload_n hx hb dX8_order_41 rfl (lv_at hl 0 rfl) ?_
    refine fw_calli (fw_runV (As := [.ref p9]) (rest := []) C hz hw (c_Jx4a65c_add_9ea2d l G _ _ lo al0 nO (1, 2, 0) oa p9 6 (5, nO, 0) _ (by decide) hLo2 (by omega) hp5) (fw_cwV hT wd_115 yVJx4a65c_add_9ea2d rfl rfl ⟨Nat.le_of_ble_eq_true rfl, Nat.le_of_ble_eq_true rfl⟩) (fw_recL hz hw hLo2) rfl hl.1 rfl (Nat.le_of_ble_eq_true rfl) dX8_order_42 ⟨Nat.le_of_ble_eq_true rfl, Nat.le_of_ble_eq_true rfl⟩) hw (fun r F3 H locs hw hp => ?_)
    refine W.widen (k := 12) (n := 1222) (Nat.le_of_ble_eq_true rfl) (Nat.le_of_ble_eq_true rfl) ?_
    obtain ⟨rfl, al, hp⟩ := hp
    have hkq3 : fw_kp F2 F3 (fun w => w = (1, 2, 0)) := by rw [hp]; exact fw_kp.rf.up hLo2 rfl
    have hkp3 : fw_kp F F3 (fun w => (w.2.1 = nO ∧ (w.1 = 5 ∨ w.1 = 6 ∨ w.1 = 7)) ∨ w = (1, 2, 0) ∨ w = (1, 4, 0)) := (hkp2.tr hkq3).wk (fun t z => z.elim id (fun z => Or.inr (Or.inl z)))
    have hLo3 : F3 lo = some ((1, 2, 0), fw_ls al (nO + 1) (va_up oa nO p9)) := by rw [hp]; exact fw_up_self
    have hLw3 := hkq3 _ _ _ hLw2 (by simp)
    have hp5 := hkq3 _ _ _ hp5 (by simp)
    have hp6 := hkq3 _ _ _ hp6 (by simp)
    have hp7 := fun k hk => hkq3 _ _ _ (hp7 k hk) (by simp)
    have hkr3 : fw_kp F3 F3 (fun w => w = (1, 4, 0)) := fw_kp.rf
    have hX3 := hkp3 _ _ _ hX (by simp)
    have hs1_3 := hkp3 _ _ _ hs1 (by simp)
    have hs2_3 := hkp3 _ _ _ hs2 (by simp)
    have hs4_3 := hkp3 _ _ _ (hs4 0 (by decide)) (by simp)
    refine lv_pop hx hb dX8_order_45 rfl ?_
    refine lv_iconst (v := (nI 0)) hx hb dX8_order_46 (by decide) ?_
    refine lv_istore (lv' := [(4, .int (nI 0)), (3, .ref p9), (2, .ref (ta j)), (0, .ref x), (1, .int (nI j))]) hx hb dX8_order_47 hl (by decide) rfl (fun ls hl => ?_)
    refine lv_iload hx hb dX8_order_49 (lv_at hl 0 rfl) ?_
    refine lv_aload_n hx hb dX8_order_51 rfl (lv_at hl 2 rfl) ?_
    refine fw_get (v := .ref (sl j)) hx hb hT fi_RX7 hown hz hw hs1_3 rfl 0 (by decide) (hT _ wd_84) (fun _ h9 => h9) rfl dX8_order_52 ?_
    refine fw_calli (fw_runV (As := []) (rest := [.int (nI 0)]) C hz hw (c_Jx4a65c_size_8abf5 l G _ _ (sl j) ars 4 (13, j, 0) (sa j) hs2_3) (fw_cwV hT wd_278 yVJx4a65c_size_8abf5 rfl rfl ⟨Nat.le_of_ble_eq_true rfl, Nat.le_of_ble_eq_true rfl⟩) (fw_recL hz hw hs2_3) rfl hl.1 rfl (Nat.le_of_ble_eq_true rfl) dX8_order_55 ⟨Nat.le_of_ble_eq_true rfl, Nat.le_of_ble_eq_true rfl⟩) hw (fun r F1 H locs hw hp => ?_)
    obtain ⟨hp0, hp⟩ := hp
    rw [hp0] at hw
    refine W.widen (k := 12) (n := 1222) (Nat.le_of_ble_eq_true rfl) (Nat.le_of_ble_eq_true rfl) ?_
    subst hp
    refine lv_icmp_ge (tgt := 111) hx hb dX8_order_58 (by decide) (fun cx => absurd cx (by decide)) (fun cx => ?_)
    refine lv_aload_n hx hb dX8_order_61 rfl (lv_at hl 2 rfl) ?_
    refine fw_get (v := .ref (sl j)) hx hb hT fi_RX7 hown hz hw hs1_3 rfl 0 (by decide) (hT _ wd_84) (fun _ h9 => h9) rfl dX8_order_62 ?_
    refine lv_iload hx hb dX8_order_65 (lv_at hl 0 rfl) ?_
    refine fw_callo (fw_runV (As := [.int (nI 0)]) (rest := []) C hz hw (c_Jx4a65c_get_915e3 l G _ _ (sl j) ars 4 (13, j, 0) (sa j) 0 hs2_3 (by decide) (by decide)) (fw_cwV hT wd_323 yVJx4a65c_get_915e3 rfl rfl ⟨Nat.le_of_ble_eq_true rfl, Nat.le_of_ble_eq_true rfl⟩) (fw_recL hz hw hs2_3) rfl hl.1 rfl (Nat.le_of_ble_eq_true rfl) dX8_order_67 ⟨Nat.le_of_ble_eq_true rfl, Nat.le_of_ble_eq_true rfl⟩) hw (fun r F1 H locs hw hp => ?_)
    obtain ⟨hp0, hp⟩ := hp
    rw [hp0] at hw
    refine W.widen (k := 12) (n := 1222) (Nat.le_of_ble_eq_true rfl) (Nat.le_of_ble_eq_true rfl) ?_
    subst hp
    refine fw_cast hx hb hown hz hw hs4_3 (q := vwCl[7]) rfl (hT _ wd_347) dX8_order_70 ?_
    refine lv_astore (lv' := [(5, .ref (sa j 0)), (4, .int (nI 0)), (3, .ref p9), (2, .ref (ta j)), (0, .ref x), (1, .int (nI j))]) hx hb dX8_order_73 hl (by decide) rfl (fun ls hl => ?_)
    refine lv_aload_n hx hb dX8_order_75 rfl (lv_at hl 4 rfl) ?_
    refine lv_aload_n hx hb dX8_order_76 rfl (lv_at hl 2 rfl) ?_
    refine lv_aload hx hb dX8_order_77 (lv_at hl 0 rfl) ?_
    refine fw_get (v := .int (f 9 (12 * j + 3 * 0))) hx hb hT fi_RX6 hown hz hw hs4_3 rfl 0 (by decide) (hT _ wd_355) (fun _ h9 => h9) rfl dX8_order_79 ?_
    refine lv_aload hx hb dX8_order_82 (lv_at hl 0 rfl) ?_
    refine fw_get (v := .int (f 9 (12 * j + 3 * 0 + 1))) hx hb hT fi_RX6 hown hz hw hs4_3 rfl 1 (by decide) (hT _ wd_358) (fun _ h9 => h9) rfl dX8_order_84 ?_
    refine fw_callv (fw_runV (As := [.ref p9, .int (f 9 (12 * j + 3 * 0)), .int (f 9 (12 * j + 3 * 0 + 1))]) (rest := []) C hz hw (c_X8_queue l G _ _ x lc lt lo lm lw dr tm ca f nC p9 aw0 (nW + 0) (nJ + 0) wf (f 9 (12 * j + 3 * 0)) (f 9 (12 * j + 3 * 0 + 1)) hX3 (hC.kp hkp3 cl_PO) hLw3 (by omega)) (fw_cwV hT wd_482 yVX8_queue rfl rfl ⟨Nat.le_of_ble_eq_true rfl, Nat.le_of_ble_eq_true rfl⟩) (fw_rec hz hw hX3 (q := vwCl[9]) rfl) rfl hl.1 rfl (Nat.le_of_ble_eq_true rfl) dX8_order_87 ⟨Nat.le_of_ble_eq_true rfl, Nat.le_of_ble_eq_true rfl⟩) hw (fun F4 H locs hw hp => ?_)
    refine W.widen (k := 14) (n := 1465) (Nat.le_of_ble_eq_true rfl) (Nat.le_of_ble_eq_true rfl) ?_
    obtain ⟨j0, aw0, hqj0, hp⟩ := hp
    have hkq4 : fw_kp F3 F4 (fun w => w = (1, 4, 0)) := by rw [hp]; exact (fw_kp.rf.new hqj0).up (fw_up_new hLw3 hqj0) rfl
    have hLw4 : F4 lw = some ((1, 4, 0), fw_ls aw0 (nW + 1) (va_up wf (nW + 0) j0)) := by rw [hp]; exact fw_up_self
    have hjb0 : F4 j0 = some ((8, nJ + 0, 0), fw_obj 3 [.ref p9, .int (f 9 (12 * j + 3 * 0 + 1)), .int (rf_cut f nC (f 9 (12 * j + 3 * 0)) (f 9 (12 * j + 3 * 0 + 1)))]) := by rw [hp]; exact fw_up_tag fw_up_self (fw_up_new hLw3 hqj0) (by intro z; cases z)
    have hkp4 : fw_kp F F4 (fun w => (w.2.1 = nO ∧ (w.1 = 5 ∨ w.1 = 6 ∨ w.1 = 7)) ∨ w = (1, 2, 0) ∨ w = (1, 4, 0)) := (hkp3.tr hkq4).wk (fun t z => z.elim id (fun z => Or.inr (Or.inr z)))
    have hkr4 := hkr3.tr1 hkq4
    have hX4 := hkp4 _ _ _ hX (by simp)
    have hs1_4 := hkp4 _ _ _ hs1 (by simp)
    have hs2_4 := hkp4 _ _ _ hs2 (by simp)
    have hs4_4 := hkp4 _ _ _ (hs4 0 (by decide)) (by simp)
    refine lv_aload_n hx hb dX8_order_90 rfl (lv_at hl 4 rfl) ?_
    refine lv_aload_n hx hb dX8_order_91 rfl (lv_at hl 2 rfl) ?_
    refine lv_aload hx hb dX8_order_92 (lv_at hl 0 rfl) ?_
    refine fw_get (v := .int (f 9 (12 * j + 3 * 0))) hx hb hT fi_RX6 hown hz hw hs4_4 rfl 0 (by decide) (hT _ wd_355) (fun _ h9 => h9) rfl dX8_order_94 ?_
    refine lv_aload hx hb dX8_order_97 (lv_at hl 0 rfl) ?_
    refine fw_get (v := .int (f 9 (12 * j + 3 * 0 + 2))) hx hb hT fi_RX6 hown hz hw hs4_4 rfl 2 (by decide) (hT _ wd_361) (fun _ h9 => h9) rfl dX8_order_99 ?_
    refine fw_callv (fw_runV (As := [.ref p9, .int (f 9 (12 * j + 3 * 0)), .int (f 9 (12 * j + 3 * 0 + 2))]) (rest := []) C hz hw (c_X8_queue l G _ _ x lc lt lo lm lw dr tm ca f nC p9 aw0 (nW + 1) (nJ + 1) (va_up wf (nW + 0) j0) (f 9 (12 * j + 3 * 0)) (f 9 (12 * j + 3 * 0 + 2)) hX4 (hC.kp hkp4 cl_PO) hLw4 (by omega)) (fw_cwV hT wd_482 yVX8_queue rfl rfl ⟨Nat.le_of_ble_eq_true rfl, Nat.le_of_ble_eq_true rfl⟩) (fw_rec hz hw hX4 (q := vwCl[9]) rfl) rfl hl.1 rfl (Nat.le_of_ble_eq_true rfl) dX8_order_102 ⟨Nat.le_of_ble_eq_true rfl, Nat.le_of_ble_eq_true rfl⟩) hw (fun F5 H locs hw hp => ?_)
    refine W.widen (k := 16) (n := 1708) (Nat.le_of_ble_eq_true rfl) (Nat.le_of_ble_eq_true rfl) ?_
    obtain ⟨j1, aw1, hqj1, hp⟩ := hp
    have hkq5 : fw_kp F4 F5 (fun w => w = (1, 4, 0)) := by rw [hp]; exact (fw_kp.rf.new hqj1).up (fw_up_new hLw4 hqj1) rfl
    have hLw5 : F5 lw = some ((1, 4, 0), fw_ls aw1 (nW + 2) (va_up (va_up wf (nW + 0) j0) (nW + 1) j1)) := by rw [hp]; exact fw_up_self
    have hjb1 : F5 j1 = some ((8, nJ + 1, 0), fw_obj 3 [.ref p9, .int (f 9 (12 * j + 3 * 0 + 2)), .int (rf_cut f nC (f 9 (12 * j + 3 * 0)) (f 9 (12 * j + 3 * 0 + 2)))]) := by rw [hp]; exact fw_up_tag fw_up_self (fw_up_new hLw4 hqj1) (by intro z; cases z)
    have hjb0 := hkq5 _ _ _ hjb0 (by simp)
    have hkp5 : fw_kp F F5 (fun w => (w.2.1 = nO ∧ (w.1 = 5 ∨ w.1 = 6 ∨ w.1 = 7)) ∨ w = (1, 2, 0) ∨ w = (1, 4, 0)) := (hkp4.tr hkq5).wk (fun t z => z.elim id (fun z => Or.inr (Or.inr z)))
    have hkr5 := hkr4.tr1 hkq5
    have hX5 := hkp5 _ _ _ hX (by simp)
    have hs1_5 := hkp5 _ _ _ hs1 (by simp)
    have hs2_5 := hkp5 _ _ _ hs2 (by simp)
    have hs4_5 := hkp5 _ _ _ (hs4 1 (by decide)) (by simp)
    refine lv_iinc (v := (nI (0 + 1))) (lv' := [(4, .int (nI (0 + 1))), (5, .ref (sa j 0)), (3, .ref p9), (2, .ref (ta j)), (0, .ref x), (1, .int (nI j))]) hx hb dX8_order_105 hl (k := 1) rfl (nI_1 _) (by decide) rfl (fun ls hl => ?_)
    refine lv_goto (tgt := 49) hx hb dX8_order_108 (by decide) ?_
    refine lv_iload hx hb dX8_order_49 (lv_at hl 0 rfl) ?_
    refine lv_aload_n hx hb dX8_order_51 rfl (lv_at hl 3 rfl) ?_
    refine fw_get (v := .ref (sl j)) hx hb hT fi_RX7 hown hz hw hs1_5 rfl 0 (by decide) (hT _ wd_84) (fun _ h9 => h9) rfl dX8_order_52 ?_
    refine fw_calli (fw_runV (As := []) (rest := [.int (nI (0 + 1))]) C hz hw (c_Jx4a65c_size_8abf5 l G _ _ (sl j) ars 4 (13, j, 0) (sa j) hs2_5) (fw_cwV hT wd_278 yVJx4a65c_size_8abf5 rfl rfl ⟨Nat.le_of_ble_eq_true rfl, Nat.le_of_ble_eq_true rfl⟩) (fw_recL hz hw hs2_5) rfl hl.1 rfl (Nat.le_of_ble_eq_true rfl) dX8_order_55 ⟨Nat.le_of_ble_eq_true rfl, Nat.le_of_ble_eq_true rfl⟩) hw (fun r F1 H locs hw hp => ?_)
    obtain ⟨hp0, hp⟩ := hp
    rw [hp0] at hw
    refine W.widen (k := 16) (n := 1708) (Nat.le_of_ble_eq_true rfl) (Nat.le_of_ble_eq_true rfl) ?_
    subst hp
    refine lv_icmp_ge (tgt := 111) hx hb dX8_order_58 (by decide) (fun cx => absurd cx (by decide)) (fun cx => ?_)
    refine lv_aload_n hx hb dX8_order_61 rfl (lv_at hl 3 rfl) ?_
    refine fw_get (v := .ref (sl j)) hx hb hT fi_RX7 hown hz hw hs1_5 rfl 0 (by decide) (hT _ wd_84) (fun _ h9 => h9) rfl dX8_order_62 ?_
    refine lv_iload hx hb dX8_order_65 (lv_at hl 0 rfl) ?_
    refine fw_callo (fw_runV (As := [.int (nI (0 + 1))]) (rest := []) C hz hw (c_Jx4a65c_get_915e3 l G _ _ (sl j) ars 4 (13, j, 0) (sa j) 1 hs2_5 (by decide) (by decide)) (fw_cwV hT wd_323 yVJx4a65c_get_915e3 rfl rfl ⟨Nat.le_of_ble_eq_true rfl, Nat.le_of_ble_eq_true rfl⟩) (fw_recL hz hw hs2_5) rfl hl.1 rfl (Nat.le_of_ble_eq_true rfl) dX8_order_67 ⟨Nat.le_of_ble_eq_true rfl, Nat.le_of_ble_eq_true rfl⟩) hw (fun r F1 H locs hw hp => ?_)
    obtain ⟨hp0, hp⟩ := hp
    rw [hp0] at hw
    refine W.widen (k := 16) (n := 1708) (Nat.le_of_ble_eq_true rfl) (Nat.le_of_ble_eq_true rfl) ?_
    subst hp
    refine fw_cast hx hb hown hz hw hs4_5 (q := vwCl[7]) rfl (hT _ wd_347) dX8_order_70 ?_
    refine lv_astore (lv' := [(5, .ref (sa j 1)), (4, .int (nI (0 + 1))), (3, .ref p9), (2, .ref (ta j)), (0, .ref x), (1, .int (nI j))]) hx hb dX8_order_73 hl (by decide) rfl (fun ls hl => ?_)
    refine lv_aload_n hx hb dX8_order_75 rfl (lv_at hl 4 rfl) ?_
    refine lv_aload_n hx hb dX8_order_76 rfl (lv_at hl 2 rfl) ?_
    refine lv_aload hx hb dX8_order_77 (lv_at hl 0 rfl) ?_
    refine fw_get (v := .int (f 9 (12 * j + 3 * 1))) hx hb hT fi_RX6 hown hz hw hs4_5 rfl 0 (by decide) (hT _ wd_355) (fun _ h9 => h9) rfl dX8_order_79 ?_
    refine lv_aload hx hb dX8_order_82 (lv_at hl 0 rfl) ?_
    refine fw_get (v := .int (f 9 (12 * j + 3 * 1 + 1))) hx hb hT fi_RX6 hown hz hw hs4_5 rfl 1 (by decide) (hT _ wd_358) (fun _ h9 => h9) rfl dX8_order_84 ?_
    refine fw_callv (fw_runV (As := [.ref p9, .int (f 9 (12 * j + 3 * 1)), .int (f 9 (12 * j + 3 * 1 + 1))]) (rest := []) C hz hw (c_X8_queue l G _ _ x lc lt lo lm lw dr tm ca f nC p9 aw1 (nW + 2) (nJ + 2) (va_up (va_up wf (nW + 0) j0) (nW + 1) j1) (f 9 (12 * j + 3 * 1)) (f 9 (12 * j + 3 * 1 + 1)) hX5 (hC.kp hkp5 cl_PO) hLw5 (by omega)) (fw_cwV hT wd_482 yVX8_queue rfl rfl ⟨Nat.le_of_ble_eq_true rfl, Nat.le_of_ble_eq_true rfl⟩) (fw_rec hz hw hX5 (q := vwCl[9]) rfl) rfl hl.1 rfl (Nat.le_of_ble_eq_true rfl) dX8_order_87 ⟨Nat.le_of_ble_eq_true rfl, Nat.le_of_ble_eq_true rfl⟩) hw (fun F6 H locs hw hp => ?_)
    refine W.widen (k := 18) (n := 1951) (Nat.le_of_ble_eq_true rfl) (Nat.le_of_ble_eq_true rfl) ?_
    obtain ⟨j2, aw2, hqj2, hp⟩ := hp
    have hkq6 : fw_kp F5 F6 (fun w => w = (1, 4, 0)) := by rw [hp]; exact (fw_kp.rf.new hqj2).up (fw_up_new hLw5 hqj2) rfl
    have hLw6 : F6 lw = some ((1, 4, 0), fw_ls aw2 (nW + 3) (va_up (va_up (va_up wf (nW + 0) j0) (nW + 1) j1) (nW + 2) j2)) := by rw [hp]; exact fw_up_self
    have hjb2 : F6 j2 = some ((8, nJ + 2, 0), fw_obj 3 [.ref p9, .int (f 9 (12 * j + 3 * 1 + 1)), .int (rf_cut f nC (f 9 (12 * j + 3 * 1)) (f 9 (12 * j + 3 * 1 + 1)))]) := by rw [hp]; exact fw_up_tag fw_up_self (fw_up_new hLw5 hqj2) (by intro z; cases z)
    have hjb0 := hkq6 _ _ _ hjb0 (by simp)
    have hjb1 := hkq6 _ _ _ hjb1 (by simp)
    have hkp6 : fw_kp F F6 (fun w => (w.2.1 = nO ∧ (w.1 = 5 ∨ w.1 = 6 ∨ w.1 = 7)) ∨ w = (1, 2, 0) ∨ w = (1, 4, 0)) := (hkp5.tr hkq6).wk (fun t z => z.elim id (fun z => Or.inr (Or.inr z)))
    have hkr6 := hkr5.tr1 hkq6
    have hX6 := hkp6 _ _ _ hX (by simp)
    have hs1_6 := hkp6 _ _ _ hs1 (by simp)
    have hs2_6 := hkp6 _ _ _ hs2 (by simp)
    have hs4_6 := hkp6 _ _ _ (hs4 1 (by decide)) (by simp)
    refine lv_aload_n hx hb dX8_order_90 rfl (lv_at hl 4 rfl) ?_
    refine lv_aload_n hx hb dX8_order_91 rfl (lv_at hl 2 rfl) ?_
    refine lv_aload hx hb dX8_order_92 (lv_at hl 0 rfl) ?_
    refine fw_get (v := .int (f 9 (12 * j + 3 * 1))) hx hb hT fi_RX6 hown hz hw hs4_6 rfl 0 (by decide) (hT _ wd_355) (fun _ h9 => h9) rfl dX8_order_94 ?_
    refine lv_aload hx hb dX8_order_97 (lv_at hl 0 rfl) ?_
    refine fw_get (v := .int (f 9 (12 * j + 3 * 1 + 2))) hx hb hT fi_RX6 hown hz hw hs4_6 rfl 2 (by decide) (hT _ wd_361) (fun _ h9 => h9) rfl dX8_order_99 ?_
    refine fw_callv (fw_runV (As := [.ref p9, .int (f 9 (12 * j + 3 * 1)), .int (f 9 (12 * j + 3 * 1 + 2))]) (rest := []) C hz hw (c_X8_queue l G _ _ x lc lt lo lm lw dr tm ca f nC p9 aw2 (nW + 3) (nJ + 3) (va_up (va_up (va_up wf (nW + 0) j0) (nW + 1) j1) (nW + 2) j2) (f 9 (12 * j + 3 * 1)) (f 9 (12 * j + 3 * 1 + 2)) hX6 (hC.kp hkp6 cl_PO) hLw6 (by omega)) (fw_cwV hT wd_482 yVX8_queue rfl rfl ⟨Nat.le_of_ble_eq_true rfl, Nat.le_of_ble_eq_true rfl⟩) (fw_rec hz hw hX6 (q := vwCl[9]) rfl) rfl hl.1 rfl (Nat.le_of_ble_eq_true rfl) dX8_order_102 ⟨Nat.le_of_ble_eq_true rfl, Nat.le_of_ble_eq_true rfl⟩) hw (fun F7 H locs hw hp => ?_)
    refine W.widen (k := 20) (n := 2194) (Nat.le_of_ble_eq_true rfl) (Nat.le_of_ble_eq_true rfl) ?_
    obtain ⟨j3, aw3, hqj3, hp⟩ := hp
    have hkq7 : fw_kp F6 F7 (fun w => w = (1, 4, 0)) := by rw [hp]; exact (fw_kp.rf.new hqj3).up (fw_up_new hLw6 hqj3) rfl
    have hLw7 : F7 lw = some ((1, 4, 0), fw_ls aw3 (nW + 4) (va_up (va_up (va_up (va_up wf (nW + 0) j0) (nW + 1) j1) (nW + 2) j2) (nW + 3) j3)) := by rw [hp]; exact fw_up_self
    have hjb3 : F7 j3 = some ((8, nJ + 3, 0), fw_obj 3 [.ref p9, .int (f 9 (12 * j + 3 * 1 + 2)), .int (rf_cut f nC (f 9 (12 * j + 3 * 1)) (f 9 (12 * j + 3 * 1 + 2)))]) := by rw [hp]; exact fw_up_tag fw_up_self (fw_up_new hLw6 hqj3) (by intro z; cases z)
    have hjb0 := hkq7 _ _ _ hjb0 (by simp)
    have hjb1 := hkq7 _ _ _ hjb1 (by simp)
    have hjb2 := hkq7 _ _ _ hjb2 (by simp)
    have hkp7 : fw_kp F F7 (fun w => (w.2.1 = nO ∧ (w.1 = 5 ∨ w.1 = 6 ∨ w.1 = 7)) ∨ w = (1, 2, 0) ∨ w = (1, 4, 0)) := (hkp6.tr hkq7).wk (fun t z => z.elim id (fun z => Or.inr (Or.inr z)))
    have hkr7 := hkr6.tr1 hkq7
    have hX7 := hkp7 _ _ _ hX (by simp)
    have hs1_7 := hkp7 _ _ _ hs1 (by simp)
    have hs2_7 := hkp7 _ _ _ hs2 (by simp)
    have hs4_7 := hkp7 _ _ _ (hs4 2 (by decide)) (by simp)
    refine lv_iinc (v := (nI (0 + 1 + 1))) (lv' := [(4, .int (nI (0 + 1 + 1))), (5, .ref (sa j 1)), (3, .ref p9), (2, .ref (ta j)), (0, .ref x), (1, .int (nI j))]) hx hb dX8_order_105 hl (k := 1) rfl (nI_1 _) (by decide) rfl (fun ls hl => ?_)
    refine lv_goto (tgt := 49) hx hb dX8_order_108 (by decide) ?_
    refine lv_iload hx hb dX8_order_49 (lv_at hl 0 rfl) ?_
    refine lv_aload_n hx hb dX8_order_51 rfl (lv_at hl 3 rfl) ?_
    refine fw_get (v := .ref (sl j)) hx hb hT fi_RX7 hown hz hw hs1_7 rfl 0 (by decide) (hT _ wd_84) (fun _ h9 => h9) rfl dX8_order_52 ?_
    refine fw_calli (fw_runV (As := []) (rest := [.int (nI (0 + 1 + 1))]) C hz hw (c_Jx4a65c_size_8abf5 l G _ _ (sl j) ars 4 (13, j, 0) (sa j) hs2_7) (fw_cwV hT wd_278 yVJx4a65c_size_8abf5 rfl rfl ⟨Nat.le_of_ble_eq_true rfl, Nat.le_of_ble_eq_true rfl⟩) (fw_recL hz hw hs2_7) rfl hl.1 rfl (Nat.le_of_ble_eq_true rfl) dX8_order_55 ⟨Nat.le_of_ble_eq_true rfl, Nat.le_of_ble_eq_true rfl⟩) hw (fun r F1 H locs hw hp => ?_)
    obtain ⟨hp0, hp⟩ := hp
    rw [hp0] at hw
    refine W.widen (k := 20) (n := 2194) (Nat.le_of_ble_eq_true rfl) (Nat.le_of_ble_eq_true rfl) ?_
    subst hp
    refine lv_icmp_ge (tgt := 111) hx hb dX8_order_58 (by decide) (fun cx => absurd cx (by decide)) (fun cx => ?_)
    refine lv_aload_n hx hb dX8_order_61 rfl (lv_at hl 3 rfl) ?_
    refine fw_get (v := .ref (sl j)) hx hb hT fi_RX7 hown hz hw hs1_7 rfl 0 (by decide) (hT _ wd_84) (fun _ h9 => h9) rfl dX8_order_62 ?_
    refine lv_iload hx hb dX8_order_65 (lv_at hl 0 rfl) ?_
    refine fw_callo (fw_runV (As := [.int (nI (0 + 1 + 1))]) (rest := []) C hz hw (c_Jx4a65c_get_915e3 l G _ _ (sl j) ars 4 (13, j, 0) (sa j) 2 hs2_7 (by decide) (by decide)) (fw_cwV hT wd_323 yVJx4a65c_get_915e3 rfl rfl ⟨Nat.le_of_ble_eq_true rfl, Nat.le_of_ble_eq_true rfl⟩) (fw_recL hz hw hs2_7) rfl hl.1 rfl (Nat.le_of_ble_eq_true rfl) dX8_order_67 ⟨Nat.le_of_ble_eq_true rfl, Nat.le_of_ble_eq_true rfl⟩) hw (fun r F1 H locs hw hp => ?_)
    obtain ⟨hp0, hp⟩ := hp
    rw [hp0] at hw
    refine W.widen (k := 20) (n := 2194) (Nat.le_of_ble_eq_true rfl) (Nat.le_of_ble_eq_true rfl) ?_
    subst hp
    refine fw_cast hx hb hown hz hw hs4_7 (q := vwCl[7]) rfl (hT _ wd_347) dX8_order_70 ?_
    refine lv_astore (lv' := [(5, .ref (sa j 2)), (4, .int (nI (0 + 1 + 1))), (3, .ref p9), (2, .ref (ta j)), (0, .ref x), (1, .int (nI j))]) hx hb dX8_order_73 hl (by decide) rfl (fun ls hl => ?_)
    refine lv_aload_n hx hb dX8_order_75 rfl (lv_at hl 4 rfl) ?_
    refine lv_aload_n hx hb dX8_order_76 rfl (lv_at hl 2 rfl) ?_
    refine lv_aload hx hb dX8_order_77 (lv_at hl 0 rfl) ?_
    refine fw_get (v := .int (f 9 (12 * j + 3 * 2))) hx hb hT fi_RX6 hown hz hw hs4_7 rfl 0 (by decide) (hT _ wd_355) (fun _ h9 => h9) rfl dX8_order_79 ?_
    refine lv_aload hx hb dX8_order_82 (lv_at hl 0 rfl) ?_
    refine fw_get (v := .int (f 9 (12 * j + 3 * 2 + 1))) hx hb hT fi_RX6 hown hz hw hs4_7 rfl 1 (by decide) (hT _ wd_358) (fun _ h9 => h9) rfl dX8_order_84 ?_
    refine fw_callv (fw_runV (As := [.ref p9, .int (f 9 (12 * j + 3 * 2)), .int (f 9 (12 * j + 3 * 2 + 1))]) (rest := []) C hz hw (c_X8_queue l G _ _ x lc lt lo lm lw dr tm ca f nC p9 aw3 (nW + 4) (nJ + 4) (va_up (va_up (va_up (va_up wf (nW + 0) j0) (nW + 1) j1) (nW + 2) j2) (nW + 3) j3) (f 9 (12 * j + 3 * 2)) (f 9 (12 * j + 3 * 2 + 1)) hX7 (hC.kp hkp7 cl_PO) hLw7 (by omega)) (fw_cwV hT wd_482 yVX8_queue rfl rfl ⟨Nat.le_of_ble_eq_true rfl, Nat.le_of_ble_eq_true rfl⟩) (fw_rec hz hw hX7 (q := vwCl[9]) rfl) rfl hl.1 rfl (Nat.le_of_ble_eq_true rfl) dX8_order_87 ⟨Nat.le_of_ble_eq_true rfl, Nat.le_of_ble_eq_true rfl⟩) hw (fun F8 H locs hw hp => ?_)
    refine W.widen (k := 22) (n := 2437) (Nat.le_of_ble_eq_true rfl) (Nat.le_of_ble_eq_true rfl) ?_
    obtain ⟨j4, aw4, hqj4, hp⟩ := hp
    have hkq8 : fw_kp F7 F8 (fun w => w = (1, 4, 0)) := by rw [hp]; exact (fw_kp.rf.new hqj4).up (fw_up_new hLw7 hqj4) rfl
    have hLw8 : F8 lw = some ((1, 4, 0), fw_ls aw4 (nW + 5) (va_up (va_up (va_up (va_up (va_up wf (nW + 0) j0) (nW + 1) j1) (nW + 2) j2) (nW + 3) j3) (nW + 4) j4)) := by rw [hp]; exact fw_up_self
    have hjb4 : F8 j4 = some ((8, nJ + 4, 0), fw_obj 3 [.ref p9, .int (f 9 (12 * j + 3 * 2 + 1)), .int (rf_cut f nC (f 9 (12 * j + 3 * 2)) (f 9 (12 * j + 3 * 2 + 1)))]) := by rw [hp]; exact fw_up_tag fw_up_self (fw_up_new hLw7 hqj4) (by intro z; cases z)
    have hjb0 := hkq8 _ _ _ hjb0 (by simp)
    have hjb1 := hkq8 _ _ _ hjb1 (by simp)
    have hjb2 := hkq8 _ _ _ hjb2 (by simp)
    have hjb3 := hkq8 _ _ _ hjb3 (by simp)
    have hkp8 : fw_kp F F8 (fun w => (w.2.1 = nO ∧ (w.1 = 5 ∨ w.1 = 6 ∨ w.1 = 7)) ∨ w = (1, 2, 0) ∨ w = (1, 4, 0)) := (hkp7.tr hkq8).wk (fun t z => z.elim id (fun z => Or.inr (Or.inr z)))
    have hkr8 := hkr7.tr1 hkq8
    have hX8 := hkp8 _ _ _ hX (by simp)
    have hs1_8 := hkp8 _ _ _ hs1 (by simp)
    have hs2_8 := hkp8 _ _ _ hs2 (by simp)
    have hs4_8 := hkp8 _ _ _ (hs4 2 (by decide)) (by simp)
    refine lv_aload_n hx hb dX8_order_90 rfl (lv_at hl 4 rfl) ?_
    refine lv_aload_n hx hb dX8_order_91 rfl (lv_at hl 2 rfl) ?_
    refine lv_aload hx hb dX8_order_92 (lv_at hl 0 rfl) ?_
    refine fw_get (v := .int (f 9 (12 * j + 3 * 2))) hx hb hT fi_RX6 hown hz hw hs4_8 rfl 0 (by decide) (hT _ wd_355) (fun _ h9 => h9) rfl dX8_order_94 ?_
    refine lv_aload hx hb dX8_order_97 (lv_at hl 0 rfl) ?_
    refine fw_get (v := .int (f 9 (12 * j + 3 * 2 + 2))) hx hb hT fi_RX6 hown hz hw hs4_8 rfl 2 (by decide) (hT _ wd_361) (fun _ h9 => h9) rfl dX8_order_99 ?_
    refine fw_callv (fw_runV (As := [.ref p9, .int (f 9 (12 * j + 3 * 2)), .int (f 9 (12 * j + 3 * 2 + 2))]) (rest := []) C hz hw (c_X8_queue l G _ _ x lc lt lo lm lw dr tm ca f nC p9 aw4 (nW + 5) (nJ + 5) (va_up (va_up (va_up (va_up (va_up wf (nW + 0) j0) (nW + 1) j1) (nW + 2) j2) (nW + 3) j3) (nW + 4) j4) (f 9 (12 * j + 3 * 2)) (f 9 (12 * j + 3 * 2 + 2)) hX8 (hC.kp hkp8 cl_PO) hLw8 (by omega)) (fw_cwV hT wd_482 yVX8_queue rfl rfl ⟨Nat.le_of_ble_eq_true rfl, Nat.le_of_ble_eq_true rfl⟩) (fw_rec hz hw hX8 (q := vwCl[9]) rfl) rfl hl.1 rfl (Nat.le_of_ble_eq_true rfl) dX8_order_102 ⟨Nat.le_of_ble_eq_true rfl, Nat.le_of_ble_eq_true rfl⟩) hw (fun F9 H locs hw hp => ?_)
    refine W.widen (k := 24) (n := 2680) (Nat.le_of_ble_eq_true rfl) (Nat.le_of_ble_eq_true rfl) ?_
    obtain ⟨j5, aw5, hqj5, hp⟩ := hp
    have hkq9 : fw_kp F8 F9 (fun w => w = (1, 4, 0)) := by rw [hp]; exact (fw_kp.rf.new hqj5).up (fw_up_new hLw8 hqj5) rfl
    have hLw9 : F9 lw = some ((1, 4, 0), fw_ls aw5 (nW + 6) (va_up (va_up (va_up (va_up (va_up (va_up wf (nW + 0) j0) (nW + 1) j1) (nW + 2) j2) (nW + 3) j3) (nW + 4) j4) (nW + 5) j5)) := by rw [hp]; exact fw_up_self
    have hjb5 : F9 j5 = some ((8, nJ + 5, 0), fw_obj 3 [.ref p9, .int (f 9 (12 * j + 3 * 2 + 2)), .int (rf_cut f nC (f 9 (12 * j + 3 * 2)) (f 9 (12 * j + 3 * 2 + 2)))]) := by rw [hp]; exact fw_up_tag fw_up_self (fw_up_new hLw8 hqj5) (by intro z; cases z)
    have hjb0 := hkq9 _ _ _ hjb0 (by simp)
    have hjb1 := hkq9 _ _ _ hjb1 (by simp)
    have hjb2 := hkq9 _ _ _ hjb2 (by simp)
    have hjb3 := hkq9 _ _ _ hjb3 (by simp)
    have hjb4 := hkq9 _ _ _ hjb4 (by simp)
    have hkp9 : fw_kp F F9 (fun w => (w.2.1 = nO ∧ (w.1 = 5 ∨ w.1 = 6 ∨ w.1 = 7)) ∨ w = (1, 2, 0) ∨ w = (1, 4, 0)) := (hkp8.tr hkq9).wk (fun t z => z.elim id (fun z => Or.inr (Or.inr z)))
    have hkr9 := hkr8.tr1 hkq9
    have hX9 := hkp9 _ _ _ hX (by simp)
    have hs1_9 := hkp9 _ _ _ hs1 (by simp)
    have hs2_9 := hkp9 _ _ _ hs2 (by simp)
    have hs4_9 := hkp9 _ _ _ (hs4 3 (by decide)) (by simp)
    refine lv_iinc (v := (nI (0 + 1 + 1 + 1))) (lv' := [(4, .int (nI (0 + 1 + 1 + 1))), (5, .ref (sa j 2)), (3, .ref p9), (2, .ref (ta j)), (0, .ref x), (1, .int (nI j))]) hx hb dX8_order_105 hl (k := 1) rfl (nI_1 _) (by decide) rfl (fun ls hl => ?_)
    refine lv_goto (tgt := 49) hx hb dX8_order_108 (by decide) ?_
    refine lv_iload hx hb dX8_order_49 (lv_at hl 0 rfl) ?_
    refine lv_aload_n hx hb dX8_order_51 rfl (lv_at hl 3 rfl) ?_
    refine fw_get (v := .ref (sl j)) hx hb hT fi_RX7 hown hz hw hs1_9 rfl 0 (by decide) (hT _ wd_84) (fun _ h9 => h9) rfl dX8_order_52 ?_
    refine fw_calli (fw_runV (As := []) (rest := [.int (nI (0 + 1 + 1 + 1))]) C hz hw (c_Jx4a65c_size_8abf5 l G _ _ (sl j) ars 4 (13, j, 0) (sa j) hs2_9) (fw_cwV hT wd_278 yVJx4a65c_size_8abf5 rfl rfl ⟨Nat.le_of_ble_eq_true rfl, Nat.le_of_ble_eq_true rfl⟩) (fw_recL hz hw hs2_9) rfl hl.1 rfl (Nat.le_of_ble_eq_true rfl) dX8_order_55 ⟨Nat.le_of_ble_eq_true rfl, Nat.le_of_ble_eq_true rfl⟩) hw (fun r F1 H locs hw hp => ?_)
    obtain ⟨hp0, hp⟩ := hp
    rw [hp0] at hw
    refine W.widen (k := 24) (n := 2680) (Nat.le_of_ble_eq_true rfl) (Nat.le_of_ble_eq_true rfl) ?_
    subst hp
    refine lv_icmp_ge (tgt := 111) hx hb dX8_order_58 (by decide) (fun cx => absurd cx (by decide)) (fun cx => ?_)
    refine lv_aload_n hx hb dX8_order_61 rfl (lv_at hl 3 rfl) ?_
    refine fw_get (v := .ref (sl j)) hx hb hT fi_RX7 hown hz hw hs1_9 rfl 0 (by decide) (hT _ wd_84) (fun _ h9 => h9) rfl dX8_order_62 ?_
    refine lv_iload hx hb dX8_order_65 (lv_at hl 0 rfl) ?_
    refine fw_callo (fw_runV (As := [.int (nI (0 + 1 + 1 + 1))]) (rest := []) C hz hw (c_Jx4a65c_get_915e3 l G _ _ (sl j) ars 4 (13, j, 0) (sa j) 3 hs2_9 (by decide) (by decide)) (fw_cwV hT wd_323 yVJx4a65c_get_915e3 rfl rfl ⟨Nat.le_of_ble_eq_true rfl, Nat.le_of_ble_eq_true rfl⟩) (fw_recL hz hw hs2_9) rfl hl.1 rfl (Nat.le_of_ble_eq_true rfl) dX8_order_67 ⟨Nat.le_of_ble_eq_true rfl, Nat.le_of_ble_eq_true rfl⟩) hw (fun r F1 H locs hw hp => ?_)
    obtain ⟨hp0, hp⟩ := hp
    rw [hp0] at hw
    refine W.widen (k := 24) (n := 2680) (Nat.le_of_ble_eq_true rfl) (Nat.le_of_ble_eq_true rfl) ?_
    subst hp
    refine fw_cast hx hb hown hz hw hs4_9 (q := vwCl[7]) rfl (hT _ wd_347) dX8_order_70 ?_
    refine lv_astore (lv' := [(5, .ref (sa j 3)), (4, .int (nI (0 + 1 + 1 + 1))), (3, .ref p9), (2, .ref (ta j)), (0, .ref x), (1, .int (nI j))]) hx hb dX8_order_73 hl (by decide) rfl (fun ls hl => ?_)
    refine lv_aload_n hx hb dX8_order_75 rfl (lv_at hl 4 rfl) ?_
    refine lv_aload_n hx hb dX8_order_76 rfl (lv_at hl 2 rfl) ?_
    refine lv_aload hx hb dX8_order_77 (lv_at hl 0 rfl) ?_
    refine fw_get (v := .int (f 9 (12 * j + 3 * 3))) hx hb hT fi_RX6 hown hz hw hs4_9 rfl 0 (by decide) (hT _ wd_355) (fun _ h9 => h9) rfl dX8_order_79 ?_
    refine lv_aload hx hb dX8_order_82 (lv_at hl 0 rfl) ?_
    refine fw_get (v := .int (f 9 (12 * j + 3 * 3 + 1))) hx hb hT fi_RX6 hown hz hw hs4_9 rfl 1 (by decide) (hT _ wd_358) (fun _ h9 => h9) rfl dX8_order_84 ?_
    refine fw_callv (fw_runV (As := [.ref p9, .int (f 9 (12 * j + 3 * 3)), .int (f 9 (12 * j + 3 * 3 + 1))]) (rest := []) C hz hw (c_X8_queue l G _ _ x lc lt lo lm lw dr tm ca f nC p9 aw5 (nW + 6) (nJ + 6) (va_up (va_up (va_up (va_up (va_up (va_up wf (nW + 0) j0) (nW + 1) j1) (nW + 2) j2) (nW + 3) j3) (nW + 4) j4) (nW + 5) j5) (f 9 (12 * j + 3 * 3)) (f 9 (12 * j + 3 * 3 + 1)) hX9 (hC.kp hkp9 cl_PO) hLw9 (by omega)) (fw_cwV hT wd_482 yVX8_queue rfl rfl ⟨Nat.le_of_ble_eq_true rfl, Nat.le_of_ble_eq_true rfl⟩) (fw_rec hz hw hX9 (q := vwCl[9]) rfl) rfl hl.1 rfl (Nat.le_of_ble_eq_true rfl) dX8_order_87 ⟨Nat.le_of_ble_eq_true rfl, Nat.le_of_ble_eq_true rfl⟩) hw (fun F10 H locs hw hp => ?_)
    refine W.widen (k := 26) (n := 2923) (Nat.le_of_ble_eq_true rfl) (Nat.le_of_ble_eq_true rfl) ?_
    obtain ⟨j6, aw6, hqj6, hp⟩ := hp
    have hkq10 : fw_kp F9 F10 (fun w => w = (1, 4, 0)) := by rw [hp]; exact (fw_kp.rf.new hqj6).up (fw_up_new hLw9 hqj6) rfl
    have hLw10 : F10 lw = some ((1, 4, 0), fw_ls aw6 (nW + 7) (va_up (va_up (va_up (va_up (va_up (va_up (va_up wf (nW + 0) j0) (nW + 1) j1) (nW + 2) j2) (nW + 3) j3) (nW + 4) j4) (nW + 5) j5) (nW + 6) j6)) := by rw [hp]; exact fw_up_self
    have hjb6 : F10 j6 = some ((8, nJ + 6, 0), fw_obj 3 [.ref p9, .int (f 9 (12 * j + 3 * 3 + 1)), .int (rf_cut f nC (f 9 (12 * j + 3 * 3)) (f 9 (12 * j + 3 * 3 + 1)))]) := by rw [hp]; exact fw_up_tag fw_up_self (fw_up_new hLw9 hqj6) (by intro z; cases z)
    have hjb0 := hkq10 _ _ _ hjb0 (by simp)
    have hjb1 := hkq10 _ _ _ hjb1 (by simp)
    have hjb2 := hkq10 _ _ _ hjb2 (by simp)
    have hjb3 := hkq10 _ _ _ hjb3 (by simp)
    have hjb4 := hkq10 _ _ _ hjb4 (by simp)
    have hjb5 := hkq10 _ _ _ hjb5 (by simp)
    have hkp10 : fw_kp F F10 (fun w => (w.2.1 = nO ∧ (w.1 = 5 ∨ w.1 = 6 ∨ w.1 = 7)) ∨ w = (1, 2, 0) ∨ w = (1, 4, 0)) := (hkp9.tr hkq10).wk (fun t z => z.elim id (fun z => Or.inr (Or.inr z)))
    have hkr10 := hkr9.tr1 hkq10
    have hX10 := hkp10 _ _ _ hX (by simp)
    have hs1_10 := hkp10 _ _ _ hs1 (by simp)
    have hs2_10 := hkp10 _ _ _ hs2 (by simp)
    have hs4_10 := hkp10 _ _ _ (hs4 3 (by decide)) (by simp)
    refine lv_aload_n hx hb dX8_order_90 rfl (lv_at hl 4 rfl) ?_
    refine lv_aload_n hx hb dX8_order_91 rfl (lv_at hl 2 rfl) ?_
    refine lv_aload hx hb dX8_order_92 (lv_at hl 0 rfl) ?_
    refine fw_get (v := .int (f 9 (12 * j + 3 * 3))) hx hb hT fi_RX6 hown hz hw hs4_10 rfl 0 (by decide) (hT _ wd_355) (fun _ h9 => h9) rfl dX8_order_94 ?_
    refine lv_aload hx hb dX8_order_97 (lv_at hl 0 rfl) ?_
    refine fw_get (v := .int (f 9 (12 * j + 3 * 3 + 2))) hx hb hT fi_RX6 hown hz hw hs4_10 rfl 2 (by decide) (hT _ wd_361) (fun _ h9 => h9) rfl dX8_order_99 ?_
    refine fw_callv (fw_runV (As := [.ref p9, .int (f 9 (12 * j + 3 * 3)), .int (f 9 (12 * j + 3 * 3 + 2))]) (rest := []) C hz hw (c_X8_queue l G _ _ x lc lt lo lm lw dr tm ca f nC p9 aw6 (nW + 7) (nJ + 7) (va_up (va_up (va_up (va_up (va_up (va_up (va_up wf (nW + 0) j0) (nW + 1) j1) (nW + 2) j2) (nW + 3) j3) (nW + 4) j4) (nW + 5) j5) (nW + 6) j6) (f 9 (12 * j + 3 * 3)) (f 9 (12 * j + 3 * 3 + 2)) hX10 (hC.kp hkp10 cl_PO) hLw10 (by omega)) (fw_cwV hT wd_482 yVX8_queue rfl rfl ⟨Nat.le_of_ble_eq_true rfl, Nat.le_of_ble_eq_true rfl⟩) (fw_rec hz hw hX10 (q := vwCl[9]) rfl) rfl hl.1 rfl (Nat.le_of_ble_eq_true rfl) dX8_order_102 ⟨Nat.le_of_ble_eq_true rfl, Nat.le_of_ble_eq_true rfl⟩) hw (fun F11 H locs hw hp => ?_)
    refine W.widen (k := 28) (n := 3166) (Nat.le_of_ble_eq_true rfl) (Nat.le_of_ble_eq_true rfl) ?_
    obtain ⟨j7, aw7, hqj7, hp⟩ := hp
    have hkq11 : fw_kp F10 F11 (fun w => w = (1, 4, 0)) := by rw [hp]; exact (fw_kp.rf.new hqj7).up (fw_up_new hLw10 hqj7) rfl
    have hLw11 : F11 lw = some ((1, 4, 0), fw_ls aw7 (nW + 8) (va_up (va_up (va_up (va_up (va_up (va_up (va_up (va_up wf (nW + 0) j0) (nW + 1) j1) (nW + 2) j2) (nW + 3) j3) (nW + 4) j4) (nW + 5) j5) (nW + 6) j6) (nW + 7) j7)) := by rw [hp]; exact fw_up_self
    have hjb7 : F11 j7 = some ((8, nJ + 7, 0), fw_obj 3 [.ref p9, .int (f 9 (12 * j + 3 * 3 + 2)), .int (rf_cut f nC (f 9 (12 * j + 3 * 3)) (f 9 (12 * j + 3 * 3 + 2)))]) := by rw [hp]; exact fw_up_tag fw_up_self (fw_up_new hLw10 hqj7) (by intro z; cases z)
    have hjb0 := hkq11 _ _ _ hjb0 (by simp)
    have hjb1 := hkq11 _ _ _ hjb1 (by simp)
    have hjb2 := hkq11 _ _ _ hjb2 (by simp)
    have hjb3 := hkq11 _ _ _ hjb3 (by simp)
    have hjb4 := hkq11 _ _ _ hjb4 (by simp)
    have hjb5 := hkq11 _ _ _ hjb5 (by simp)
    have hjb6 := hkq11 _ _ _ hjb6 (by simp)
    have hkp11 : fw_kp F F11 (fun w => (w.2.1 = nO ∧ (w.1 = 5 ∨ w.1 = 6 ∨ w.1 = 7)) ∨ w = (1, 2, 0) ∨ w = (1, 4, 0)) := (hkp10.tr hkq11).wk (fun t z => z.elim id (fun z => Or.inr (Or.inr z)))
    have hkr11 := hkr10.tr1 hkq11
    have hX11 := hkp11 _ _ _ hX (by simp)
    have hs1_11 := hkp11 _ _ _ hs1 (by simp)
    have hs2_11 := hkp11 _ _ _ hs2 (by simp)
    refine lv_iinc (v := (nI (0 + 1 + 1 + 1 + 1))) (lv' := [(4, .int (nI (0 + 1 + 1 + 1 + 1))), (5, .ref (sa j 3)), (3, .ref p9), (2, .ref (ta j)), (0, .ref x), (1, .int (nI j))]) hx hb dX8_order_105 hl (k := 1) rfl (nI_1 _) (by decide) rfl (fun ls hl => ?_)
    refine lv_goto (tgt := 49) hx hb dX8_order_108 (by decide) ?_
    refine lv_iload hx hb dX8_order_49 (lv_at hl 0 rfl) ?_
    refine lv_aload_n hx hb dX8_order_51 rfl (lv_at hl 3 rfl) ?_
    refine fw_get (v := .ref (sl j)) hx hb hT fi_RX7 hown hz hw hs1_11 rfl 0 (by decide) (hT _ wd_84) (fun _ h9 => h9) rfl dX8_order_52 ?_
    refine fw_calli (fw_runV (As := []) (rest := [.int (nI (0 + 1 + 1 + 1 + 1))]) C hz hw (c_Jx4a65c_size_8abf5 l G _ _ (sl j) ars 4 (13, j, 0) (sa j) hs2_11) (fw_cwV hT wd_278 yVJx4a65c_size_8abf5 rfl rfl ⟨Nat.le_of_ble_eq_true rfl, Nat.le_of_ble_eq_true rfl⟩) (fw_recL hz hw hs2_11) rfl hl.1 rfl (Nat.le_of_ble_eq_true rfl) dX8_order_55 ⟨Nat.le_of_ble_eq_true rfl, Nat.le_of_ble_eq_true rfl⟩) hw (fun r F1 H locs hw hp => ?_)
    obtain ⟨hp0, hp⟩ := hp
    rw [hp0] at hw
    refine W.widen (k := 28) (n := 3166) (Nat.le_of_ble_eq_true rfl) (Nat.le_of_ble_eq_true rfl) ?_
    subst hp
    refine lv_icmp_ge (tgt := 111) hx hb dX8_order_58 (by decide) (fun cx => ?_) (fun cx => absurd cx (by decide))
    refine lv_aload_n hx hb dX8_order_111 rfl (lv_at hl 4 rfl) ?_
    refine fw_get (v := .ref lo) hx hb hT fi_RX8 hown hz hw hX11 rfl 2 (by decide) (hT _ wd_177) (fun _ h9 => h9) rfl dX8_order_112 ?_
    have hLoE := hkr11 _ _ _ hLo3 (by simp)
    refine fw_calli (fw_runV (As := []) (rest := []) C hz hw (c_Jx4a65c_size_8abf5 l G _ _ lo al (nO + 1) (1, 2, 0) _ hLoE) (fw_cwV hT wd_278 yVJx4a65c_size_8abf5 rfl rfl ⟨Nat.le_of_ble_eq_true rfl, Nat.le_of_ble_eq_true rfl⟩) (fw_recL hz hw hLoE) rfl hl.1 rfl (Nat.le_of_ble_eq_true rfl) dX8_order_115 ⟨Nat.le_of_ble_eq_true rfl, Nat.le_of_ble_eq_true rfl⟩) hw (fun r F1 H locs hw hp => ?_)
    obtain ⟨hp0, hp⟩ := hp
    rw [hp0] at hw
    refine W.widen (k := 28) (n := 3166) (Nat.le_of_ble_eq_true rfl) (Nat.le_of_ble_eq_true rfl) ?_
    subst hp
    refine lv_iconst (v := (nI 1)) hx hb dX8_order_118 (by decide) ?_
    refine lv_isub hx hb dX8_order_119 ?_
    refine fw_top (pk_sub (by omega)) ?_
    refine fw_top (x' := (nI nO)) (by rw [Nat.add_sub_cancel]) ?_
    have hjE : ∀ k, k < rf_sm f j → F11 ((va_up (va_up (va_up (va_up (va_up (va_up (va_up (va_up wf (nW + 0) j0) (nW + 1) j1) (nW + 2) j2) (nW + 3) j3) (nW + 4) j4) (nW + 5) j5) (nW + 6) j6) (nW + 7) j7) (nW + 2 * k)) = some ((8, nJ + 2 * k, 0), fw_obj 3 [.ref p9, .int (f 9 (12 * j + 3 * k + 1)), .int (rf_cut f nC (f 9 (12 * j + 3 * k)) (f 9 (12 * j + 3 * k + 1)))]) ∧ F11 ((va_up (va_up (va_up (va_up (va_up (va_up (va_up (va_up wf (nW + 0) j0) (nW + 1) j1) (nW + 2) j2) (nW + 3) j3) (nW + 4) j4) (nW + 5) j5) (nW + 6) j6) (nW + 7) j7) (nW + 2 * k + 1)) = some ((8, nJ + 2 * k + 1, 0), fw_obj 3 [.ref p9, .int (f 9 (12 * j + 3 * k + 2)), .int (rf_cut f nC (f 9 (12 * j + 3 * k)) (f 9 (12 * j + 3 * k + 2)))]) := fun k hk => by
        rcases (show k = 0 ∨ k = 1 ∨ k = 2 ∨ k = 3 by omega) with rfl | rfl | rfl | rfl
        · exact ⟨by show F11 ((va_up (va_up (va_up (va_up (va_up (va_up (va_up (va_up wf (nW + 0) j0) (nW + 1) j1) (nW + 2) j2) (nW + 3) j3) (nW + 4) j4) (nW + 5) j5) (nW + 6) j6) (nW + 7) j7) (nW + 0)) = _; rw [va_up_ne _ _ (show nW + 0 ≠ nW + 7 by omega), va_up_ne _ _ (show nW + 0 ≠ nW + 6 by omega), va_up_ne _ _ (show nW + 0 ≠ nW + 5 by omega), va_up_ne _ _ (show nW + 0 ≠ nW + 4 by omega), va_up_ne _ _ (show nW + 0 ≠ nW + 3 by omega), va_up_ne _ _ (show nW + 0 ≠ nW + 2 by omega), va_up_ne _ _ (show nW + 0 ≠ nW + 1 by omega), va_up_self]; exact hjb0, by show F11 ((va_up (va_up (va_up (va_up (va_up (va_up (va_up (va_up wf (nW + 0) j0) (nW + 1) j1) (nW + 2) j2) (nW + 3) j3) (nW + 4) j4) (nW + 5) j5) (nW + 6) j6) (nW + 7) j7) (nW + 1)) = _; rw [va_up_ne _ _ (show nW + 1 ≠ nW + 7 by omega), va_up_ne _ _ (show nW + 1 ≠ nW + 6 by omega), va_up_ne _ _ (show nW + 1 ≠ nW + 5 by omega), va_up_ne _ _ (show nW + 1 ≠ nW + 4 by omega), va_up_ne _ _ (show nW + 1 ≠ nW + 3 by omega), va_up_ne _ _ (show nW + 1 ≠ nW + 2 by omega), va_up_self]; exact hjb1⟩
        · exact ⟨by show F11 ((va_up (va_up (va_up (va_up (va_up (va_up (va_up (va_up wf (nW + 0) j0) (nW + 1) j1) (nW + 2) j2) (nW + 3) j3) (nW + 4) j4) (nW + 5) j5) (nW + 6) j6) (nW + 7) j7) (nW + 2)) = _; rw [va_up_ne _ _ (show nW + 2 ≠ nW + 7 by omega), va_up_ne _ _ (show nW + 2 ≠ nW + 6 by omega), va_up_ne _ _ (show nW + 2 ≠ nW + 5 by omega), va_up_ne _ _ (show nW + 2 ≠ nW + 4 by omega), va_up_ne _ _ (show nW + 2 ≠ nW + 3 by omega), va_up_self]; exact hjb2, by show F11 ((va_up (va_up (va_up (va_up (va_up (va_up (va_up (va_up wf (nW + 0) j0) (nW + 1) j1) (nW + 2) j2) (nW + 3) j3) (nW + 4) j4) (nW + 5) j5) (nW + 6) j6) (nW + 7) j7) (nW + 3)) = _; rw [va_up_ne _ _ (show nW + 3 ≠ nW + 7 by omega), va_up_ne _ _ (show nW + 3 ≠ nW + 6 by omega), va_up_ne _ _ (show nW + 3 ≠ nW + 5 by omega), va_up_ne _ _ (show nW + 3 ≠ nW + 4 by omega), va_up_self]; exact hjb3⟩
        · exact ⟨by show F11 ((va_up (va_up (va_up (va_up (va_up (va_up (va_up (va_up wf (nW + 0) j0) (nW + 1) j1) (nW + 2) j2) (nW + 3) j3) (nW + 4) j4) (nW + 5) j5) (nW + 6) j6) (nW + 7) j7) (nW + 4)) = _; rw [va_up_ne _ _ (show nW + 4 ≠ nW + 7 by omega), va_up_ne _ _ (show nW + 4 ≠ nW + 6 by omega), va_up_ne _ _ (show nW + 4 ≠ nW + 5 by omega), va_up_self]; exact hjb4, by show F11 ((va_up (va_up (va_up (va_up (va_up (va_up (va_up (va_up wf (nW + 0) j0) (nW + 1) j1) (nW + 2) j2) (nW + 3) j3) (nW + 4) j4) (nW + 5) j5) (nW + 6) j6) (nW + 7) j7) (nW + 5)) = _; rw [va_up_ne _ _ (show nW + 5 ≠ nW + 7 by omega), va_up_ne _ _ (show nW + 5 ≠ nW + 6 by omega), va_up_self]; exact hjb5⟩
        · exact ⟨by show F11 ((va_up (va_up (va_up (va_up (va_up (va_up (va_up (va_up wf (nW + 0) j0) (nW + 1) j1) (nW + 2) j2) (nW + 3) j3) (nW + 4) j4) (nW + 5) j5) (nW + 6) j6) (nW + 7) j7) (nW + 6)) = _; rw [va_up_ne _ _ (show nW + 6 ≠ nW + 7 by omega), va_up_self]; exact hjb6, by show F11 ((va_up (va_up (va_up (va_up (va_up (va_up (va_up (va_up wf (nW + 0) j0) (nW + 1) j1) (nW + 2) j2) (nW + 3) j3) (nW + 4) j4) (nW + 5) j5) (nW + 6) j6) (nW + 7) j7) (nW + 7)) = _; rw [va_up_self]; exact hjb7⟩
    rw [← hct] at hp6
    have hp7E : ∀ k, k < rf_sm f j → F11 (ms k) = some ((7, nO, k), fw_obj 5 [.ref (sa j k), .int (nI 0)]) := fun k hk => hkr11 _ _ _ (hp7 k (by omega)) (by simp)
    refine vx_ret ?_
    exact fw_iret hx hb hr hlk (Nat.le_of_ble_eq_true rfl) (Nat.le_of_ble_eq_true rfl) hw dX8_order_120 (⟨j, p9, qm, am, ms, al, aw7, (va_up (va_up (va_up (va_up (va_up (va_up (va_up (va_up wf (nW + 0) j0) (nW + 1) j1) (nW + 2) j2) (nW + 3) j3) (nW + 4) j4) (nW + 5) j5) (nW + 6) j6) (nW + 7) j7), hj, rfl, d4, rfl, by rw [hct]; exact hkr11 _ _ _ hp5 (by simp), hkr11 _ _ _ hp6 (by simp), hp7E, hLoE, by rw [hct]; exact hLw11, fun k hk => by rw [va_up_ne _ _ (show k ≠ nW + 7 by omega), va_up_ne _ _ (show k ≠ nW + 6 by omega), va_up_ne _ _ (show k ≠ nW + 5 by omega), va_up_ne _ _ (show k ≠ nW + 4 by omega), va_up_ne _ _ (show k ≠ nW + 3 by omega), va_up_ne _ _ (show k ≠ nW + 2 by omega), va_up_ne _ _ (show k ≠ nW + 1 by omega), va_up_ne _ _ (show k ≠ nW + 0 by omega)], hjE, hkp11⟩)
  · have d4 : ¬ nO < 12 := fun h9 => d4 ((nI_ltI (a := nO) (b := 12) (by omega) (by omega)).mpr h9)
    exact fw_throw (ik := 68) (is := 158) (ic := 72) hx hb hl9 hown (by decide +kernel) wd_282 wd_16 hT (fw_atS hT hcx) fw_otS hz hw (List.mem_of_getElem? (i := 11) rfl) (hl.1.trans hml.symm) dX8_order_18 dX8_order_21 dX8_order_22 dX8_order_24 dX8_order_27 hno ⟨Nat.le_of_ble_eq_true rfl, Nat.le_of_ble_eq_true rfl, Nat.le_of_ble_eq_true rfl, Nat.le_of_ble_eq_true rfl⟩ hlk (Or.inr ⟨rfl, rf_ix_of (by omega) hj, by omega⟩) (Nat.le_of_ble_eq_true rfl) (Nat.le_of_ble_eq_true rfl)
theorem c_X8_order (l : Launch) (G : fw_G) (F : fw_F) (sz : Nat) (x lc lt lo lm lw dr : Nat) (tm : Int32) (ta sl fr : Nat → Nat) (sa : Nat → Nat → Nat) (f : mm_A) (nT : Nat) (ca : Nat → Nat) (nC al0 aw0 nO nW nJ : Nat) (oa wf : Nat → Nat) (t : Int32) (hl9 : l.stackTraces = false) (hX : cr_X F x lc lt lo lm lw dr tm) (hT1 : cr_t F lt ta nT) (hTr : cr_T F ta sl fr sa f nT) (hC : cr_C F lc ca f nC) (hLo : F lo = some ((1, 2, 0), fw_ls al0 nO oa)) (hnO : nO ≤ 12) (hLw : F lw = some ((1, 4, 0), fw_ls aw0 nW wf)) (hnW : nW ≤ 8 * nO) (htok : ∀ j, j < nT → rf_tok f j) : vx_Met l yX8_order (fw_ws yX8_order cX8_order 6 (some (.int))) { frames := 8, cells := 28, slots := 3166, locals := 194 } (va_Pc [.ref x, .int t] (fw_PreX G F sz)) (va_Qi (fun r F1 => ∃ j p q arr ms al aw wf1, j < nT ∧ t = nI j ∧ nO < 12 ∧ r = nI nO ∧ F1 p = some ((5, nO, 0), fw_obj 6 [.ref (ta j), .ref q, .int (nI (2 * rf_sm f j)), .int (-1), .int (nI 0)]) ∧ F1 q = some ((6, nO, 0), fw_ls arr (rf_sm f j) ms) ∧ (∀ k, k < rf_sm f j → F1 (ms k) = some ((7, nO, k), fw_obj 5 [.ref (sa j k), .int (nI 0)])) ∧ F1 lo = some ((1, 2, 0), fw_ls al (nO + 1) (va_up oa nO p)) ∧ F1 lw = some ((1, 4, 0), fw_ls aw (nW + 2 * rf_sm f j) wf1) ∧ (∀ k, k < nW → wf1 k = wf k) ∧ (∀ k, k < rf_sm f j → F1 (wf1 (nW + 2 * k)) = some ((8, nJ + 2 * k, 0), fw_obj 3 [.ref p, .int (f 9 (12 * j + 3 * k + 1)), .int (rf_cut f nC (f 9 (12 * j + 3 * k)) (f 9 (12 * j + 3 * k + 1)))]) ∧ F1 (wf1 (nW + 2 * k + 1)) = some ((8, nJ + 2 * k + 1, 0), fw_obj 3 [.ref p, .int (f 9 (12 * j + 3 * k + 2)), .int (rf_cut f nC (f 9 (12 * j + 3 * k)) (f 9 (12 * j + 3 * k + 2)))])) ∧ fw_kp F F1 (fun w => (w.2.1 = nO ∧ (w.1 = 5 ∨ w.1 = 6 ∨ w.1 = 7)) ∨ w = (1, 2, 0) ∨ w = (1, 4, 0))) (fw_B G (fw_W G F sz)) (fw_W G F sz)) (fw_xc G (fw_W G F sz) F (fun E => (E = "java/lang/IndexOutOfBoundsException" ∧ rf_ix t nT = false) ∨ (E = "java/lang/IllegalStateException" ∧ rf_ix t nT = true ∧ nO = 12))) 28 3166 (fw_W G F sz) := by
  have hnt := hT1.1
  by_cases hi : ∃ j, j < nT ∧ t = nI j
  · obtain ⟨j, hj, rfl⟩ := hi
    have hk := htok j hj
    have h1 := hk.2.1
    have h2 := hk.2.2.1
    have u : ∀ c, rf_sm f j = c → ∀ j', j' < nT → nI j = nI j' → rf_sm f j' = c := fun c hc j' hj' e => by
      have e2 : j = j' := (nI_eq (by omega) (by omega)).mp e
      rw [← e2]; exact hc
    rcases (show rf_sm f j = 1 ∨ rf_sm f j = 2 ∨ rf_sm f j = 3 ∨ rf_sm f j = 4 by omega) with h | h | h | h
    · exact c_X8_order_1 l G F sz x lc lt lo lm lw dr tm ta sl fr sa f nT ca nC al0 aw0 nO nW nJ oa wf (nI j) hl9 hX hT1 hTr hC hLo hnO hLw hnW htok (u _ h)
    · exact c_X8_order_2 l G F sz x lc lt lo lm lw dr tm ta sl fr sa f nT ca nC al0 aw0 nO nW nJ oa wf (nI j) hl9 hX hT1 hTr hC hLo hnO hLw hnW htok (u _ h)
    · exact c_X8_order_3 l G F sz x lc lt lo lm lw dr tm ta sl fr sa f nT ca nC al0 aw0 nO nW nJ oa wf (nI j) hl9 hX hT1 hTr hC hLo hnO hLw hnW htok (u _ h)
    · exact c_X8_order_4 l G F sz x lc lt lo lm lw dr tm ta sl fr sa f nT ca nC al0 aw0 nO nW nJ oa wf (nI j) hl9 hX hT1 hTr hC hLo hnO hLw hnW htok (u _ h)
  · exact c_X8_order_1 l G F sz x lc lt lo lm lw dr tm ta sl fr sa f nT ca nC al0 aw0 nO nW nJ oa wf t hl9 hX hT1 hTr hC hLo hnO hLw hnW htok (fun j hj e => (hi ⟨j, hj, e⟩).elim)
