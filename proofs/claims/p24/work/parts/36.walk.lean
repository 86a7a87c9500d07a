/-! The class: turning by walk. -/
theorem cl_wk {u v a b p q g : Nat} (hg : 0 < g) (hu : g ∣ u * p) (hv : g ∣ v * q) (h : u * b = v * a) : u * p / g * (b * q) = v * q / g * (a * p) := by
  obtain ⟨x, hx⟩ := hu
  obtain ⟨y, hy⟩ := hv
  rw [hx, hy, Nat.mul_div_cancel_left _ hg, Nat.mul_div_cancel_left _ hg]
  apply Nat.eq_of_mul_eq_mul_left hg
  rw [← Nat.mul_assoc, ← hx, ← Nat.mul_assoc g, ← hy, show u * p * (b * q) = (u * b) * (p * q) by ac_rfl, h]
  ac_rfl
theorem cl_wq {u v a b : Nat} (hv : 0 < v) (hb : 0 < b) (h : u * b = v * a) : u / v = a / b := by
  rw [← Nat.mul_div_mul_right u v hb, h, Nat.mul_div_mul_left _ _ hv]
set_option maxHeartbeats 4000000 in
set_option maxRecDepth 100000 in
theorem c_X8_turnedByWalk (l : Launch) (G : fw_G) (F : fw_F) (sz : Nat) (x lc lt lo lm lw dr : Nat) (tm : Int32) (ta sl fr : Nat → Nat) (sa : Nat → Nat → Nat) (f : mm_A) (nT : Nat) (t q : Int32) (hl9 : l.stackTraces = false) (hX : cr_X F x lc lt lo lm lw dr tm) (hT1 : cr_t F lt ta nT) (hTr : cr_T F ta sl fr sa f nT) (htok : ∀ j, j < nT → rf_tok f j) : vx_Met l yX8_turnedByWalk (fw_ws yX8_turnedByWalk cX8_turnedByWalk 6 (some (.int))) { frames := 8, cells := 3, slots := 14, locals := 141 } (va_Pc [.ref x, .int t, .int q] (fw_PreX G F sz)) (va_Qi (fun r F1 => (∃ j9 i9, j9 < nT ∧ t = nI j9 ∧ i9 ≤ 600000 ∧ q = nI i9 ∧ r = nI (i9 * rf_P f j9 1 / rf_P f j9 2)) ∧ fw_kp F F1 (fun u => u.1 = 40)) (fw_B G (fw_W G F sz)) (fw_W G F sz)) (fw_xc G (fw_W G F sz) F (fun E => (E = "java/lang/IndexOutOfBoundsException" ∧ rf_ix t nT = false) ∨ (E = "java/lang/IllegalArgumentException" ∧ rf_ix t nT = true ∧ rf_in q (nI 0) (nI 600000) = false))) 3 14 (fw_W G F sz) := by
  refine fw_metX (lv := [(0, .ref x), (1, .int t), (2, .int q)]) (by decide +kernel) (Nat.le_of_ble_eq_true rfl) rfl ?_
  intro A hA p e s m below meth c ls hx hb hml hown hT hr hlk hno hcx hz hsz hw hAn hl
  rw [← hA]
  have hown : s.vm.findClass RX8 = some m.cls := hown
  have C : CallFix p m c cX8_turnedByWalk 6 s _ fw_tb RX8 := ⟨hx, hb, hml, hown, hT⟩
  obtain ⟨hnt9, arr, hLt⟩ := hT1
  refine lv_aload_n hx hb dX8_turnedByWalk_0 rfl (lv_at hl 0 rfl) ?_
  refine lv_iload_n hx hb dX8_turnedByWalk_1 rfl (lv_at hl 1 rfl) ?_
  refine fw_xcallo (fw_xrunV (As := [.int t]) (rest := []) C hz hcx hw (c_X8_trainAt l G _ _ x lc lt lo lm lw dr tm arr nT ta t hl9 hX hLt hnt9 (fun i hi => ⟨_, _, (hTr i hi).1⟩)) (fw_cwV hT wd_412 yVX8_trainAt rfl rfl ⟨Nat.le_of_ble_eq_true rfl, Nat.le_of_ble_eq_true rfl⟩) (fw_rec hz hw hX (q := vwCl[9]) rfl) rfl hl.1 rfl (Nat.le_of_ble_eq_true rfl) dX8_turnedByWalk_2 ⟨Nat.le_of_ble_eq_true rfl, Nat.le_of_ble_eq_true rfl⟩) hw hno hlk (fun E h => Or.inl h) (Nat.le_of_ble_eq_true rfl) (Nat.le_of_ble_eq_true rfl) (fun r F1 H locs hw hp => ?_)
  obtain ⟨hp0, hp⟩ := hp
  rw [hp0] at hw
  refine W.widen (k := 1) (n := 6) (Nat.le_of_ble_eq_true rfl) (Nat.le_of_ble_eq_true rfl) ?_
  obtain ⟨j, hj, rfl, rfl⟩ := hp
  obtain ⟨hs1, ⟨ars, hs2⟩, hs3, hs4⟩ := hTr j hj
  refine fw_get (v := .ref (sl j)) hx hb hT fi_RX7 hown hz hw hs1 rfl 0 (by decide) (hT _ wd_84) (fun _ h9 => h9) rfl dX8_turnedByWalk_5 ?_
  refine lv_astore_n (lv' := [(3, .ref (sl j)), (0, .ref x), (1, .int (nI j)), (2, .int q)]) hx hb dX8_turnedByWalk_8 rfl hl (by decide) rfl (fun ls hl => ?_)
  refine lv_iload_n hx hb dX8_turnedByWalk_9 rfl (lv_at hl 3 rfl) ?_
  refine fw_xcallv (fw_xrunS (As := [.int q]) (rest := []) C hz hcx hw (c_X8_checkTurns l G _ _ q hl9) (fw_cwS hT wd_644 ySX8_checkTurns rfl rfl ⟨Nat.le_of_ble_eq_true rfl, Nat.le_of_ble_eq_true rfl⟩) rfl hl.1 rfl (Nat.le_of_ble_eq_true rfl) dX8_turnedByWalk_10 ⟨Nat.le_of_ble_eq_true rfl, Nat.le_of_ble_eq_true rfl⟩) hw hno hlk (fun E h => Or.inr ⟨h.1, rf_ix_of (by omega) hj, h.2⟩) (Nat.le_of_ble_eq_true rfl) (Nat.le_of_ble_eq_true rfl) (fun F1 H locs hw hp => ?_)
  refine W.widen (k := 2) (n := 12) (Nat.le_of_ble_eq_true rfl) (Nat.le_of_ble_eq_true rfl) ?_
  obtain ⟨hp0, hq9⟩ := hp
  rw [hp0] at hw
  obtain ⟨i, hi, rfl⟩ : ∃ i, i ≤ 600000 ∧ q = nI i := nI_of2 (M := nI 600000) (by decide) (Int32.not_lt.mpr (rf_in_t.mp hq9).1) (rf_in_t.mp hq9).2
  have k0 := htok j hj
  have k1 := rf_P_ok k0 (w := 1) (Or.inl rfl)
  have k2 := rf_P_ok k0 (w := 2) (Or.inr rfl)
  have hsm4 := k0.2.2.1
  refine fw_new (40, 0, 0) (ci := 2) (fs := [.long (lN 0), .long (lN 0)]) hx hb hT fi_RX1 tyX1 tyX1_ok hown (hT _ wd_649) (hT _ wd_68) (hT _ wd_6) hz hw hAn rfl (by intro j hj; rcases (show j = 0 ∨ j = 1 by omega) with rfl | rfl <;> rfl) (Nat.le_of_ble_eq_true rfl) (Nat.le_of_ble_eq_true rfl) dX8_turnedByWalk_13 (fun b9 H hqb9 hw => ?_)
  refine W.widen (k := 3) (n := 14) (Nat.le_of_ble_eq_true rfl) (Nat.le_of_ble_eq_true rfl) ?_
  obtain ⟨W1, hFW1⟩ : ∃ z, z = va_up F b9 (some ((40, 0, 0), fw_obj 2 [.long (lN 0), .long (lN 0)])) := ⟨_, rfl⟩
  rw [← hFW1] at hw
  have k1_0 : W1 x = some ((50, 0, 0), fw_obj 9 [.ref lc, .ref lt, .ref lo, .ref lm, .ref lw, .ref dr, .int tm]) := by rw [hFW1]; exact fw_up_new hX hqb9
  have k1_1 : W1 (ta j) = some ((3, j, 0), fw_obj 8 [.ref (sl j), .ref (fr j), .int (f 10 j)]) := by rw [hFW1]; exact fw_up_new hs1 hqb9
  have k1_2 : W1 (sl j) = some ((13, j, 0), fw_ls ars (rf_sm f j) (sa j)) := by rw [hFW1]; exact fw_up_new hs2 hqb9
  have k1_3 : W1 (fr j) = some ((33, j, 0), fw_obj 2 [.long (lN (rf_P f j 2 / cr_g f j)), .long (lN (rf_P f j 1 / cr_g f j))]) := by rw [hFW1]; exact fw_up_new hs3 hqb9
  have k1_s : W1 b9 = some ((40, 0, 0), fw_obj 2 [.long (lN 0), .long (lN 0)]) := by rw [hFW1]; exact fw_up_self
  refine lv_dup hx hb dX8_turnedByWalk_16 rfl ?_
  refine lv_iload_n hx hb dX8_turnedByWalk_17 rfl (lv_at hl 3 rfl) ?_
  refine lv_i2l (v := lN i) hx hb dX8_turnedByWalk_18 (nI_l (by omega)) ?_
  refine fw_callv (fw_runI (As := [.long (lN i)]) (rest := [.ref b9]) C hz hw (c_X1_init l G _ _ b9 (40, 0, 0) i k1_s) (fw_cwI hT wd_650 yIX1_init rfl rfl ⟨Nat.le_of_ble_eq_true rfl, Nat.le_of_ble_eq_true rfl⟩) rfl hl.1 rfl (Nat.le_of_ble_eq_true rfl) dX8_turnedByWalk_19 ⟨Nat.le_of_ble_eq_true rfl, Nat.le_of_ble_eq_true rfl⟩) hw (fun F1 H locs hw hp => ?_)
  refine W.widen (k := 3) (n := 14) (Nat.le_of_ble_eq_true rfl) (Nat.le_of_ble_eq_true rfl) ?_
  rw [hp] at hw
  obtain ⟨W2, hFW2⟩ : ∃ z, z = va_up W1 b9 (some ((40, 0, 0), fw_obj 2 [.long (lN i), .long (lN 1)])) := ⟨_, rfl⟩
  rw [← hFW2] at hw
  have k2_0 : W2 x = some ((50, 0, 0), fw_obj 9 [.ref lc, .ref lt, .ref lo, .ref lm, .ref lw, .ref dr, .int tm]) := by rw [hFW2]; exact fw_up_tag k1_0 k1_s (by intro z; cases z)
  have k2_1 : W2 (ta j) = some ((3, j, 0), fw_obj 8 [.ref (sl j), .ref (fr j), .int (f 10 j)]) := by rw [hFW2]; exact fw_up_tag k1_1 k1_s (by intro z; cases z)
  have k2_2 : W2 (sl j) = some ((13, j, 0), fw_ls ars (rf_sm f j) (sa j)) := by rw [hFW2]; exact fw_up_tag k1_2 k1_s (by intro z; cases z)
  have k2_3 : W2 (fr j) = some ((33, j, 0), fw_obj 2 [.long (lN (rf_P f j 2 / cr_g f j)), .long (lN (rf_P f j 1 / cr_g f j))]) := by rw [hFW2]; exact fw_up_tag k1_3 k1_s (by intro z; cases z)
  have k2_s : W2 b9 = some ((40, 0, 0), fw_obj 2 [.long (lN i), .long (lN 1)]) := by rw [hFW2]; exact fw_up_self
  refine lv_astore (lv' := [(4, .ref b9), (3, .ref (sl j)), (0, .ref x), (1, .int (nI j)), (2, .int (nI i))]) hx hb dX8_turnedByWalk_22 hl (by decide) rfl (fun ls hl => ?_)
  refine lv_iconst (v := (nI 0)) hx hb dX8_turnedByWalk_24 (by decide) ?_
  refine lv_istore (lv' := [(5, .int (nI 0)), (4, .ref b9), (3, .ref (sl j)), (0, .ref x), (1, .int (nI j)), (2, .int (nI i))]) hx hb dX8_turnedByWalk_25 hl (by decide) rfl (fun ls hl => ?_)
  have hkp0 : fw_kp F W2 (fun u => u.1 = 40) := by rw [hFW2, hFW1, bx_uu]; exact fw_kp.rf.new hqb9
  suffices hlp : ∀ (d k : Nat) (F1 : fw_F) (u v : Nat), k + d = rf_sm f j → F1 b9 = some ((40, 0, 0), fw_obj 2 [.long (lN u), .long (lN v)]) → u * rf_pn f j 2 k = v * (i * rf_pn f j 1 k) → 0 < v → u ≤ i * rf_pn f j 1 k → v ≤ rf_pn f j 2 k → fw_kp F F1 (fun u => u.1 = 40) → ∀ (H : Heap) (locs : List Loc) (ls : Array Slot), fw_S G A s F1 H locs → lv_has ls 6 [(5, .int (nI k)), (4, .ref b9), (3, .ref (sl j))] → W p l e { frames := 8, cells := 3, slots := 14, locals := 141 } s m ([.ref x, .int (nI j), .int (nI i)] : List Value).toArray below meth c H locs 3 14 (vx_MQ below (va_Qi (fun r F1 => (∃ j9 i9, j9 < nT ∧ nI j = nI j9 ∧ i9 ≤ 600000 ∧ nI i = nI i9 ∧ r = nI (i9 * rf_P f j9 1 / rf_P f j9 2)) ∧ fw_kp F F1 (fun u => u.1 = 40)) (fw_B G A) A) (fw_xc G A F (fun E => (E = "java/lang/IndexOutOfBoundsException" ∧ rf_ix (nI j) nT = false) ∨ (E = "java/lang/IllegalArgumentException" ∧ rf_ix (nI j) nT = true ∧ rf_in (nI i) (nI 0) (nI 600000) = false))) ([.ref x, .int (nI j), .int (nI i)] : List Value).toArray s 3 14 A) (F0 m 27 ls []) by
    exact hlp (rf_sm f j) 0 _ i 1 (Nat.zero_add _) k2_s (by show i * 1 = 1 * (i * 1); omega) (by decide) (by show i ≤ i * 1; omega) (Nat.le_refl _) hkp0 _ _ _ hw (lv_sub hl [0, 1, 2] rfl)
  intro d
  induction d with
  | zero =>
    intro k E1 u v hk hb1 heq hv0 hu hvv hkp H locs ls hw hl
    obtain ⟨-, g1, g2⟩ := rf_prod_n k0 (w := 1) (Or.inl rfl) k (by omega)
    obtain ⟨-, g3, g4⟩ := rf_prod_n k0 (w := 2) (Or.inr rfl) k (by omega)
    have g5 : 60 ^ k ≤ 60 ^ 4 := Nat.pow_le_pow_right (by decide) (by omega)
    have g6 : i * rf_pn f j 1 k ≤ 600000 * 12960000 := Nat.mul_le_mul hi (by omega)
    have hs2k := hkp _ _ _ hs2 (by simp)
    refine lv_iload hx hb dX8_turnedByWalk_27 (lv_at hl 0 rfl) ?_
    refine lv_aload_n hx hb dX8_turnedByWalk_29 rfl (lv_at hl 2 rfl) ?_
    refine fw_calli (fw_runV (As := []) (rest := [.int (nI k)]) C hz hw (c_Jx4a65c_size_8abf5 l G _ _ (sl j) ars (rf_sm f j) (13, j, 0) (sa j) hs2k) (fw_cwV hT wd_278 yVJx4a65c_size_8abf5 rfl rfl ⟨Nat.le_of_ble_eq_true rfl, Nat.le_of_ble_eq_true rfl⟩) (fw_recL hz hw hs2k) rfl hl.1 rfl (Nat.le_of_ble_eq_true rfl) dX8_turnedByWalk_30 ⟨Nat.le_of_ble_eq_true rfl, Nat.le_of_ble_eq_true rfl⟩) hw (fun r F1 H locs hw hp => ?_)
    obtain ⟨hp0, hp⟩ := hp
    rw [hp0] at hw
    refine W.widen (k := 3) (n := 14) (Nat.le_of_ble_eq_true rfl) (Nat.le_of_ble_eq_true rfl) ?_
    subst hp
    refine lv_icmp_ge (tgt := 73) hx hb dX8_turnedByWalk_33 (by decide) (fun d9 => ?_) (fun d9 => ?_)
    · have d9 := (nI_leI (a := (rf_sm f j)) (b := k) (by omega) (by omega)).mp d9
      obtain rfl : k = rf_sm f j := by omega
      refine lv_aload hx hb dX8_turnedByWalk_73 (lv_at hl 1 rfl) ?_
      refine fw_calli (fw_runV (As := []) (rest := []) C hz hw (c_X1_roundedDown l G _ _ b9 (40, 0, 0) u v hb1 (by omega) (by omega) hv0) (fw_cwV hT wd_652 yVX1_roundedDown rfl rfl ⟨Nat.le_of_ble_eq_true rfl, Nat.le_of_ble_eq_true rfl⟩) (fw_rec hz hw hb1 (q := vwCl[2]) rfl) rfl hl.1 rfl (Nat.le_of_ble_eq_true rfl) dX8_turnedByWalk_75 ⟨Nat.le_of_ble_eq_true rfl, Nat.le_of_ble_eq_true rfl⟩) hw (fun r F1 H locs hw hp => ?_)
      obtain ⟨hp0, hp⟩ := hp
      rw [hp0] at hw
      refine W.widen (k := 3) (n := 14) (Nat.le_of_ble_eq_true rfl) (Nat.le_of_ble_eq_true rfl) ?_
      subst hp
      refine vx_ret ?_
      exact fw_iret hx hb hr hlk (Nat.le_of_ble_eq_true rfl) (Nat.le_of_ble_eq_true rfl) hw dX8_turnedByWalk_78 (⟨⟨j, i, hj, rfl, hi, rfl, by rw [cl_wq hv0 (show 0 < rf_P f j 2 by omega) heq]; rfl⟩, hkp⟩)
    · have d9 : ¬ (rf_sm f j) ≤ k := fun h9 => d9 ((nI_leI (a := (rf_sm f j)) (b := k) (by omega) (by omega)).mpr h9)
      omega
  | succ d ih =>
    intro k E1 u v hk hb1 heq hv0 hu hvv hkp H locs ls hw hl
    obtain ⟨-, g1, g2⟩ := rf_prod_n k0 (w := 1) (Or.inl rfl) k (by omega)
    obtain ⟨-, g3, g4⟩ := rf_prod_n k0 (w := 2) (Or.inr rfl) k (by omega)
    have g5 : 60 ^ k ≤ 60 ^ 4 := Nat.pow_le_pow_right (by decide) (by omega)
    have g6 : i * rf_pn f j 1 k ≤ 600000 * 12960000 := Nat.mul_le_mul hi (by omega)
    have hs2k := hkp _ _ _ hs2 (by simp)
    refine lv_iload hx hb dX8_turnedByWalk_27 (lv_at hl 0 rfl) ?_
    refine lv_aload_n hx hb dX8_turnedByWalk_29 rfl (lv_at hl 2 rfl) ?_
    refine fw_calli (fw_runV (As := []) (rest := [.int (nI k)]) C hz hw (c_Jx4a65c_size_8abf5 l G _ _ (sl j) ars (rf_sm f j) (13, j, 0) (sa j) hs2k) (fw_cwV hT wd_278 yVJx4a65c_size_8abf5 rfl rfl ⟨Nat.le_of_ble_eq_true rfl, Nat.le_of_ble_eq_true rfl⟩) (fw_recL hz hw hs2k) rfl hl.1 rfl (Nat.le_of_ble_eq_true rfl) dX8_turnedByWalk_30 ⟨Nat.le_of_ble_eq_true rfl, Nat.le_of_ble_eq_true rfl⟩) hw (fun r F1 H locs hw hp => ?_)
    obtain ⟨hp0, hp⟩ := hp
    rw [hp0] at hw
    refine W.widen (k := 3) (n := 14) (Nat.le_of_ble_eq_true rfl) (Nat.le_of_ble_eq_true rfl) ?_
    subst hp
    refine lv_icmp_ge (tgt := 73) hx hb dX8_turnedByWalk_33 (by decide) (fun d9 => ?_) (fun d9 => ?_)
    · have d9 := (nI_leI (a := (rf_sm f j)) (b := k) (by omega) (by omega)).mp d9
      omega
    · have d9 : ¬ (rf_sm f j) ≤ k := fun h9 => d9 ((nI_leI (a := (rf_sm f j)) (b := k) (by omega) (by omega)).mpr h9)
      have hk9 : k < rf_sm f j := by omega
      have hs9 := hkp _ _ _ (hs4 k hk9) (by simp)
      obtain ⟨e1, b1, b2⟩ := (k0.2.2.2 k hk9).2 1 (Or.inl rfl)
      obtain ⟨e2, b3, b4⟩ := (k0.2.2.2 k hk9).2 2 (Or.inr rfl)
      obtain ⟨-, c1, c2⟩ := rf_prod_n k0 (w := 1) (Or.inl rfl) (k + 1) (by omega)
      obtain ⟨-, c3, c4⟩ := rf_prod_n k0 (w := 2) (Or.inr rfl) (k + 1) (by omega)
      have c5 : 60 ^ (k + 1) ≤ 60 ^ 4 := Nat.pow_le_pow_right (by decide) (by omega)
      have c6 : u * rf_st f (12 * j + 3 * k + 1) ≤ i * rf_pn f j 1 (k + 1) := by rw [rf_pn, ← Nat.mul_assoc]; exact Nat.mul_le_mul hu (Nat.le_refl _)
      have c7 : v * rf_st f (12 * j + 3 * k + 2) ≤ rf_pn f j 2 (k + 1) := Nat.mul_le_mul hvv (Nat.le_refl _)
      have c8 : i * rf_pn f j 1 (k + 1) ≤ 600000 * 12960000 := Nat.mul_le_mul hi (by omega)
      have c9 : u * rf_st f (12 * j + 3 * k + 1) * (v * rf_st f (12 * j + 3 * k + 2)) ≤ 600000 * 12960000 * 12960000 := Nat.mul_le_mul (by omega) (by omega)
      have c10 : 0 < v * rf_st f (12 * j + 3 * k + 2) := Nat.mul_pos hv0 (by omega)
      refine lv_aload hx hb dX8_turnedByWalk_36 (lv_at hl 1 rfl) ?_
      refine lv_aload_n hx hb dX8_turnedByWalk_38 rfl (lv_at hl 2 rfl) ?_
      refine lv_iload hx hb dX8_turnedByWalk_39 (lv_at hl 0 rfl) ?_
      refine fw_callo (fw_runV (As := [.int (nI k)]) (rest := [.ref b9]) C hz hw (c_Jx4a65c_get_915e3 l G _ _ (sl j) ars (rf_sm f j) (13, j, 0) (sa j) k hs2k hk9 (by omega)) (fw_cwV hT wd_323 yVJx4a65c_get_915e3 rfl rfl ⟨Nat.le_of_ble_eq_true rfl, Nat.le_of_ble_eq_true rfl⟩) (fw_recL hz hw hs2k) rfl hl.1 rfl (Nat.le_of_ble_eq_true rfl) dX8_turnedByWalk_41 ⟨Nat.le_of_ble_eq_true rfl, Nat.le_of_ble_eq_true rfl⟩) hw (fun r F1 H locs hw hp => ?_)
      obtain ⟨hp0, hp⟩ := hp
      rw [hp0] at hw
      refine W.widen (k := 3) (n := 14) (Nat.le_of_ble_eq_true rfl) (Nat.le_of_ble_eq_true rfl) ?_
      subst hp
      refine fw_cast hx hb hown hz hw hs9 (q := vwCl[7]) rfl (hT _ wd_347) dX8_turnedByWalk_44 ?_
      refine fw_get (v := .int (f 9 (12 * j + 3 * k + 1))) hx hb hT fi_RX6 hown hz hw hs9 rfl 1 (by decide) (hT _ wd_358) (fun _ h9 => h9) rfl dX8_turnedByWalk_47 ?_
      refine fw_top (x' := (nI (rf_st f (12 * j + 3 * k + 1)))) (e1) ?_
      refine lv_i2l (v := lN (rf_st f (12 * j + 3 * k + 1))) hx hb dX8_turnedByWalk_50 (nI_l (by omega)) ?_
      refine lv_aload_n hx hb dX8_turnedByWalk_51 rfl (lv_at hl 2 rfl) ?_
      refine lv_iload hx hb dX8_turnedByWalk_52 (lv_at hl 0 rfl) ?_
      refine fw_callo (fw_runV (As := [.int (nI k)]) (rest := [.long (lN (rf_st f (12 * j + 3 * k + 1))), .ref b9]) C hz hw (c_Jx4a65c_get_915e3 l G _ _ (sl j) ars (rf_sm f j) (13, j, 0) (sa j) k hs2k hk9 (by omega)) (fw_cwV hT wd_323 yVJx4a65c_get_915e3 rfl rfl ⟨Nat.le_of_ble_eq_true rfl, Nat.le_of_ble_eq_true rfl⟩) (fw_recL hz hw hs2k) rfl hl.1 rfl (Nat.le_of_ble_eq_true rfl) dX8_turnedByWalk_54 ⟨Nat.le_of_ble_eq_true rfl, Nat.le_of_ble_eq_true rfl⟩) hw (fun r F1 H locs hw hp => ?_)
      obtain ⟨hp0, hp⟩ := hp
      rw [hp0] at hw
      refine W.widen (k := 3) (n := 14) (Nat.le_of_ble_eq_true rfl) (Nat.le_of_ble_eq_true rfl) ?_
      subst hp
      refine fw_cast hx hb hown hz hw hs9 (q := vwCl[7]) rfl (hT _ wd_347) dX8_turnedByWalk_57 ?_
      refine fw_get (v := .int (f 9 (12 * j + 3 * k + 2))) hx hb hT fi_RX6 hown hz hw hs9 rfl 2 (by decide) (hT _ wd_361) (fun _ h9 => h9) rfl dX8_turnedByWalk_60 ?_
      refine fw_top (x' := (nI (rf_st f (12 * j + 3 * k + 2)))) (e2) ?_
      refine lv_i2l (v := lN (rf_st f (12 * j + 3 * k + 2))) hx hb dX8_turnedByWalk_63 (nI_l (by omega)) ?_
      refine fw_callv (fw_runV (As := [.long (lN (rf_st f (12 * j + 3 * k + 1))), .long (lN (rf_st f (12 * j + 3 * k + 2)))]) (rest := []) C hz hw (c_X1_multiply l G _ _ b9 (40, 0, 0) u v (rf_st f (12 * j + 3 * k + 1)) (rf_st f (12 * j + 3 * k + 2)) hb1 (by omega) (by omega) (by omega) c10) (fw_cwV hT wd_651 yVX1_multiply rfl rfl ⟨Nat.le_of_ble_eq_true rfl, Nat.le_of_ble_eq_true rfl⟩) (fw_rec hz hw hb1 (q := vwCl[2]) rfl) rfl hl.1 rfl (Nat.le_of_ble_eq_true rfl) dX8_turnedByWalk_64 ⟨Nat.le_of_ble_eq_true rfl, Nat.le_of_ble_eq_true rfl⟩) hw (fun F1 H locs hw hp => ?_)
      refine W.widen (k := 3) (n := 14) (Nat.le_of_ble_eq_true rfl) (Nat.le_of_ble_eq_true rfl) ?_
      rw [hp] at hw
      have hgp : 0 < Nat.gcd (u * rf_st f (12 * j + 3 * k + 1)) (v * rf_st f (12 * j + 3 * k + 2)) := Nat.gcd_pos_of_pos_right _ c10
      have hl1 := Nat.div_le_self (u * rf_st f (12 * j + 3 * k + 1)) (Nat.gcd (u * rf_st f (12 * j + 3 * k + 1)) (v * rf_st f (12 * j + 3 * k + 2)))
      have hl2 := Nat.div_le_self (v * rf_st f (12 * j + 3 * k + 2)) (Nat.gcd (u * rf_st f (12 * j + 3 * k + 1)) (v * rf_st f (12 * j + 3 * k + 2)))
      refine lv_iinc (v := (nI (k + 1))) (lv' := [(5, .int (nI (k + 1))), (4, .ref b9), (3, .ref (sl j))]) hx hb dX8_turnedByWalk_67 hl (k := 0) rfl (nI_1 _) (by decide) rfl (fun ls hl => ?_)
      refine lv_goto (tgt := 27) hx hb dX8_turnedByWalk_70 (by decide) ?_
      exact ih (k + 1) _ (u * rf_st f (12 * j + 3 * k + 1) / (Nat.gcd (u * rf_st f (12 * j + 3 * k + 1)) (v * rf_st f (12 * j + 3 * k + 2)))) (v * rf_st f (12 * j + 3 * k + 2) / (Nat.gcd (u * rf_st f (12 * j + 3 * k + 1)) (v * rf_st f (12 * j + 3 * k + 2)))) (by omega) fw_up_self (by rw [rf_pn, rf_pn, ← Nat.mul_assoc i]; exact cl_wk hgp (Nat.gcd_dvd_left _ _) (Nat.gcd_dvd_right _ _) heq) (Nat.div_pos (Nat.le_of_dvd c10 (Nat.gcd_dvd_right _ _)) hgp) (by omega) (by omega) (hkp.up hb1 rfl) _ _ _ hw (lv_sub hl [0, 1, 2] rfl)
