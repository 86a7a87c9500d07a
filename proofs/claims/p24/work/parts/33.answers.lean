/-! The class's answers. -/
def cr_g (f : mm_A) (i : Nat) : Nat := Nat.gcd (rf_P f i 2) (rf_P f i 1)
def cr_t (F : fw_F) (lt : Nat) (ta : Nat → Nat) (nT : Nat) : Prop := nT ≤ 8 ∧ ∃ arr, F lt = some ((1, 1, 0), fw_ls arr nT ta)
def cr_T (F : fw_F) (ta sl fr : Nat → Nat) (sa : Nat → Nat → Nat) (f : mm_A) (nT : Nat) : Prop := ∀ i, i < nT → F (ta i) = some ((3, i, 0), fw_obj 8 [.ref (sl i), .ref (fr i), .int (f 10 i)]) ∧ (∃ arr, F (sl i) = some ((13, i, 0), fw_ls arr (rf_sm f i) (sa i))) ∧ F (fr i) = some ((33, i, 0), fw_obj 2 [.long (lN (rf_P f i 2 / cr_g f i)), .long (lN (rf_P f i 1 / cr_g f i))]) ∧ ∀ k, k < rf_sm f i → F (sa i k) = some ((23, i, k), fw_obj 7 [.int (f 9 (12 * i + 3 * k)), .int (f 9 (12 * i + 3 * k + 1)), .int (f 9 (12 * i + 3 * k + 2))])
def cr_o (F : fw_F) (lo : Nat) (oa : Nat → Nat) (nO : Nat) : Prop := nO ≤ 12 ∧ ∃ arr, F lo = some ((1, 2, 0), fw_ls arr nO oa)
theorem rf_ix_of {n j : Nat} (hn : n ≤ 100) (hj : j < n) : rf_ix (nI j) n = true := rf_in_of hn hj rfl
/-- the fraction's quotient -/
theorem cl_quo {a b g : Nat} (hg : 0 < g) (ha : g ∣ a) (hb : g ∣ b) : a / g / (b / g) = a / b := by
  obtain ⟨a', rfl⟩ := ha
  obtain ⟨b', rfl⟩ := hb
  rw [Nat.mul_div_cancel_left _ hg, Nat.mul_div_cancel_left _ hg, Nat.mul_div_mul_left _ _ hg]
theorem cl_tq {i p q : Nat} (hq : 0 < q) : i * (p / Nat.gcd q p) / Nat.gcd (i * (p / Nat.gcd q p)) (1 * (q / Nat.gcd q p)) / (1 * (q / Nat.gcd q p) / Nat.gcd (i * (p / Nat.gcd q p)) (1 * (q / Nat.gcd q p))) = i * p / q := by
  have hg : 0 < Nat.gcd q p := Nat.gcd_pos_of_pos_left _ hq
  obtain ⟨q', hq'⟩ := Nat.gcd_dvd_left q p
  obtain ⟨p', hp'⟩ := Nat.gcd_dvd_right q p
  generalize Nat.gcd q p = g at hg hq' hp' ⊢
  subst hq' hp'
  have hq0 : 0 < q' := Nat.pos_of_mul_pos_left hq
  rw [Nat.mul_div_cancel_left _ hg, Nat.mul_div_cancel_left _ hg, Nat.one_mul, cl_quo (Nat.gcd_pos_of_pos_right _ hq0) (Nat.gcd_dvd_left _ _) (Nat.gcd_dvd_right _ _), Nat.mul_left_comm, Nat.mul_div_mul_left _ _ hg]
set_option maxHeartbeats 4000000 in
set_option maxRecDepth 100000 in
theorem c_X8_cutterOn (l : Launch) (G : fw_G) (F : fw_F) (sz : Nat) (x lc lt lo lm lw dr : Nat) (tm : Int32) (ma : Nat → Nat) (f : mm_A) (jb : Nat → Option Nat) (lf : Nat → Int32) (t : Int32) (hl9 : l.stackTraces = false) (hX : cr_X F x lc lt lo lm lw dr tm) (hM : cr_M F lm ma f jb lf) : vx_Met l yX8_cutterOn (fw_ws yX8_cutterOn cX8_cutterOn 2 (some (.int))) { frames := 8, cells := 1, slots := 6, locals := 141 } (va_Pc [.ref x, .int t] (fw_PreX G F sz)) (va_Qi (fun r F1 => F1 = F ∧ (fun r => ∃ j, j < 3 ∧ t = nI j ∧ r = f 22 j) r) (fw_B G (fw_W G F sz)) (fw_W G F sz)) (fw_xc G (fw_W G F sz) F (fun E => E = "java/lang/IndexOutOfBoundsException" ∧ rf_ix t 3 = false)) 1 6 (fw_W G F sz) := by
  refine fw_metX (lv := [(0, .ref x), (1, .int t)]) (by decide +kernel) (Nat.le_of_ble_eq_true rfl) rfl ?_
  intro A hA p e s m below meth c ls hx hb hml hown hT hr hlk hno hcx hz hsz hw hAn hl
  rw [← hA]
  have hown : s.vm.findClass RX8 = some m.cls := hown
  have C : CallFix p m c cX8_cutterOn 2 s _ fw_tb RX8 := ⟨hx, hb, hml, hown, hT⟩
  obtain ⟨⟨arr, hLm⟩, hms⟩ := hM
  refine lv_aload_n hx hb dX8_cutterOn_0 rfl (lv_at hl 0 rfl) ?_
  refine lv_iload_n hx hb dX8_cutterOn_1 rfl (lv_at hl 1 rfl) ?_
  refine fw_xcallo (fw_xrunV (As := [.int t]) (rest := []) C hz hcx hw (c_X8_machineAt l G _ _ x lc lt lo lm lw dr tm arr ma t hl9 hX hLm (fun i hi => ⟨_, _, hms i hi⟩)) (fw_cwV hT wd_612 yVX8_machineAt rfl rfl ⟨Nat.le_of_ble_eq_true rfl, Nat.le_of_ble_eq_true rfl⟩) (fw_rec hz hw hX (q := vwCl[9]) rfl) rfl hl.1 rfl (Nat.le_of_ble_eq_true rfl) dX8_cutterOn_2 ⟨Nat.le_of_ble_eq_true rfl, Nat.le_of_ble_eq_true rfl⟩) hw hno hlk (fun E h => h) (Nat.le_of_ble_eq_true rfl) (Nat.le_of_ble_eq_true rfl) (fun r F1 H locs hw hp => ?_)
  obtain ⟨hp0, hp⟩ := hp
  rw [hp0] at hw
  refine W.widen (k := 1) (n := 6) (Nat.le_of_ble_eq_true rfl) (Nat.le_of_ble_eq_true rfl) ?_
  obtain ⟨j, hj, rfl, rfl⟩ := hp
  have hs9 := hms j hj
  refine fw_get (v := .int (f 22 j)) hx hb hT fi_RX3 hown hz hw hs9 rfl 0 (by decide) (hT _ wd_103) (fun _ h9 => h9) rfl dX8_cutterOn_5 ?_
  refine vx_ret ?_
  exact fw_iret hx hb hr hlk (Nat.le_of_ble_eq_true rfl) (Nat.le_of_ble_eq_true rfl) hw dX8_cutterOn_8 (⟨rfl, ⟨j, hj, rfl, rfl⟩⟩)
set_option maxHeartbeats 4000000 in
set_option maxRecDepth 100000 in
theorem c_X8_ticksLeft (l : Launch) (G : fw_G) (F : fw_F) (sz : Nat) (x lc lt lo lm lw dr : Nat) (tm : Int32) (ma : Nat → Nat) (f : mm_A) (jb : Nat → Option Nat) (lf : Nat → Int32) (t : Int32) (hl9 : l.stackTraces = false) (hX : cr_X F x lc lt lo lm lw dr tm) (hM : cr_M F lm ma f jb lf) : vx_Met l yX8_ticksLeft (fw_ws yX8_ticksLeft cX8_ticksLeft 2 (some (.int))) { frames := 8, cells := 1, slots := 6, locals := 141 } (va_Pc [.ref x, .int t] (fw_PreX G F sz)) (va_Qi (fun r F1 => F1 = F ∧ (fun r => ∃ j, j < 3 ∧ t = nI j ∧ r = lf j) r) (fw_B G (fw_W G F sz)) (fw_W G F sz)) (fw_xc G (fw_W G F sz) F (fun E => E = "java/lang/IndexOutOfBoundsException" ∧ rf_ix t 3 = false)) 1 6 (fw_W G F sz) := by
  refine fw_metX (lv := [(0, .ref x), (1, .int t)]) (by decide +kernel) (Nat.le_of_ble_eq_true rfl) rfl ?_
  intro A hA p e s m below meth c ls hx hb hml hown hT hr hlk hno hcx hz hsz hw hAn hl
  rw [← hA]
  have hown : s.vm.findClass RX8 = some m.cls := hown
  have C : CallFix p m c cX8_ticksLeft 2 s _ fw_tb RX8 := ⟨hx, hb, hml, hown, hT⟩
  obtain ⟨⟨arr, hLm⟩, hms⟩ := hM
  refine lv_aload_n hx hb dX8_ticksLeft_0 rfl (lv_at hl 0 rfl) ?_
  refine lv_iload_n hx hb dX8_ticksLeft_1 rfl (lv_at hl 1 rfl) ?_
  refine fw_xcallo (fw_xrunV (As := [.int t]) (rest := []) C hz hcx hw (c_X8_machineAt l G _ _ x lc lt lo lm lw dr tm arr ma t hl9 hX hLm (fun i hi => ⟨_, _, hms i hi⟩)) (fw_cwV hT wd_612 yVX8_machineAt rfl rfl ⟨Nat.le_of_ble_eq_true rfl, Nat.le_of_ble_eq_true rfl⟩) (fw_rec hz hw hX (q := vwCl[9]) rfl) rfl hl.1 rfl (Nat.le_of_ble_eq_true rfl) dX8_ticksLeft_2 ⟨Nat.le_of_ble_eq_true rfl, Nat.le_of_ble_eq_true rfl⟩) hw hno hlk (fun E h => h) (Nat.le_of_ble_eq_true rfl) (Nat.le_of_ble_eq_true rfl) (fun r F1 H locs hw hp => ?_)
  obtain ⟨hp0, hp⟩ := hp
  rw [hp0] at hw
  refine W.widen (k := 1) (n := 6) (Nat.le_of_ble_eq_true rfl) (Nat.le_of_ble_eq_true rfl) ?_
  obtain ⟨j, hj, rfl, rfl⟩ := hp
  have hs9 := hms j hj
  refine fw_get (v := .int (lf j)) hx hb hT fi_RX3 hown hz hw hs9 rfl 2 (by decide) (hT _ wd_107) (fun _ h9 => h9) rfl dX8_ticksLeft_5 ?_
  refine vx_ret ?_
  exact fw_iret hx hb hr hlk (Nat.le_of_ble_eq_true rfl) (Nat.le_of_ble_eq_true rfl) hw dX8_ticksLeft_8 (⟨rfl, ⟨j, hj, rfl, rfl⟩⟩)
set_option maxHeartbeats 4000000 in
set_option maxRecDepth 100000 in
theorem c_X8_gearsLeft (l : Launch) (G : fw_G) (F : fw_F) (sz : Nat) (x lc lt lo lm lw dr : Nat) (tm : Int32) (oa tr ml : Nat → Nat) (f : mm_A) (nJ nO : Nat) (t : Int32) (hl9 : l.stackTraces = false) (hX : cr_X F x lc lt lo lm lw dr tm) (hO1 : cr_o F lo oa nO) (hO : cr_O F oa tr ml f nJ nO) : vx_Met l yX8_gearsLeft (fw_ws yX8_gearsLeft cX8_gearsLeft 2 (some (.int))) { frames := 8, cells := 1, slots := 6, locals := 141 } (va_Pc [.ref x, .int t] (fw_PreX G F sz)) (va_Qi (fun r F1 => F1 = F ∧ (fun r => ∃ j, j < nO ∧ t = nI j ∧ r = nI (rf_left f (nI j) nJ)) r) (fw_B G (fw_W G F sz)) (fw_W G F sz)) (fw_xc G (fw_W G F sz) F (fun E => E = "java/lang/IndexOutOfBoundsException" ∧ rf_ix t nO = false)) 1 6 (fw_W G F sz) := by
  refine fw_metX (lv := [(0, .ref x), (1, .int t)]) (by decide +kernel) (Nat.le_of_ble_eq_true rfl) rfl ?_
  intro A hA p e s m below meth c ls hx hb hml hown hT hr hlk hno hcx hz hsz hw hAn hl
  rw [← hA]
  have hown : s.vm.findClass RX8 = some m.cls := hown
  have C : CallFix p m c cX8_gearsLeft 2 s _ fw_tb RX8 := ⟨hx, hb, hml, hown, hT⟩
  obtain ⟨hno9, arr, hLo⟩ := hO1
  refine lv_aload_n hx hb dX8_gearsLeft_0 rfl (lv_at hl 0 rfl) ?_
  refine lv_iload_n hx hb dX8_gearsLeft_1 rfl (lv_at hl 1 rfl) ?_
  refine fw_xcallo (fw_xrunV (As := [.int t]) (rest := []) C hz hcx hw (c_X8_orderAt l G _ _ x lc lt lo lm lw dr tm arr nO oa t hl9 hX hLo hno9 (fun i hi => ⟨_, _, hO i hi⟩)) (fw_cwV hT wd_564 yVX8_orderAt rfl rfl ⟨Nat.le_of_ble_eq_true rfl, Nat.le_of_ble_eq_true rfl⟩) (fw_rec hz hw hX (q := vwCl[9]) rfl) rfl hl.1 rfl (Nat.le_of_ble_eq_true rfl) dX8_gearsLeft_2 ⟨Nat.le_of_ble_eq_true rfl, Nat.le_of_ble_eq_true rfl⟩) hw hno hlk (fun E h => h) (Nat.le_of_ble_eq_true rfl) (Nat.le_of_ble_eq_true rfl) (fun r F1 H locs hw hp => ?_)
  obtain ⟨hp0, hp⟩ := hp
  rw [hp0] at hw
  refine W.widen (k := 1) (n := 6) (Nat.le_of_ble_eq_true rfl) (Nat.le_of_ble_eq_true rfl) ?_
  obtain ⟨j, hj, rfl, rfl⟩ := hp
  have hs9 := hO j hj
  refine fw_get (v := .int (nI ((rf_left f (nI j) nJ)))) hx hb hT fi_RX5 hown hz hw hs9 rfl 2 (by decide) (hT _ wd_466) (fun _ h9 => h9) rfl dX8_gearsLeft_5 ?_
  refine vx_ret ?_
  exact fw_iret hx hb hr hlk (Nat.le_of_ble_eq_true rfl) (Nat.le_of_ble_eq_true rfl) hw dX8_gearsLeft_8 (⟨rfl, ⟨j, hj, rfl, rfl⟩⟩)
set_option maxHeartbeats 4000000 in
set_option maxRecDepth 100000 in
theorem c_X8_doneAt (l : Launch) (G : fw_G) (F : fw_F) (sz : Nat) (x lc lt lo lm lw dr : Nat) (tm : Int32) (oa tr ml : Nat → Nat) (f : mm_A) (nJ nO : Nat) (t : Int32) (hl9 : l.stackTraces = false) (hX : cr_X F x lc lt lo lm lw dr tm) (hO1 : cr_o F lo oa nO) (hO : cr_O F oa tr ml f nJ nO) : vx_Met l yX8_doneAt (fw_ws yX8_doneAt cX8_doneAt 2 (some (.int))) { frames := 8, cells := 1, slots := 6, locals := 141 } (va_Pc [.ref x, .int t] (fw_PreX G F sz)) (va_Qi (fun r F1 => F1 = F ∧ (fun r => ∃ j, j < nO ∧ t = nI j ∧ r = f 13 j) r) (fw_B G (fw_W G F sz)) (fw_W G F sz)) (fw_xc G (fw_W G F sz) F (fun E => E = "java/lang/IndexOutOfBoundsException" ∧ rf_ix t nO = false)) 1 6 (fw_W G F sz) := by
  refine fw_metX (lv := [(0, .ref x), (1, .int t)]) (by decide +kernel) (Nat.le_of_ble_eq_true rfl) rfl ?_
  intro A hA p e s m below meth c ls hx hb hml hown hT hr hlk hno hcx hz hsz hw hAn hl
  rw [← hA]
  have hown : s.vm.findClass RX8 = some m.cls := hown
  have C : CallFix p m c cX8_doneAt 2 s _ fw_tb RX8 := ⟨hx, hb, hml, hown, hT⟩
  obtain ⟨hno9, arr, hLo⟩ := hO1
  refine lv_aload_n hx hb dX8_doneAt_0 rfl (lv_at hl 0 rfl) ?_
  refine lv_iload_n hx hb dX8_doneAt_1 rfl (lv_at hl 1 rfl) ?_
  refine fw_xcallo (fw_xrunV (As := [.int t]) (rest := []) C hz hcx hw (c_X8_orderAt l G _ _ x lc lt lo lm lw dr tm arr nO oa t hl9 hX hLo hno9 (fun i hi => ⟨_, _, hO i hi⟩)) (fw_cwV hT wd_564 yVX8_orderAt rfl rfl ⟨Nat.le_of_ble_eq_true rfl, Nat.le_of_ble_eq_true rfl⟩) (fw_rec hz hw hX (q := vwCl[9]) rfl) rfl hl.1 rfl (Nat.le_of_ble_eq_true rfl) dX8_doneAt_2 ⟨Nat.le_of_ble_eq_true rfl, Nat.le_of_ble_eq_true rfl⟩) hw hno hlk (fun E h => h) (Nat.le_of_ble_eq_true rfl) (Nat.le_of_ble_eq_true rfl) (fun r F1 H locs hw hp => ?_)
  obtain ⟨hp0, hp⟩ := hp
  rw [hp0] at hw
  refine W.widen (k := 1) (n := 6) (Nat.le_of_ble_eq_true rfl) (Nat.le_of_ble_eq_true rfl) ?_
  obtain ⟨j, hj, rfl, rfl⟩ := hp
  have hs9 := hO j hj
  refine fw_get (v := .int (f 13 j)) hx hb hT fi_RX5 hown hz hw hs9 rfl 3 (by decide) (hT _ wd_468) (fun _ h9 => h9) rfl dX8_doneAt_5 ?_
  refine vx_ret ?_
  exact fw_iret hx hb hr hlk (Nat.le_of_ble_eq_true rfl) (Nat.le_of_ble_eq_true rfl) hw dX8_doneAt_8 (⟨rfl, ⟨j, hj, rfl, rfl⟩⟩)
set_option maxHeartbeats 4000000 in
set_option maxRecDepth 100000 in
theorem c_X8_claims (l : Launch) (G : fw_G) (F : fw_F) (sz : Nat) (x lc lt lo lm lw dr : Nat) (tm : Int32) (ta sl fr : Nat → Nat) (sa : Nat → Nat → Nat) (f : mm_A) (nT : Nat) (t : Int32) (hl9 : l.stackTraces = false) (hX : cr_X F x lc lt lo lm lw dr tm) (hT1 : cr_t F lt ta nT) (hTr : cr_T F ta sl fr sa f nT) : vx_Met l yX8_claims (fw_ws yX8_claims cX8_claims 2 (some (.int))) { frames := 8, cells := 1, slots := 6, locals := 141 } (va_Pc [.ref x, .int t] (fw_PreX G F sz)) (va_Qi (fun r F1 => F1 = F ∧ (fun r => ∃ j, j < nT ∧ t = nI j ∧ r = f 10 j) r) (fw_B G (fw_W G F sz)) (fw_W G F sz)) (fw_xc G (fw_W G F sz) F (fun E => E = "java/lang/IndexOutOfBoundsException" ∧ rf_ix t nT = false)) 1 6 (fw_W G F sz) := by
  refine fw_metX (lv := [(0, .ref x), (1, .int t)]) (by decide +kernel) (Nat.le_of_ble_eq_true rfl) rfl ?_
  intro A hA p e s m below meth c ls hx hb hml hown hT hr hlk hno hcx hz hsz hw hAn hl
  rw [← hA]
  have hown : s.vm.findClass RX8 = some m.cls := hown
  have C : CallFix p m c cX8_claims 2 s _ fw_tb RX8 := ⟨hx, hb, hml, hown, hT⟩
  obtain ⟨hnt9, arr, hLt⟩ := hT1
  refine lv_aload_n hx hb dX8_claims_0 rfl (lv_at hl 0 rfl) ?_
  refine lv_iload_n hx hb dX8_claims_1 rfl (lv_at hl 1 rfl) ?_
  refine fw_xcallo (fw_xrunV (As := [.int t]) (rest := []) C hz hcx hw (c_X8_trainAt l G _ _ x lc lt lo lm lw dr tm arr nT ta t hl9 hX hLt hnt9 (fun i hi => ⟨_, _, (hTr i hi).1⟩)) (fw_cwV hT wd_412 yVX8_trainAt rfl rfl ⟨Nat.le_of_ble_eq_true rfl, Nat.le_of_ble_eq_true rfl⟩) (fw_rec hz hw hX (q := vwCl[9]) rfl) rfl hl.1 rfl (Nat.le_of_ble_eq_true rfl) dX8_claims_2 ⟨Nat.le_of_ble_eq_true rfl, Nat.le_of_ble_eq_true rfl⟩) hw hno hlk (fun E h => h) (Nat.le_of_ble_eq_true rfl) (Nat.le_of_ble_eq_true rfl) (fun r F1 H locs hw hp => ?_)
  obtain ⟨hp0, hp⟩ := hp
  rw [hp0] at hw
  refine W.widen (k := 1) (n := 6) (Nat.le_of_ble_eq_true rfl) (Nat.le_of_ble_eq_true rfl) ?_
  obtain ⟨j, hj, rfl, rfl⟩ := hp
  obtain ⟨hs1, ⟨ars, hs2⟩, hs3, hs4⟩ := hTr j hj
  refine fw_get (v := .int (f 10 j)) hx hb hT fi_RX7 hown hz hw hs1 rfl 2 (by decide) (hT _ wd_88) (fun _ h9 => h9) rfl dX8_claims_5 ?_
  refine vx_ret ?_
  exact fw_iret hx hb hr hlk (Nat.le_of_ble_eq_true rfl) (Nat.le_of_ble_eq_true rfl) hw dX8_claims_8 (⟨rfl, ⟨j, hj, rfl, rfl⟩⟩)
set_option maxHeartbeats 4000000 in
set_option maxRecDepth 100000 in
theorem c_X8_numerator (l : Launch) (G : fw_G) (F : fw_F) (sz : Nat) (x lc lt lo lm lw dr : Nat) (tm : Int32) (ta sl fr : Nat → Nat) (sa : Nat → Nat → Nat) (f : mm_A) (nT : Nat) (t : Int32) (hl9 : l.stackTraces = false) (hX : cr_X F x lc lt lo lm lw dr tm) (hT1 : cr_t F lt ta nT) (hTr : cr_T F ta sl fr sa f nT) : vx_Met l yX8_numerator (fw_ws yX8_numerator cX8_numerator 2 (some (.int))) { frames := 8, cells := 1, slots := 6, locals := 141 } (va_Pc [.ref x, .int t] (fw_PreX G F sz)) (va_Qi (fun r F1 => F1 = F ∧ (fun r => ∃ j, j < nT ∧ t = nI j ∧ r = nI (rf_P f j 2 / cr_g f j)) r) (fw_B G (fw_W G F sz)) (fw_W G F sz)) (fw_xc G (fw_W G F sz) F (fun E => E = "java/lang/IndexOutOfBoundsException" ∧ rf_ix t nT = false)) 1 6 (fw_W G F sz) := by
  refine fw_metX (lv := [(0, .ref x), (1, .int t)]) (by decide +kernel) (Nat.le_of_ble_eq_true rfl) rfl ?_
  intro A hA p e s m below meth c ls hx hb hml hown hT hr hlk hno hcx hz hsz hw hAn hl
  rw [← hA]
  have hown : s.vm.findClass RX8 = some m.cls := hown
  have C : CallFix p m c cX8_numerator 2 s _ fw_tb RX8 := ⟨hx, hb, hml, hown, hT⟩
  obtain ⟨hnt9, arr, hLt⟩ := hT1
  refine lv_aload_n hx hb dX8_numerator_0 rfl (lv_at hl 0 rfl) ?_
  refine lv_iload_n hx hb dX8_numerator_1 rfl (lv_at hl 1 rfl) ?_
  refine fw_xcallo (fw_xrunV (As := [.int t]) (rest := []) C hz hcx hw (c_X8_trainAt l G _ _ x lc lt lo lm lw dr tm arr nT ta t hl9 hX hLt hnt9 (fun i hi => ⟨_, _, (hTr i hi).1⟩)) (fw_cwV hT wd_412 yVX8_trainAt rfl rfl ⟨Nat.le_of_ble_eq_true rfl, Nat.le_of_ble_eq_true rfl⟩) (fw_rec hz hw hX (q := vwCl[9]) rfl) rfl hl.1 rfl (Nat.le_of_ble_eq_true rfl) dX8_numerator_2 ⟨Nat.le_of_ble_eq_true rfl, Nat.le_of_ble_eq_true rfl⟩) hw hno hlk (fun E h => h) (Nat.le_of_ble_eq_true rfl) (Nat.le_of_ble_eq_true rfl) (fun r F1 H locs hw hp => ?_)
  obtain ⟨hp0, hp⟩ := hp
  rw [hp0] at hw
  refine W.widen (k := 1) (n := 6) (Nat.le_of_ble_eq_true rfl) (Nat.le_of_ble_eq_true rfl) ?_
  obtain ⟨j, hj, rfl, rfl⟩ := hp
  obtain ⟨hs1, ⟨ars, hs2⟩, hs3, hs4⟩ := hTr j hj
  refine fw_get (v := .ref (fr j)) hx hb hT fi_RX7 hown hz hw hs1 rfl 1 (by decide) (hT _ wd_86) (fun _ h9 => h9) rfl dX8_numerator_5 ?_
  refine fw_get (v := .long (lN (rf_P f j 2 / cr_g f j))) hx hb hT fi_RX1 hown hz hw hs3 rfl 0 (by decide) (hT _ wd_74) (fun _ h9 => h9) rfl dX8_numerator_8 ?_
  refine lv_l2i (v := nI (rf_P f j 2 / cr_g f j)) hx hb dX8_numerator_11 (lN_i _) ?_
  refine vx_ret ?_
  exact fw_iret hx hb hr hlk (Nat.le_of_ble_eq_true rfl) (Nat.le_of_ble_eq_true rfl) hw dX8_numerator_12 (⟨rfl, ⟨j, hj, rfl, rfl⟩⟩)
set_option maxHeartbeats 4000000 in
set_option maxRecDepth 100000 in
theorem c_X8_denominator (l : Launch) (G : fw_G) (F : fw_F) (sz : Nat) (x lc lt lo lm lw dr : Nat) (tm : Int32) (ta sl fr : Nat → Nat) (sa : Nat → Nat → Nat) (f : mm_A) (nT : Nat) (t : Int32) (hl9 : l.stackTraces = false) (hX : cr_X F x lc lt lo lm lw dr tm) (hT1 : cr_t F lt ta nT) (hTr : cr_T F ta sl fr sa f nT) : vx_Met l yX8_denominator (fw_ws yX8_denominator cX8_denominator 2 (some (.int))) { frames := 8, cells := 1, slots := 6, locals := 141 } (va_Pc [.ref x, .int t] (fw_PreX G F sz)) (va_Qi (fun r F1 => F1 = F ∧ (fun r => ∃ j, j < nT ∧ t = nI j ∧ r = nI (rf_P f j 1 / cr_g f j)) r) (fw_B G (fw_W G F sz)) (fw_W G F sz)) (fw_xc G (fw_W G F sz) F (fun E => E = "java/lang/IndexOutOfBoundsException" ∧ rf_ix t nT = false)) 1 6 (fw_W G F sz) := by
  refine fw_metX (lv := [(0, .ref x), (1, .int t)]) (by decide +kernel) (Nat.le_of_ble_eq_true rfl) rfl ?_
  intro A hA p e s m below meth c ls hx hb hml hown hT hr hlk hno hcx hz hsz hw hAn hl
  rw [← hA]
  have hown : s.vm.findClass RX8 = some m.cls := hown
  have C : CallFix p m c cX8_denominator 2 s _ fw_tb RX8 := ⟨hx, hb, hml, hown, hT⟩
  obtain ⟨hnt9, arr, hLt⟩ := hT1
  refine lv_aload_n hx hb dX8_denominator_0 rfl (lv_at hl 0 rfl) ?_
  refine lv_iload_n hx hb dX8_denominator_1 rfl (lv_at hl 1 rfl) ?_
  refine fw_xcallo (fw_xrunV (As := [.int t]) (rest := []) C hz hcx hw (c_X8_trainAt l G _ _ x lc lt lo lm lw dr tm arr nT ta t hl9 hX hLt hnt9 (fun i hi => ⟨_, _, (hTr i hi).1⟩)) (fw_cwV hT wd_412 yVX8_trainAt rfl rfl ⟨Nat.le_of_ble_eq_true rfl, Nat.le_of_ble_eq_true rfl⟩) (fw_rec hz hw hX (q := vwCl[9]) rfl) rfl hl.1 rfl (Nat.le_of_ble_eq_true rfl) dX8_denominator_2 ⟨Nat.le_of_ble_eq_true rfl, Nat.le_of_ble_eq_true rfl⟩) hw hno hlk (fun E h => h) (Nat.le_of_ble_eq_true rfl) (Nat.le_of_ble_eq_true rfl) (fun r F1 H locs hw hp => ?_)
  obtain ⟨hp0, hp⟩ := hp
  rw [hp0] at hw
  refine W.widen (k := 1) (n := 6) (Nat.le_of_ble_eq_true rfl) (Nat.le_of_ble_eq_true rfl) ?_
  obtain ⟨j, hj, rfl, rfl⟩ := hp
  obtain ⟨hs1, ⟨ars, hs2⟩, hs3, hs4⟩ := hTr j hj
  refine fw_get (v := .ref (fr j)) hx hb hT fi_RX7 hown hz hw hs1 rfl 1 (by decide) (hT _ wd_86) (fun _ h9 => h9) rfl dX8_denominator_5 ?_
  refine fw_get (v := .long (lN (rf_P f j 1 / cr_g f j))) hx hb hT fi_RX1 hown hz hw hs3 rfl 1 (by decide) (hT _ wd_76) (fun _ h9 => h9) rfl dX8_denominator_8 ?_
  refine lv_l2i (v := nI (rf_P f j 1 / cr_g f j)) hx hb dX8_denominator_11 (lN_i _) ?_
  refine vx_ret ?_
  exact fw_iret hx hb hr hlk (Nat.le_of_ble_eq_true rfl) (Nat.le_of_ble_eq_true rfl) hw dX8_denominator_12 (⟨rfl, ⟨j, hj, rfl, rfl⟩⟩)
set_option maxHeartbeats 4000000 in
set_option maxRecDepth 100000 in
theorem c_X8_checkTurns (l : Launch) (G : fw_G) (F : fw_F) (sz : Nat) (q : Int32) (hl9 : l.stackTraces = false) : vx_Met l yX8_checkTurns (fw_ws yX8_checkTurns cX8_checkTurns 1 none) { frames := 7, cells := 1, slots := 6, locals := 120 } (va_Pc [.int q] (fw_PreX G F sz)) (va_Qv (fun F1 => F1 = F ∧ rf_in q (nI 0) (nI 600000) = true) (fw_B G (fw_W G F sz)) (fw_W G F sz)) (fw_xc G (fw_W G F sz) F (fun E => E = "java/lang/IllegalArgumentException" ∧ rf_in q (nI 0) (nI 600000) = false)) 1 6 (fw_W G F sz) := by
  refine fw_metX (lv := [(0, .int q)]) (by decide +kernel) (Nat.le_of_ble_eq_true rfl) rfl ?_
  intro A hA p e s m below meth c ls hx hb hml hown hT hr hlk hno hcx hz hsz hw hAn hl
  rw [← hA]
  have hown : s.vm.findClass RX8 = some m.cls := hown
  have C : CallFix p m c cX8_checkTurns 1 s _ fw_tb RX8 := ⟨hx, hb, hml, hown, hT⟩
  refine lv_iload_n hx hb dX8_checkTurns_0 rfl (lv_at hl 0 rfl) ?_
  refine lv_iconst (v := (nI 0)) hx hb dX8_checkTurns_1 (by decide) ?_
  refine lv_ldc hx hb hown (hT _ wd_647) dX8_checkTurns_2 ?_
  refine fw_calli (fw_runS (As := [.int q, .int (nI 0), .int (nI 600000)]) (rest := []) C hz hw (c_X8_isOutside l G _ _ q (nI 0) (nI 600000)) (fw_cwS hT wd_204 ySX8_isOutside rfl rfl ⟨Nat.le_of_ble_eq_true rfl, Nat.le_of_ble_eq_true rfl⟩) rfl hl.1 rfl (Nat.le_of_ble_eq_true rfl) dX8_checkTurns_4 ⟨Nat.le_of_ble_eq_true rfl, Nat.le_of_ble_eq_true rfl⟩) hw (fun r F1 H locs hw hp => ?_)
  obtain ⟨hp0, hp⟩ := hp
  rw [hp0] at hw
  refine W.widen (k := 0) (n := 0) (Nat.le_of_ble_eq_true rfl) (Nat.le_of_ble_eq_true rfl) ?_
  subst hp
  refine lv_if_eq (tgt := 20) hx hb dX8_checkTurns_7 (by decide) (fun d => ?_) (fun d => ?_)
  · have d := fw_b0 d
    refine vx_ret ?_
    exact fw_vret hx hb hr hlk (Nat.le_of_ble_eq_true rfl) (Nat.le_of_ble_eq_true rfl) hw dX8_checkTurns_20 (⟨rfl, by simpa using d⟩)
  · have d := fw_b1 d
    exact fw_throw (ik := 57) (is := 244) (ic := 61) hx hb hl9 hown (by decide +kernel) wd_210 wd_15 hT (fw_atA hT hcx) fw_otA hz hw (List.mem_of_getElem? (i := 10) rfl) (hl.1.trans hml.symm) dX8_checkTurns_10 dX8_checkTurns_13 dX8_checkTurns_14 dX8_checkTurns_16 dX8_checkTurns_19 hno ⟨Nat.le_of_ble_eq_true rfl, Nat.le_of_ble_eq_true rfl, Nat.le_of_ble_eq_true rfl, Nat.le_of_ble_eq_true rfl⟩ hlk (⟨rfl, by simpa using d⟩) (Nat.le_of_ble_eq_true rfl) (Nat.le_of_ble_eq_true rfl)
set_option maxHeartbeats 4000000 in
set_option maxRecDepth 100000 in
theorem c_X8_turned (l : Launch) (G : fw_G) (F : fw_F) (sz : Nat) (x lc lt lo lm lw dr : Nat) (tm : Int32) (ta sl fr : Nat → Nat) (sa : Nat → Nat → Nat) (f : mm_A) (nT : Nat) (t q : Int32) (hl9 : l.stackTraces = false) (hX : cr_X F x lc lt lo lm lw dr tm) (hT1 : cr_t F lt ta nT) (hTr : cr_T F ta sl fr sa f nT) (htok : ∀ j, j < nT → rf_tok f j) : vx_Met l yX8_turned (fw_ws yX8_turned cX8_turned 5 (some (.int))) { frames := 8, cells := 3, slots := 14, locals := 141 } (va_Pc [.ref x, .int t, .int q] (fw_PreX G F sz)) (va_Qi (fun r F1 => (∃ j i, j < nT ∧ t = nI j ∧ i ≤ 600000 ∧ q = nI i ∧ r = nI (i * rf_P f j 1 / rf_P f j 2)) ∧ fw_kp F F1 (fun u => u.1 = 40)) (fw_B G (fw_W G F sz)) (fw_W G F sz)) (fw_xc G (fw_W G F sz) F (fun E => (E = "java/lang/IndexOutOfBoundsException" ∧ rf_ix t nT = false) ∨ (E = "java/lang/IllegalArgumentException" ∧ rf_ix t nT = true ∧ rf_in q (nI 0) (nI 600000) = false))) 3 14 (fw_W G F sz) := by
  refine fw_metX (lv := [(0, .ref x), (1, .int t), (2, .int q)]) (by decide +kernel) (Nat.le_of_ble_eq_true rfl) rfl ?_
  intro A hA p e s m below meth c ls hx hb hml hown hT hr hlk hno hcx hz hsz hw hAn hl
  rw [← hA]
  have hown : s.vm.findClass RX8 = some m.cls := hown
  have C : CallFix p m c cX8_turned 5 s _ fw_tb RX8 := ⟨hx, hb, hml, hown, hT⟩
  obtain ⟨hnt9, arr, hLt⟩ := hT1
  refine lv_aload_n hx hb dX8_turned_0 rfl (lv_at hl 0 rfl) ?_
  refine lv_iload_n hx hb dX8_turned_1 rfl (lv_at hl 1 rfl) ?_
  refine fw_xcallo (fw_xrunV (As := [.int t]) (rest := []) C hz hcx hw (c_X8_trainAt l G _ _ x lc lt lo lm lw dr tm arr nT ta t hl9 hX hLt hnt9 (fun i hi => ⟨_, _, (hTr i hi).1⟩)) (fw_cwV hT wd_412 yVX8_trainAt rfl rfl ⟨Nat.le_of_ble_eq_true rfl, Nat.le_of_ble_eq_true rfl⟩) (fw_rec hz hw hX (q := vwCl[9]) rfl) rfl hl.1 rfl (Nat.le_of_ble_eq_true rfl) dX8_turned_2 ⟨Nat.le_of_ble_eq_true rfl, Nat.le_of_ble_eq_true rfl⟩) hw hno hlk (fun E h => Or.inl h) (Nat.le_of_ble_eq_true rfl) (Nat.le_of_ble_eq_true rfl) (fun r F1 H locs hw hp => ?_)
  obtain ⟨hp0, hp⟩ := hp
  rw [hp0] at hw
  refine W.widen (k := 1) (n := 6) (Nat.le_of_ble_eq_true rfl) (Nat.le_of_ble_eq_true rfl) ?_
  obtain ⟨j, hj, rfl, rfl⟩ := hp
  obtain ⟨hs1, ⟨ars, hs2⟩, hs3, hs4⟩ := hTr j hj
  refine fw_get (v := .ref (fr j)) hx hb hT fi_RX7 hown hz hw hs1 rfl 1 (by decide) (hT _ wd_86) (fun _ h9 => h9) rfl dX8_turned_5 ?_
  refine lv_astore_n (lv' := [(3, .ref (fr j)), (0, .ref x), (1, .int (nI j)), (2, .int q)]) hx hb dX8_turned_8 rfl hl (by decide) rfl (fun ls hl => ?_)
  refine lv_iload_n hx hb dX8_turned_9 rfl (lv_at hl 3 rfl) ?_
  refine fw_xcallv (fw_xrunS (As := [.int q]) (rest := []) C hz hcx hw (c_X8_checkTurns l G _ _ q hl9) (fw_cwS hT wd_644 ySX8_checkTurns rfl rfl ⟨Nat.le_of_ble_eq_true rfl, Nat.le_of_ble_eq_true rfl⟩) rfl hl.1 rfl (Nat.le_of_ble_eq_true rfl) dX8_turned_10 ⟨Nat.le_of_ble_eq_true rfl, Nat.le_of_ble_eq_true rfl⟩) hw hno hlk (fun E h => Or.inr ⟨h.1, rf_ix_of (by omega) hj, h.2⟩) (Nat.le_of_ble_eq_true rfl) (Nat.le_of_ble_eq_true rfl) (fun F1 H locs hw hp => ?_)
  refine W.widen (k := 2) (n := 12) (Nat.le_of_ble_eq_true rfl) (Nat.le_of_ble_eq_true rfl) ?_
  obtain ⟨hp0, hq9⟩ := hp
  rw [hp0] at hw
  obtain ⟨i, hi, rfl⟩ : ∃ i, i ≤ 600000 ∧ q = nI i := nI_of2 (M := nI 600000) (by decide) (Int32.not_lt.mpr (rf_in_t.mp hq9).1) (rf_in_t.mp hq9).2
  have k0 := htok j hj
  have k1 := rf_P_ok k0 (w := 1) (Or.inl rfl)
  have k2 := rf_P_ok k0 (w := 2) (Or.inr rfl)
  refine fw_new (40, 0, 0) (ci := 2) (fs := [.long (lN 0), .long (lN 0)]) hx hb hT fi_RX1 tyX1 tyX1_ok hown (hT _ wd_649) (hT _ wd_68) (hT _ wd_6) hz hw hAn rfl (by intro j hj; rcases (show j = 0 ∨ j = 1 by omega) with rfl | rfl <;> rfl) (Nat.le_of_ble_eq_true rfl) (Nat.le_of_ble_eq_true rfl) dX8_turned_13 (fun b9 H hqb9 hw => ?_)
  refine W.widen (k := 3) (n := 14) (Nat.le_of_ble_eq_true rfl) (Nat.le_of_ble_eq_true rfl) ?_
  obtain ⟨W1, hFW1⟩ : ∃ z, z = va_up F b9 (some ((40, 0, 0), fw_obj 2 [.long (lN 0), .long (lN 0)])) := ⟨_, rfl⟩
  rw [← hFW1] at hw
  have k1_0 : W1 x = some ((50, 0, 0), fw_obj 9 [.ref lc, .ref lt, .ref lo, .ref lm, .ref lw, .ref dr, .int tm]) := by rw [hFW1]; exact fw_up_new hX hqb9
  have k1_1 : W1 (ta j) = some ((3, j, 0), fw_obj 8 [.ref (sl j), .ref (fr j), .int (f 10 j)]) := by rw [hFW1]; exact fw_up_new hs1 hqb9
  have k1_2 : W1 (sl j) = some ((13, j, 0), fw_ls ars (rf_sm f j) (sa j)) := by rw [hFW1]; exact fw_up_new hs2 hqb9
  have k1_3 : W1 (fr j) = some ((33, j, 0), fw_obj 2 [.long (lN (rf_P f j 2 / cr_g f j)), .long (lN (rf_P f j 1 / cr_g f j))]) := by rw [hFW1]; exact fw_up_new hs3 hqb9
  have k1_s : W1 b9 = some ((40, 0, 0), fw_obj 2 [.long (lN 0), .long (lN 0)]) := by rw [hFW1]; exact fw_up_self
  refine lv_dup hx hb dX8_turned_16 rfl ?_
  refine lv_iload_n hx hb dX8_turned_17 rfl (lv_at hl 3 rfl) ?_
  refine lv_i2l (v := lN i) hx hb dX8_turned_18 (nI_l (by omega)) ?_
  refine fw_callv (fw_runI (As := [.long (lN i)]) (rest := [.ref b9]) C hz hw (c_X1_init l G _ _ b9 (40, 0, 0) i k1_s) (fw_cwI hT wd_650 yIX1_init rfl rfl ⟨Nat.le_of_ble_eq_true rfl, Nat.le_of_ble_eq_true rfl⟩) rfl hl.1 rfl (Nat.le_of_ble_eq_true rfl) dX8_turned_19 ⟨Nat.le_of_ble_eq_true rfl, Nat.le_of_ble_eq_true rfl⟩) hw (fun F1 H locs hw hp => ?_)
  refine W.widen (k := 3) (n := 14) (Nat.le_of_ble_eq_true rfl) (Nat.le_of_ble_eq_true rfl) ?_
  rw [hp] at hw
  obtain ⟨W2, hFW2⟩ : ∃ z, z = va_up W1 b9 (some ((40, 0, 0), fw_obj 2 [.long (lN i), .long (lN 1)])) := ⟨_, rfl⟩
  rw [← hFW2] at hw
  have k2_0 : W2 x = some ((50, 0, 0), fw_obj 9 [.ref lc, .ref lt, .ref lo, .ref lm, .ref lw, .ref dr, .int tm]) := by rw [hFW2]; exact fw_up_tag k1_0 k1_s (by intro z; cases z)
  have k2_1 : W2 (ta j) = some ((3, j, 0), fw_obj 8 [.ref (sl j), .ref (fr j), .int (f 10 j)]) := by rw [hFW2]; exact fw_up_tag k1_1 k1_s (by intro z; cases z)
  have k2_2 : W2 (sl j) = some ((13, j, 0), fw_ls ars (rf_sm f j) (sa j)) := by rw [hFW2]; exact fw_up_tag k1_2 k1_s (by intro z; cases z)
  have k2_3 : W2 (fr j) = some ((33, j, 0), fw_obj 2 [.long (lN (rf_P f j 2 / cr_g f j)), .long (lN (rf_P f j 1 / cr_g f j))]) := by rw [hFW2]; exact fw_up_tag k1_3 k1_s (by intro z; cases z)
  have k2_s : W2 b9 = some ((40, 0, 0), fw_obj 2 [.long (lN i), .long (lN 1)]) := by rw [hFW2]; exact fw_up_self
  refine lv_astore (lv' := [(4, .ref b9), (3, .ref (fr j)), (0, .ref x), (1, .int (nI j)), (2, .int (nI i))]) hx hb dX8_turned_22 hl (by decide) rfl (fun ls hl => ?_)
  refine lv_aload hx hb dX8_turned_24 (lv_at hl 0 rfl) ?_
  refine lv_aload_n hx hb dX8_turned_26 rfl (lv_at hl 1 rfl) ?_
  refine fw_get (v := .long (lN (rf_P f j 1 / cr_g f j))) hx hb hT fi_RX1 hown hz hw k2_3 rfl 1 (by decide) (hT _ wd_76) (fun _ h9 => h9) rfl dX8_turned_27 ?_
  refine lv_aload_n hx hb dX8_turned_30 rfl (lv_at hl 1 rfl) ?_
  refine fw_get (v := .long (lN (rf_P f j 2 / cr_g f j))) hx hb hT fi_RX1 hown hz hw k2_3 rfl 0 (by decide) (hT _ wd_74) (fun _ h9 => h9) rfl dX8_turned_31 ?_
  have hg0 : 0 < cr_g f j := Nat.gcd_pos_of_pos_left _ (by omega)
  have hd1 : rf_P f j 1 / cr_g f j ≤ rf_P f j 1 := Nat.div_le_self _ _
  have hd2 : rf_P f j 2 / cr_g f j ≤ rf_P f j 2 := Nat.div_le_self _ _
  have hd3 : 0 < rf_P f j 2 / cr_g f j := Nat.div_pos (Nat.le_of_dvd (by omega) (Nat.gcd_dvd_left _ _)) hg0
  have hm1 : i * (rf_P f j 1 / cr_g f j) ≤ 600000 * 12960000 := Nat.mul_le_mul hi (by omega)
  have hm2 : i * (rf_P f j 1 / cr_g f j) * (1 * (rf_P f j 2 / cr_g f j)) ≤ (600000 * 12960000) * 12960000 := Nat.mul_le_mul hm1 (by omega)
  refine fw_callv (fw_runV (As := [.long (lN (rf_P f j 1 / cr_g f j)), .long (lN (rf_P f j 2 / cr_g f j))]) (rest := []) C hz hw (c_X1_multiply l G _ _ b9 (40, 0, 0) i 1 (rf_P f j 1 / cr_g f j) (rf_P f j 2 / cr_g f j) k2_s (by omega) (by omega) (by omega) (by omega)) (fw_cwV hT wd_651 yVX1_multiply rfl rfl ⟨Nat.le_of_ble_eq_true rfl, Nat.le_of_ble_eq_true rfl⟩) (fw_rec hz hw k2_s (q := vwCl[2]) rfl) rfl hl.1 rfl (Nat.le_of_ble_eq_true rfl) dX8_turned_34 ⟨Nat.le_of_ble_eq_true rfl, Nat.le_of_ble_eq_true rfl⟩) hw (fun F1 H locs hw hp => ?_)
  refine W.widen (k := 3) (n := 14) (Nat.le_of_ble_eq_true rfl) (Nat.le_of_ble_eq_true rfl) ?_
  rw [hp] at hw
  obtain ⟨W3, hFW3⟩ : ∃ z, z = va_up W2 b9 (some ((40, 0, 0), fw_obj 2 [.long (lN (i * (rf_P f j 1 / cr_g f j) / Nat.gcd (i * (rf_P f j 1 / cr_g f j)) (1 * (rf_P f j 2 / cr_g f j)))), .long (lN (1 * (rf_P f j 2 / cr_g f j) / Nat.gcd (i * (rf_P f j 1 / cr_g f j)) (1 * (rf_P f j 2 / cr_g f j))))])) := ⟨_, rfl⟩
  rw [← hFW3] at hw
  have k3_0 : W3 x = some ((50, 0, 0), fw_obj 9 [.ref lc, .ref lt, .ref lo, .ref lm, .ref lw, .ref dr, .int tm]) := by rw [hFW3]; exact fw_up_tag k2_0 k2_s (by intro z; cases z)
  have k3_1 : W3 (ta j) = some ((3, j, 0), fw_obj 8 [.ref (sl j), .ref (fr j), .int (f 10 j)]) := by rw [hFW3]; exact fw_up_tag k2_1 k2_s (by intro z; cases z)
  have k3_2 : W3 (sl j) = some ((13, j, 0), fw_ls ars (rf_sm f j) (sa j)) := by rw [hFW3]; exact fw_up_tag k2_2 k2_s (by intro z; cases z)
  have k3_3 : W3 (fr j) = some ((33, j, 0), fw_obj 2 [.long (lN (rf_P f j 2 / cr_g f j)), .long (lN (rf_P f j 1 / cr_g f j))]) := by rw [hFW3]; exact fw_up_tag k2_3 k2_s (by intro z; cases z)
  have k3_s : W3 b9 = some ((40, 0, 0), fw_obj 2 [.long (lN (i * (rf_P f j 1 / cr_g f j) / Nat.gcd (i * (rf_P f j 1 / cr_g f j)) (1 * (rf_P f j 2 / cr_g f j)))), .long (lN (1 * (rf_P f j 2 / cr_g f j) / Nat.gcd (i * (rf_P f j 1 / cr_g f j)) (1 * (rf_P f j 2 / cr_g f j))))]) := by rw [hFW3]; exact fw_up_self
  refine lv_aload hx hb dX8_turned_37 (lv_at hl 0 rfl) ?_
  have hh1 := Nat.div_le_self (i * (rf_P f j 1 / cr_g f j)) (Nat.gcd (i * (rf_P f j 1 / cr_g f j)) (1 * (rf_P f j 2 / cr_g f j)))
  have hh2 := Nat.div_le_self (1 * (rf_P f j 2 / cr_g f j)) (Nat.gcd (i * (rf_P f j 1 / cr_g f j)) (1 * (rf_P f j 2 / cr_g f j)))
  have hh3 : 0 < 1 * (rf_P f j 2 / cr_g f j) / Nat.gcd (i * (rf_P f j 1 / cr_g f j)) (1 * (rf_P f j 2 / cr_g f j)) := Nat.div_pos (Nat.le_of_dvd (by omega) (Nat.gcd_dvd_right _ _)) (Nat.gcd_pos_of_pos_right _ (by omega))
  refine fw_calli (fw_runV (As := []) (rest := []) C hz hw (c_X1_roundedDown l G _ _ b9 (40, 0, 0) _ _ k3_s (by omega) (by omega) hh3) (fw_cwV hT wd_652 yVX1_roundedDown rfl rfl ⟨Nat.le_of_ble_eq_true rfl, Nat.le_of_ble_eq_true rfl⟩) (fw_rec hz hw k3_s (q := vwCl[2]) rfl) rfl hl.1 rfl (Nat.le_of_ble_eq_true rfl) dX8_turned_39 ⟨Nat.le_of_ble_eq_true rfl, Nat.le_of_ble_eq_true rfl⟩) hw (fun r F1 H locs hw hp => ?_)
  obtain ⟨hp0, hp⟩ := hp
  rw [hp0] at hw
  refine W.widen (k := 3) (n := 14) (Nat.le_of_ble_eq_true rfl) (Nat.le_of_ble_eq_true rfl) ?_
  subst hp
  have hkp : fw_kp F W3 (fun u => u.1 = 40) := by rw [hFW3, hFW2, hFW1, bx_uu, bx_uu]; exact fw_kp.rf.new hqb9
  refine vx_ret ?_
  exact fw_iret hx hb hr hlk (Nat.le_of_ble_eq_true rfl) (Nat.le_of_ble_eq_true rfl) hw dX8_turned_42 (⟨⟨j, i, hj, rfl, hi, rfl, by rw [← cl_tq (show 0 < rf_P f j 2 by omega)]; rfl⟩, hkp⟩)
set_option maxHeartbeats 4000000 in
set_option maxRecDepth 100000 in
theorem c_X8_cutterFor (l : Launch) (G : fw_G) (F : fw_F) (sz : Nat) (x lc lt lo lm lw dr : Nat) (tm : Int32) (ca : Nat → Nat) (f : mm_A) (nC : Nat) (mo te : Int32) (hl9 : l.stackTraces = false) (hX : cr_X F x lc lt lo lm lw dr tm) (hC : cr_C F lc ca f nC) : vx_Met l yX8_cutterFor (fw_ws yX8_cutterFor cX8_cutterFor 3 (some (.int))) { frames := 7, cells := 1, slots := 6, locals := 120 } (va_Pc [.ref x, .int mo, .int te] (fw_PreX G F sz)) (va_Qi (fun r F1 => F1 = F ∧ (fun r => rf_okG mo te = true ∧ r = rf_cut f nC mo te) r) (fw_B G (fw_W G F sz)) (fw_W G F sz)) (fw_xc G (fw_W G F sz) F (fun E => E = "java/lang/IllegalArgumentException" ∧ rf_okG mo te = false)) 1 6 (fw_W G F sz) := by
  refine fw_metX (lv := [(0, .ref x), (1, .int mo), (2, .int te)]) (by decide +kernel) (Nat.le_of_ble_eq_true rfl) rfl ?_
  intro A hA p e s m below meth c ls hx hb hml hown hT hr hlk hno hcx hz hsz hw hAn hl
  rw [← hA]
  have hown : s.vm.findClass RX8 = some m.cls := hown
  have C : CallFix p m c cX8_cutterFor 3 s _ fw_tb RX8 := ⟨hx, hb, hml, hown, hT⟩
  refine lv_iload_n hx hb dX8_cutterFor_0 rfl (lv_at hl 1 rfl) ?_
  refine fw_calli (fw_runS (As := [.int mo]) (rest := []) C hz hw (c_X8_isNoModule l G _ _ mo) (fw_cwS hT wd_201 ySX8_isNoModule rfl rfl ⟨Nat.le_of_ble_eq_true rfl, Nat.le_of_ble_eq_true rfl⟩) rfl hl.1 rfl (Nat.le_of_ble_eq_true rfl) dX8_cutterFor_1 ⟨Nat.le_of_ble_eq_true rfl, Nat.le_of_ble_eq_true rfl⟩) hw (fun r F1 H locs hw hp => ?_)
  obtain ⟨hp0, hp⟩ := hp
  rw [hp0] at hw
  refine W.widen (k := 0) (n := 0) (Nat.le_of_ble_eq_true rfl) (Nat.le_of_ble_eq_true rfl) ?_
  subst hp
  refine lv_if_ne (tgt := 14) hx hb dX8_cutterFor_4 (by decide) (fun d => ?_) (fun d => ?_)
  · have d := fw_b1 d
    have d : rf_in mo (nI 1) (nI 4) = false := by simpa using d
    exact fw_throw (ik := 57) (is := 78) (ic := 61) hx hb hl9 hown (by decide +kernel) wd_210 wd_15 hT (fw_atA hT hcx) fw_otA hz hw (List.mem_of_getElem? (i := 2) rfl) (hl.1.trans hml.symm) dX8_cutterFor_14 dX8_cutterFor_17 dX8_cutterFor_18 dX8_cutterFor_20 dX8_cutterFor_23 hno ⟨Nat.le_of_ble_eq_true rfl, Nat.le_of_ble_eq_true rfl, Nat.le_of_ble_eq_true rfl, Nat.le_of_ble_eq_true rfl⟩ hlk (⟨rfl, by rw [rf_okG, d]; rfl⟩) (Nat.le_of_ble_eq_true rfl) (Nat.le_of_ble_eq_true rfl)
  · have d := fw_b0 d
    have d : rf_in mo (nI 1) (nI 4) = true := by simpa using d
    refine lv_iload_n hx hb dX8_cutterFor_7 rfl (lv_at hl 2 rfl) ?_
    refine fw_calli (fw_runS (As := [.int te]) (rest := []) C hz hw (c_X8_isNoToothCount l G _ _ te) (fw_cwS hT wd_207 ySX8_isNoToothCount rfl rfl ⟨Nat.le_of_ble_eq_true rfl, Nat.le_of_ble_eq_true rfl⟩) rfl hl.1 rfl (Nat.le_of_ble_eq_true rfl) dX8_cutterFor_8 ⟨Nat.le_of_ble_eq_true rfl, Nat.le_of_ble_eq_true rfl⟩) hw (fun r F1 H locs hw hp => ?_)
    obtain ⟨hp0, hp⟩ := hp
    rw [hp0] at hw
    refine W.widen (k := 0) (n := 0) (Nat.le_of_ble_eq_true rfl) (Nat.le_of_ble_eq_true rfl) ?_
    subst hp
    refine lv_if_eq (tgt := 24) hx hb dX8_cutterFor_11 (by decide) (fun d2 => ?_) (fun d2 => ?_)
    · have d2 := fw_b0 d2
      have d2 : rf_in te (nI 8) (nI 60) = true := by simpa using d2
      refine lv_aload_n hx hb dX8_cutterFor_24 rfl (lv_at hl 0 rfl) ?_
      refine lv_iload_n hx hb dX8_cutterFor_25 rfl (lv_at hl 1 rfl) ?_
      refine lv_iload_n hx hb dX8_cutterFor_26 rfl (lv_at hl 2 rfl) ?_
      refine fw_calli (fw_runV (As := [.int mo, .int te]) (rest := []) C hz hw (c_X8_lowestCutter l G _ _ x lc lt lo lm lw dr tm ca f nC mo te hX hC) (fw_cwV hT wd_319 yVX8_lowestCutter rfl rfl ⟨Nat.le_of_ble_eq_true rfl, Nat.le_of_ble_eq_true rfl⟩) (fw_rec hz hw hX (q := vwCl[9]) rfl) rfl hl.1 rfl (Nat.le_of_ble_eq_true rfl) dX8_cutterFor_27 ⟨Nat.le_of_ble_eq_true rfl, Nat.le_of_ble_eq_true rfl⟩) hw (fun r F1 H locs hw hp => ?_)
      obtain ⟨hp0, hp⟩ := hp
      rw [hp0] at hw
      refine W.widen (k := 0) (n := 0) (Nat.le_of_ble_eq_true rfl) (Nat.le_of_ble_eq_true rfl) ?_
      subst hp
      refine vx_ret ?_
      exact fw_iret hx hb hr hlk (Nat.le_of_ble_eq_true rfl) (Nat.le_of_ble_eq_true rfl) hw dX8_cutterFor_30 (⟨rfl, ⟨by rw [rf_okG, d, d2]; rfl, rfl⟩⟩)
    · have d2 := fw_b1 d2
      have d2 : rf_in te (nI 8) (nI 60) = false := by simpa using d2
      exact fw_throw (ik := 57) (is := 78) (ic := 61) hx hb hl9 hown (by decide +kernel) wd_210 wd_15 hT (fw_atA hT hcx) fw_otA hz hw (List.mem_of_getElem? (i := 2) rfl) (hl.1.trans hml.symm) dX8_cutterFor_14 dX8_cutterFor_17 dX8_cutterFor_18 dX8_cutterFor_20 dX8_cutterFor_23 hno ⟨Nat.le_of_ble_eq_true rfl, Nat.le_of_ble_eq_true rfl, Nat.le_of_ble_eq_true rfl, Nat.le_of_ble_eq_true rfl⟩ hlk (⟨rfl, by rw [rf_okG, d, d2]; rfl⟩) (Nat.le_of_ble_eq_true rfl) (Nat.le_of_ble_eq_true rfl)
set_option maxHeartbeats 4000000 in
set_option maxRecDepth 100000 in
theorem c_X8_time (l : Launch) (G : fw_G) (F : fw_F) (sz : Nat) (x lc lt lo lm lw dr : Nat) (tm : Int32) (hX : cr_X F x lc lt lo lm lw dr tm) : Met l yX8_time (fw_ws yX8_time cX8_time 1 (some (.int))) { frames := 0, cells := 0, slots := 0, locals := 0 } (va_Pc [.ref x] (fw_Pre G F sz)) (va_Qi (fun r F1 => F1 = F ∧ (fun r => r = tm) r) (fw_B G (fw_W G F sz)) (fw_W G F sz)) 0 0 (fw_W G F sz) := by
  refine fw_met (lv := [(0, .ref x)]) (by decide +kernel) (Nat.le_of_ble_eq_true rfl) rfl ?_
  intro A hA p e s m below meth c ls hx hb hml hown hT hr hlk hin hz hsz hw hAn hl
  rw [← hA]
  have hown : s.vm.findClass RX8 = some m.cls := hown
  have C : CallFix p m c cX8_time 1 s _ fw_tb RX8 := ⟨hx, hb, hml, hown, hT⟩
  refine lv_aload_n hx hb dX8_time_0 rfl (lv_at hl 0 rfl) ?_
  refine fw_get (v := .int tm) hx hb hT fi_RX8 hown hz hw hX rfl 6 (by decide) (hT _ wd_181) (fun _ h9 => h9) rfl dX8_time_1 ?_
  exact fw_iret hx hb hr hlk (Nat.le_of_ble_eq_true rfl) (Nat.le_of_ble_eq_true rfl) hw dX8_time_4 (⟨rfl, rfl⟩)
set_option maxHeartbeats 4000000 in
set_option maxRecDepth 100000 in
theorem c_X8_waiting (l : Launch) (G : fw_G) (F : fw_F) (sz : Nat) (x lc lt lo lm lw dr : Nat) (tm : Int32) (arr nW : Nat) (wf : Nat → Nat) (hX : cr_X F x lc lt lo lm lw dr tm) (hL : F lw = some ((1, 4, 0), fw_ls arr nW wf)) : Met l yX8_waiting (fw_ws yX8_waiting cX8_waiting 1 (some (.int))) { frames := 1, cells := 0, slots := 0, locals := 20 } (va_Pc [.ref x] (fw_Pre G F sz)) (va_Qi (fun r F1 => F1 = F ∧ (fun r => r = nI nW) r) (fw_B G (fw_W G F sz)) (fw_W G F sz)) 0 0 (fw_W G F sz) := by
  refine fw_met (lv := [(0, .ref x)]) (by decide +kernel) (Nat.le_of_ble_eq_true rfl) rfl ?_
  intro A hA p e s m below meth c ls hx hb hml hown hT hr hlk hin hz hsz hw hAn hl
  rw [← hA]
  have hown : s.vm.findClass RX8 = some m.cls := hown
  have C : CallFix p m c cX8_waiting 1 s _ fw_tb RX8 := ⟨hx, hb, hml, hown, hT⟩
  refine lv_aload_n hx hb dX8_waiting_0 rfl (lv_at hl 0 rfl) ?_
  refine fw_get (v := .ref lw) hx hb hT fi_RX8 hown hz hw hX rfl 4 (by decide) (hT _ wd_179) (fun _ h9 => h9) rfl dX8_waiting_1 ?_
  refine fw_calli (fw_runV (As := []) (rest := []) C hz hw (c_Jx4a65c_size_8abf5 l G _ _ lw arr nW (1, 4, 0) wf hL) (fw_cwV hT wd_278 yVJx4a65c_size_8abf5 rfl rfl ⟨Nat.le_of_ble_eq_true rfl, Nat.le_of_ble_eq_true rfl⟩) (fw_recL hz hw hL) rfl hl.1 rfl (Nat.le_of_ble_eq_true rfl) dX8_waiting_4 ⟨Nat.le_of_ble_eq_true rfl, Nat.le_of_ble_eq_true rfl⟩) hw (fun r F1 H locs hw hp => ?_)
  obtain ⟨hp0, hp⟩ := hp
  rw [hp0] at hw
  refine W.widen (k := 0) (n := 0) (Nat.le_of_ble_eq_true rfl) (Nat.le_of_ble_eq_true rfl) ?_
  subst hp
  exact fw_iret hx hb hr hlk (Nat.le_of_ble_eq_true rfl) (Nat.le_of_ble_eq_true rfl) hw dX8_waiting_7 (⟨rfl, rfl⟩)
