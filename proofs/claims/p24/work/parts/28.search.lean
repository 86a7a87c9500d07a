/-! The class: cutters, searches in the workshop. -/
def rf_cc (f : mm_A) (mo te : Int32) (j : Nat) : Bool := decide (f 2 j = mo) && rf_in te (f 3 j) (f 4 j)
theorem rf_cc_iff (f : mm_A) (mo te : Int32) (j : Nat) : (f 2 j = mo ∧ rf_in te (f 3 j) (f 4 j) = true) ↔ rf_cc f mo te j = true := by simp [rf_cc]
theorem rf_cutL_no (f : mm_A) (mo te : Int32) : ∀ (j : Nat) (its : Int32), (∀ i, i < j → rf_cc f mo te i = false) → rf_cutL f mo te j its = its
  | 0, _, _ => rfl
  | j + 1, its, h => by
    rw [rf_cutL, if_neg (fun h9 => by rw [rf_cc_iff, h j (by omega)] at h9; cases h9)]
    exact rf_cutL_no f mo te j its (fun i hi => h i (by omega))
theorem rf_cutL_yes (f : mm_A) (mo te : Int32) (i : Nat) (hc : rf_cc f mo te i = true) (hno : ∀ k, k < i → rf_cc f mo te k = false) : ∀ (j : Nat) (its : Int32), i < j → rf_cutL f mo te j its = nI i
  | 0, _, h => absurd h (Nat.not_lt_zero _)
  | j + 1, its, h => by
    rw [rf_cutL]
    rcases Nat.lt_or_ge i j with h1 | h1
    · exact rf_cutL_yes f mo te i hc hno j _ h1
    · have e : j = i := by omega
      subst e
      rw [if_pos ((rf_cc_iff f mo te j).mpr hc)]
      exact rf_cutL_no f mo te j _ hno
/-- the first place below n where p holds, as a number; -1 if there is none -/
def cl_fst (p : Nat → Bool) (n : Nat) (r : Int32) : Prop := (r = -1 ∧ ∀ k, k < n → p k = false) ∨ ∃ i, i < n ∧ r = nI i ∧ p i = true ∧ ∀ k, k < i → p k = false
def cr_X (F : fw_F) (x lc lt lo lm lw dr : Nat) (tm : Int32) : Prop := F x = some ((50, 0, 0), fw_obj 9 [.ref lc, .ref lt, .ref lo, .ref lm, .ref lw, .ref dr, .int tm])
def cr_C (F : fw_F) (lc : Nat) (ca : Nat → Nat) (f : mm_A) (nC : Nat) : Prop := nC ≤ 10 ∧ (∃ arr, F lc = some ((1, 0, 0), fw_ls arr nC ca)) ∧ ∀ i, i < nC → F (ca i) = some ((2, i, 0), fw_obj 1 [.int (f 2 i), .int (f 3 i), .int (f 4 i)])
/-- the machines: cutter, job, ticks left -/
def cr_M (F : fw_F) (lm : Nat) (ma : Nat → Nat) (f : mm_A) (jb : Nat → Option Nat) (lf : Nat → Int32) : Prop := (∃ arr, F lm = some ((1, 3, 0), fw_ls arr 3 ma)) ∧ ∀ k, k < 3 → F (ma k) = some ((9, k, 0), fw_obj 4 [.int (f 22 k), va_rf (jb k), .int (lf k)])
/-- the waiting row: nW jobs, the k-th of them job wj k -/
def cr_W (F : fw_F) (lw nW : Nat) (ja wj : Nat → Nat) (od : Nat → Nat) (f : mm_A) : Prop := nW ≤ 96 ∧ (∃ arr, F lw = some ((1, 4, 0), fw_ls arr nW (fun k => ja (wj k)))) ∧ ∀ k, k < nW → F (ja (wj k)) = some ((8, wj k, 0), fw_obj 3 [.ref (od (wj k)), .int (f 19 (wj k)), .int (f 18 (wj k))])
set_option maxHeartbeats 4000000 in
set_option maxRecDepth 100000 in
theorem c_X8_lowestCutter (l : Launch) (G : fw_G) (F : fw_F) (sz : Nat) (x lc lt lo lm lw dr : Nat) (tm : Int32) (ca : Nat → Nat) (f : mm_A) (nC : Nat) (mo te : Int32) (hX : cr_X F x lc lt lo lm lw dr tm) (hC : cr_C F lc ca f nC) : Met l yX8_lowestCutter (fw_ws yX8_lowestCutter cX8_lowestCutter 4 (some (.int))) { frames := 3, cells := 0, slots := 0, locals := 64 } (va_Pc [.ref x, .int mo, .int te] (fw_Pre G F sz)) (va_Qi (fun r F1 => F1 = F ∧ (fun r => r = rf_cut f nC mo te) r) (fw_B G (fw_W G F sz)) (fw_W G F sz)) 0 0 (fw_W G F sz) := by
  refine fw_met (lv := [(0, .ref x), (1, .int mo), (2, .int te)]) (by decide +kernel) (Nat.le_of_ble_eq_true rfl) rfl ?_
  intro A hA p e s m below meth c ls hx hb hml hown hT hr hlk hin hz hsz hw hAn hl
  rw [← hA]
  have hown : s.vm.findClass RX8 = some m.cls := hown
  have C : CallFix p m c cX8_lowestCutter 4 s _ fw_tb RX8 := ⟨hx, hb, hml, hown, hT⟩
  obtain ⟨hn, ⟨arr, hLc⟩, hcs⟩ := hC
  refine lv_iconst (v := (nI 0)) hx hb dX8_lowestCutter_0 (by decide) ?_
  refine lv_istore_n (lv' := [(3, .int (nI 0)), (0, .ref x), (1, .int mo), (2, .int te)]) hx hb dX8_lowestCutter_1 rfl hl (by decide) rfl (fun ls hl => ?_)
  suffices hlp : ∀ (d k : Nat), k + d = nC → (∀ i, i < k → rf_cc f mo te i = false) → ∀ (H : Heap) (locs : List Loc) (ls : Array Slot), fw_S G A s F H locs → lv_has ls 4 [(3, .int (nI k)), (0, .ref x), (1, .int mo), (2, .int te)] → W p l e { frames := 3, cells := 0, slots := 0, locals := 64 } s m ([.ref x, .int mo, .int te] : List Value).toArray below meth c H locs 0 0 (MQ below (va_Qi (fun r F1 => F1 = F ∧ (fun r => r = rf_cut f nC mo te) r) (fw_B G A) A) ([.ref x, .int mo, .int te] : List Value).toArray s 0 0 A) (F0 m 2 ls []) by
    exact hlp nC 0  (Nat.zero_add _) (fun i hi => absurd hi (Nat.not_lt_zero _))  _ _ _ hw (lv_sub hl [0, 1, 2, 3] rfl)
  intro d
  induction d with
  | zero =>
    intro k  hk hno H locs ls hw hl
    refine lv_iload_n hx hb dX8_lowestCutter_2 rfl (lv_at hl 0 rfl) ?_
    refine lv_aload_n hx hb dX8_lowestCutter_3 rfl (lv_at hl 1 rfl) ?_
    refine fw_get (v := .ref lc) hx hb hT fi_RX8 hown hz hw hX rfl 0 (by decide) (hT _ wd_175) (fun _ h9 => h9) rfl dX8_lowestCutter_4 ?_
    refine fw_calli (fw_runV (As := []) (rest := [.int (nI k)]) C hz hw (c_Jx4a65c_size_8abf5 l G _ _ lc arr nC (1, 0, 0) ca hLc) (fw_cwV hT wd_278 yVJx4a65c_size_8abf5 rfl rfl ⟨Nat.le_of_ble_eq_true rfl, Nat.le_of_ble_eq_true rfl⟩) (fw_recL hz hw hLc) rfl hl.1 rfl (Nat.le_of_ble_eq_true rfl) dX8_lowestCutter_7 ⟨Nat.le_of_ble_eq_true rfl, Nat.le_of_ble_eq_true rfl⟩) hw (fun r F1 H locs hw hp => ?_)
    obtain ⟨hp0, hp⟩ := hp
    rw [hp0] at hw
    refine W.widen (k := 0) (n := 0) (Nat.le_of_ble_eq_true rfl) (Nat.le_of_ble_eq_true rfl) ?_
    subst hp
    refine lv_icmp_ge (tgt := 40) hx hb dX8_lowestCutter_10 (by decide) (fun d => ?_) (fun d => ?_)
    · have d := (nI_leI (a := nC) (b := k) (by omega) (by omega)).mp d
      obtain rfl : k = nC := by omega
      refine lv_iconst (v := (-1)) hx hb dX8_lowestCutter_40 (by decide) ?_
      exact fw_iret hx hb hr hlk (Nat.le_of_ble_eq_true rfl) (Nat.le_of_ble_eq_true rfl) hw dX8_lowestCutter_41 (⟨rfl, (rf_cutL_no f mo te k (-1) hno).symm⟩)
    · have d : ¬ nC ≤ k := fun h9 => d ((nI_leI (a := nC) (b := k) (by omega) (by omega)).mpr h9)
      omega
  | succ d ih =>
    intro k  hk hno H locs ls hw hl
    refine lv_iload_n hx hb dX8_lowestCutter_2 rfl (lv_at hl 0 rfl) ?_
    refine lv_aload_n hx hb dX8_lowestCutter_3 rfl (lv_at hl 1 rfl) ?_
    refine fw_get (v := .ref lc) hx hb hT fi_RX8 hown hz hw hX rfl 0 (by decide) (hT _ wd_175) (fun _ h9 => h9) rfl dX8_lowestCutter_4 ?_
    refine fw_calli (fw_runV (As := []) (rest := [.int (nI k)]) C hz hw (c_Jx4a65c_size_8abf5 l G _ _ lc arr nC (1, 0, 0) ca hLc) (fw_cwV hT wd_278 yVJx4a65c_size_8abf5 rfl rfl ⟨Nat.le_of_ble_eq_true rfl, Nat.le_of_ble_eq_true rfl⟩) (fw_recL hz hw hLc) rfl hl.1 rfl (Nat.le_of_ble_eq_true rfl) dX8_lowestCutter_7 ⟨Nat.le_of_ble_eq_true rfl, Nat.le_of_ble_eq_true rfl⟩) hw (fun r F1 H locs hw hp => ?_)
    obtain ⟨hp0, hp⟩ := hp
    rw [hp0] at hw
    refine W.widen (k := 0) (n := 0) (Nat.le_of_ble_eq_true rfl) (Nat.le_of_ble_eq_true rfl) ?_
    subst hp
    refine lv_icmp_ge (tgt := 40) hx hb dX8_lowestCutter_10 (by decide) (fun d => ?_) (fun d => ?_)
    · have d := (nI_leI (a := nC) (b := k) (by omega) (by omega)).mp d
      omega
    · have d : ¬ nC ≤ k := fun h9 => d ((nI_leI (a := nC) (b := k) (by omega) (by omega)).mpr h9)
      have hk9 : k < nC := by omega
      refine lv_aload_n hx hb dX8_lowestCutter_13 rfl (lv_at hl 1 rfl) ?_
      refine fw_get (v := .ref lc) hx hb hT fi_RX8 hown hz hw hX rfl 0 (by decide) (hT _ wd_175) (fun _ h9 => h9) rfl dX8_lowestCutter_14 ?_
      refine lv_iload_n hx hb dX8_lowestCutter_17 rfl (lv_at hl 0 rfl) ?_
      refine fw_callo (fw_runV (As := [.int (nI k)]) (rest := []) C hz hw (c_Jx4a65c_get_915e3 l G _ _ lc arr nC (1, 0, 0) ca k hLc hk9 (by omega)) (fw_cwV hT wd_323 yVJx4a65c_get_915e3 rfl rfl ⟨Nat.le_of_ble_eq_true rfl, Nat.le_of_ble_eq_true rfl⟩) (fw_recL hz hw hLc) rfl hl.1 rfl (Nat.le_of_ble_eq_true rfl) dX8_lowestCutter_18 ⟨Nat.le_of_ble_eq_true rfl, Nat.le_of_ble_eq_true rfl⟩) hw (fun r F1 H locs hw hp => ?_)
      obtain ⟨hp0, hp⟩ := hp
      rw [hp0] at hw
      refine W.widen (k := 0) (n := 0) (Nat.le_of_ble_eq_true rfl) (Nat.le_of_ble_eq_true rfl) ?_
      subst hp
      have hs9 := hcs k hk9
      refine fw_cast hx hb hown hz hw hs9 (q := vwCl[1]) rfl (hT _ wd_298) dX8_lowestCutter_21 ?_
      refine lv_iload_n hx hb dX8_lowestCutter_24 rfl (lv_at hl 2 rfl) ?_
      refine lv_iload_n hx hb dX8_lowestCutter_25 rfl (lv_at hl 3 rfl) ?_
      refine fw_calli (fw_runV (As := [.int mo, .int te]) (rest := []) C hz hw (c_X0_cuts l G _ _ (ca k) (2, k, 0) mo te (f 2 k) (f 3 k) (f 4 k) hs9) (fw_cwV hT wd_337 yVX0_cuts rfl rfl ⟨Nat.le_of_ble_eq_true rfl, Nat.le_of_ble_eq_true rfl⟩) (fw_rec hz hw hs9 (q := vwCl[1]) rfl) rfl hl.1 rfl (Nat.le_of_ble_eq_true rfl) dX8_lowestCutter_26 ⟨Nat.le_of_ble_eq_true rfl, Nat.le_of_ble_eq_true rfl⟩) hw (fun r F1 H locs hw hp => ?_)
      obtain ⟨hp0, hp⟩ := hp
      rw [hp0] at hw
      refine W.widen (k := 0) (n := 0) (Nat.le_of_ble_eq_true rfl) (Nat.le_of_ble_eq_true rfl) ?_
      subst hp
      refine lv_if_eq (tgt := 34) hx hb dX8_lowestCutter_29 (by decide) (fun d2 => ?_) (fun d2 => ?_)
      · have d2 := fw_b0 d2
        refine lv_iinc (v := (nI (k + 1))) (lv' := [(3, .int (nI (k + 1))), (0, .ref x), (1, .int mo), (2, .int te)]) hx hb dX8_lowestCutter_34 hl (k := 0) rfl (nI_1 _) (by decide) rfl (fun ls hl => ?_)
        refine lv_goto (tgt := 2) hx hb dX8_lowestCutter_37 (by decide) ?_
        exact ih (k + 1)  (by omega) (fun i hi => by
              rcases Nat.eq_or_lt_of_le (Nat.le_of_lt_succ hi) with h9 | h9
              · rw [h9]; exact d2
              · exact hno i h9)  _ _ _ hw (lv_sub hl [0, 1, 2, 3] rfl)
      · have d2 := fw_b1 d2
        refine lv_iload_n hx hb dX8_lowestCutter_32 rfl (lv_at hl 0 rfl) ?_
        exact fw_iret hx hb hr hlk (Nat.le_of_ble_eq_true rfl) (Nat.le_of_ble_eq_true rfl) hw dX8_lowestCutter_33 (⟨rfl, (rf_cutL_yes f mo te k d2 hno nC (-1) hk9).symm⟩)
def cl_oth (f : mm_A) (mq : Nat) (cu : Int32) : Nat → Bool
  | 0 => false
  | k + 1 => cl_oth f mq cu k || (!(decide (k = mq)) && decide (f 22 k = cu))
set_option maxHeartbeats 4000000 in
set_option maxRecDepth 100000 in
theorem c_X8_isOnAnother (l : Launch) (G : fw_G) (F : fw_F) (sz : Nat) (x lc lt lo lm lw dr : Nat) (tm : Int32) (ma : Nat → Nat) (f : mm_A) (jb : Nat → Option Nat) (lf : Nat → Int32) (mq : Nat) (cu : Int32) (hX : cr_X F x lc lt lo lm lw dr tm) (hM : cr_M F lm ma f jb lf) (hmq : mq < 3) : Met l yX8_isOnAnother (fw_ws yX8_isOnAnother cX8_isOnAnother 5 (some (.boolean))) { frames := 3, cells := 0, slots := 0, locals := 64 } (va_Pc [.ref x, .ref (ma mq), .int cu] (fw_Pre G F sz)) (va_Qi (fun r F1 => F1 = F ∧ (fun r => r = fw_b (cl_oth f mq cu 3)) r) (fw_B G (fw_W G F sz)) (fw_W G F sz)) 0 0 (fw_W G F sz) := by
  refine fw_met (lv := [(0, .ref x), (1, .ref (ma mq)), (2, .int cu)]) (by decide +kernel) (Nat.le_of_ble_eq_true rfl) rfl ?_
  intro A hA p e s m below meth c ls hx hb hml hown hT hr hlk hin hz hsz hw hAn hl
  rw [← hA]
  have hown : s.vm.findClass RX8 = some m.cls := hown
  have C : CallFix p m c cX8_isOnAnother 5 s _ fw_tb RX8 := ⟨hx, hb, hml, hown, hT⟩
  obtain ⟨⟨arr, hLm⟩, hms⟩ := hM
  have hmm := hms mq hmq
  refine lv_iconst (v := (nI 0)) hx hb dX8_isOnAnother_0 (by decide) ?_
  refine lv_istore_n (lv' := [(3, .int (nI 0)), (0, .ref x), (1, .ref (ma mq)), (2, .int cu)]) hx hb dX8_isOnAnother_1 rfl hl (by decide) rfl (fun ls hl => ?_)
  suffices hlp : ∀ (d k : Nat), k + d = 3 → (cl_oth f mq cu k = false) → ∀ (H : Heap) (locs : List Loc) (ls : Array Slot), fw_S G A s F H locs → lv_has ls 5 [(3, .int (nI k)), (0, .ref x), (1, .ref (ma mq)), (2, .int cu)] → W p l e { frames := 3, cells := 0, slots := 0, locals := 64 } s m ([.ref x, .ref (ma mq), .int cu] : List Value).toArray below meth c H locs 0 0 (MQ below (va_Qi (fun r F1 => F1 = F ∧ (fun r => r = fw_b (cl_oth f mq cu 3)) r) (fw_B G A) A) ([.ref x, .ref (ma mq), .int cu] : List Value).toArray s 0 0 A) (F0 m 2 ls []) by
    exact hlp 3 0  (Nat.zero_add _) (rfl)  _ _ _ hw (lv_sub hl [0, 1, 2, 3] rfl)
  intro d
  induction d with
  | zero =>
    intro k  hk hno H locs ls hw hl
    refine lv_iload_n hx hb dX8_isOnAnother_2 rfl (lv_at hl 0 rfl) ?_
    refine lv_aload_n hx hb dX8_isOnAnother_3 rfl (lv_at hl 1 rfl) ?_
    refine fw_get (v := .ref lm) hx hb hT fi_RX8 hown hz hw hX rfl 3 (by decide) (hT _ wd_178) (fun _ h9 => h9) rfl dX8_isOnAnother_4 ?_
    refine fw_calli (fw_runV (As := []) (rest := [.int (nI k)]) C hz hw (c_Jx4a65c_size_8abf5 l G _ _ lm arr 3 (1, 3, 0) ma hLm) (fw_cwV hT wd_278 yVJx4a65c_size_8abf5 rfl rfl ⟨Nat.le_of_ble_eq_true rfl, Nat.le_of_ble_eq_true rfl⟩) (fw_recL hz hw hLm) rfl hl.1 rfl (Nat.le_of_ble_eq_true rfl) dX8_isOnAnother_7 ⟨Nat.le_of_ble_eq_true rfl, Nat.le_of_ble_eq_true rfl⟩) hw (fun r F1 H locs hw hp => ?_)
    obtain ⟨hp0, hp⟩ := hp
    rw [hp0] at hw
    refine W.widen (k := 0) (n := 0) (Nat.le_of_ble_eq_true rfl) (Nat.le_of_ble_eq_true rfl) ?_
    subst hp
    refine lv_icmp_ge (tgt := 49) hx hb dX8_isOnAnother_10 (by decide) (fun d => ?_) (fun d => ?_)
    · have d := (nI_leI (a := 3) (b := k) (by omega) (by omega)).mp d
      obtain rfl : k = 3 := by omega
      refine lv_iconst (v := (nI 0)) hx hb dX8_isOnAnother_49 (by decide) ?_
      exact fw_zret hx hb hr (by decide) hlk (Nat.le_of_ble_eq_true rfl) (Nat.le_of_ble_eq_true rfl) hw dX8_isOnAnother_50 (⟨rfl, by rw [hno]; rfl⟩)
    · have d : ¬ 3 ≤ k := fun h9 => d ((nI_leI (a := 3) (b := k) (by omega) (by omega)).mpr h9)
      omega
  | succ d ih =>
    intro k  hk hno H locs ls hw hl
    refine lv_iload_n hx hb dX8_isOnAnother_2 rfl (lv_at hl 0 rfl) ?_
    refine lv_aload_n hx hb dX8_isOnAnother_3 rfl (lv_at hl 1 rfl) ?_
    refine fw_get (v := .ref lm) hx hb hT fi_RX8 hown hz hw hX rfl 3 (by decide) (hT _ wd_178) (fun _ h9 => h9) rfl dX8_isOnAnother_4 ?_
    refine fw_calli (fw_runV (As := []) (rest := [.int (nI k)]) C hz hw (c_Jx4a65c_size_8abf5 l G _ _ lm arr 3 (1, 3, 0) ma hLm) (fw_cwV hT wd_278 yVJx4a65c_size_8abf5 rfl rfl ⟨Nat.le_of_ble_eq_true rfl, Nat.le_of_ble_eq_true rfl⟩) (fw_recL hz hw hLm) rfl hl.1 rfl (Nat.le_of_ble_eq_true rfl) dX8_isOnAnother_7 ⟨Nat.le_of_ble_eq_true rfl, Nat.le_of_ble_eq_true rfl⟩) hw (fun r F1 H locs hw hp => ?_)
    obtain ⟨hp0, hp⟩ := hp
    rw [hp0] at hw
    refine W.widen (k := 0) (n := 0) (Nat.le_of_ble_eq_true rfl) (Nat.le_of_ble_eq_true rfl) ?_
    subst hp
    refine lv_icmp_ge (tgt := 49) hx hb dX8_isOnAnother_10 (by decide) (fun d => ?_) (fun d => ?_)
    · have d := (nI_leI (a := 3) (b := k) (by omega) (by omega)).mp d
      omega
    · have d : ¬ 3 ≤ k := fun h9 => d ((nI_leI (a := 3) (b := k) (by omega) (by omega)).mpr h9)
      have hk9 : k < 3 := by omega
      refine lv_aload_n hx hb dX8_isOnAnother_13 rfl (lv_at hl 1 rfl) ?_
      refine fw_get (v := .ref lm) hx hb hT fi_RX8 hown hz hw hX rfl 3 (by decide) (hT _ wd_178) (fun _ h9 => h9) rfl dX8_isOnAnother_14 ?_
      refine lv_iload_n hx hb dX8_isOnAnother_17 rfl (lv_at hl 0 rfl) ?_
      refine fw_callo (fw_runV (As := [.int (nI k)]) (rest := []) C hz hw (c_Jx4a65c_get_915e3 l G _ _ lm arr 3 (1, 3, 0) ma k hLm hk9 (by omega)) (fw_cwV hT wd_323 yVJx4a65c_get_915e3 rfl rfl ⟨Nat.le_of_ble_eq_true rfl, Nat.le_of_ble_eq_true rfl⟩) (fw_recL hz hw hLm) rfl hl.1 rfl (Nat.le_of_ble_eq_true rfl) dX8_isOnAnother_18 ⟨Nat.le_of_ble_eq_true rfl, Nat.le_of_ble_eq_true rfl⟩) hw (fun r F1 H locs hw hp => ?_)
      obtain ⟨hp0, hp⟩ := hp
      rw [hp0] at hw
      refine W.widen (k := 0) (n := 0) (Nat.le_of_ble_eq_true rfl) (Nat.le_of_ble_eq_true rfl) ?_
      subst hp
      have hs9 := hms k hk9
      refine fw_cast hx hb hown hz hw hs9 (q := vwCl[4]) rfl (hT _ wd_96) dX8_isOnAnother_21 ?_
      refine lv_astore (lv' := [(4, .ref (ma k)), (3, .int (nI k)), (0, .ref x), (1, .ref (ma mq)), (2, .int cu)]) hx hb dX8_isOnAnother_24 hl (by decide) rfl (fun ls hl => ?_)
      refine lv_aload hx hb dX8_isOnAnother_26 (lv_at hl 0 rfl) ?_
      refine lv_aload_n hx hb dX8_isOnAnother_28 rfl (lv_at hl 3 rfl) ?_
      refine lv_acmp_eq (rx := some (ma k)) (ry := some (ma mq)) (tgt := 43) hx hb dX8_isOnAnother_29 (by decide) (fun d2 => ?_) (fun d2 => ?_)
      · have hkm : k = mq := by have h9 := Option.some.inj d2; rw [h9, hmm] at hs9; cases hs9; rfl
        refine lv_iinc (v := (nI (k + 1))) (lv' := [(3, .int (nI (k + 1))), (4, .ref (ma k)), (0, .ref x), (1, .ref (ma mq)), (2, .int cu)]) hx hb dX8_isOnAnother_43 hl (k := 1) rfl (nI_1 _) (by decide) rfl (fun ls hl => ?_)
        refine lv_goto (tgt := 2) hx hb dX8_isOnAnother_46 (by decide) ?_
        exact ih (k + 1)  (by omega) (by rw [cl_oth, hno, decide_eq_true hkm]; rfl)  _ _ _ hw (lv_sub hl [0, 2, 3, 4] rfl)
      · have hkm : ¬ k = mq := fun h => d2 (by rw [h])
        refine lv_aload hx hb dX8_isOnAnother_32 (lv_at hl 0 rfl) ?_
        refine fw_get (v := .int (f 22 k)) hx hb hT fi_RX3 hown hz hw hs9 rfl 0 (by decide) (hT _ wd_103) (fun _ h9 => h9) rfl dX8_isOnAnother_34 ?_
        refine lv_iload_n hx hb dX8_isOnAnother_37 rfl (lv_at hl 4 rfl) ?_
        refine lv_icmp_ne (tgt := 43) hx hb dX8_isOnAnother_38 (by decide) (fun d3 => ?_) (fun d3 => ?_)
        · refine lv_iinc (v := (nI (k + 1))) (lv' := [(3, .int (nI (k + 1))), (4, .ref (ma k)), (0, .ref x), (1, .ref (ma mq)), (2, .int cu)]) hx hb dX8_isOnAnother_43 hl (k := 1) rfl (nI_1 _) (by decide) rfl (fun ls hl => ?_)
          refine lv_goto (tgt := 2) hx hb dX8_isOnAnother_46 (by decide) ?_
          exact ih (k + 1)  (by omega) (by rw [cl_oth, hno, decide_eq_false d3, Bool.and_false]; rfl)  _ _ _ hw (lv_sub hl [0, 2, 3, 4] rfl)
        · have hy9 : cl_oth f mq cu 3 = true := by
            have h1 : cl_oth f mq cu (k + 1) = true := by rw [cl_oth, decide_eq_false hkm, decide_eq_true d3]; simp
            rcases (show k = 0 ∨ k = 1 ∨ k = 2 by omega) with rfl | rfl | rfl
            · rw [cl_oth, cl_oth, h1]; rfl
            · rw [cl_oth, h1]; rfl
            · exact h1
          refine lv_iconst (v := (nI 1)) hx hb dX8_isOnAnother_41 (by decide) ?_
          exact fw_zret hx hb hr (by decide) hlk (Nat.le_of_ble_eq_true rfl) (Nat.le_of_ble_eq_true rfl) hw dX8_isOnAnother_42 (⟨rfl, by rw [hy9]; rfl⟩)
set_option maxHeartbeats 4000000 in
set_option maxRecDepth 100000 in
theorem c_X8_firstWithCutterOf (l : Launch) (G : fw_G) (F : fw_F) (sz : Nat) (x lc lt lo lm lw dr : Nat) (tm : Int32) (ma : Nat → Nat) (f : mm_A) (jb : Nat → Option Nat) (lf : Nat → Int32) (nW : Nat) (ja wj od : Nat → Nat) (mq : Nat) (hX : cr_X F x lc lt lo lm lw dr tm) (hM : cr_M F lm ma f jb lf) (hW : cr_W F lw nW ja wj od f) (hmq : mq < 3) : Met l yX8_firstWithCutterOf (fw_ws yX8_firstWithCutterOf cX8_firstWithCutterOf 3 (some (.int))) { frames := 3, cells := 0, slots := 0, locals := 64 } (va_Pc [.ref x, .ref (ma mq)] (fw_Pre G F sz)) (va_Qi (fun r F1 => F1 = F ∧ (fun r => cl_fst (fun k => decide (f 18 (wj k) = f 22 mq)) nW r) r) (fw_B G (fw_W G F sz)) (fw_W G F sz)) 0 0 (fw_W G F sz) := by
  refine fw_met (lv := [(0, .ref x), (1, .ref (ma mq))]) (by decide +kernel) (Nat.le_of_ble_eq_true rfl) rfl ?_
  intro A hA p e s m below meth c ls hx hb hml hown hT hr hlk hin hz hsz hw hAn hl
  rw [← hA]
  have hown : s.vm.findClass RX8 = some m.cls := hown
  have C : CallFix p m c cX8_firstWithCutterOf 3 s _ fw_tb RX8 := ⟨hx, hb, hml, hown, hT⟩
  have hM9 := hM
  obtain ⟨⟨arm, hLm⟩, hms⟩ := hM
  have hmm := hms mq hmq
  obtain ⟨hn, ⟨arr, hLw⟩, hjs⟩ := hW
  refine lv_iconst (v := (nI 0)) hx hb dX8_firstWithCutterOf_0 (by decide) ?_
  refine lv_istore_n (lv' := [(2, .int (nI 0)), (0, .ref x), (1, .ref (ma mq))]) hx hb dX8_firstWithCutterOf_1 rfl hl (by decide) rfl (fun ls hl => ?_)
  suffices hlp : ∀ (d k : Nat), k + d = nW → (∀ i, i < k → (fun k => decide (f 18 (wj k) = f 22 mq)) i = false) → ∀ (H : Heap) (locs : List Loc) (ls : Array Slot), fw_S G A s F H locs → lv_has ls 3 [(2, .int (nI k)), (0, .ref x), (1, .ref (ma mq))] → W p l e { frames := 3, cells := 0, slots := 0, locals := 64 } s m ([.ref x, .ref (ma mq)] : List Value).toArray below meth c H locs 0 0 (MQ below (va_Qi (fun r F1 => F1 = F ∧ (fun r => cl_fst (fun k => decide (f 18 (wj k) = f 22 mq)) nW r) r) (fw_B G A) A) ([.ref x, .ref (ma mq)] : List Value).toArray s 0 0 A) (F0 m 2 ls []) by
    exact hlp nW 0  (Nat.zero_add _) (fun i hi => absurd hi (Nat.not_lt_zero _))  _ _ _ hw (lv_sub hl [0, 1, 2] rfl)
  intro d
  induction d with
  | zero =>
    intro k  hk hno H locs ls hw hl
    refine lv_iload_n hx hb dX8_firstWithCutterOf_2 rfl (lv_at hl 0 rfl) ?_
    refine lv_aload_n hx hb dX8_firstWithCutterOf_3 rfl (lv_at hl 1 rfl) ?_
    refine fw_get (v := .ref lw) hx hb hT fi_RX8 hown hz hw hX rfl 4 (by decide) (hT _ wd_179) (fun _ h9 => h9) rfl dX8_firstWithCutterOf_4 ?_
    refine fw_calli (fw_runV (As := []) (rest := [.int (nI k)]) C hz hw (c_Jx4a65c_size_8abf5 l G _ _ lw arr nW (1, 4, 0) _ hLw) (fw_cwV hT wd_278 yVJx4a65c_size_8abf5 rfl rfl ⟨Nat.le_of_ble_eq_true rfl, Nat.le_of_ble_eq_true rfl⟩) (fw_recL hz hw hLw) rfl hl.1 rfl (Nat.le_of_ble_eq_true rfl) dX8_firstWithCutterOf_7 ⟨Nat.le_of_ble_eq_true rfl, Nat.le_of_ble_eq_true rfl⟩) hw (fun r F1 H locs hw hp => ?_)
    obtain ⟨hp0, hp⟩ := hp
    rw [hp0] at hw
    refine W.widen (k := 0) (n := 0) (Nat.le_of_ble_eq_true rfl) (Nat.le_of_ble_eq_true rfl) ?_
    subst hp
    refine lv_icmp_ge (tgt := 42) hx hb dX8_firstWithCutterOf_10 (by decide) (fun d => ?_) (fun d => ?_)
    · have d := (nI_leI (a := nW) (b := k) (by omega) (by omega)).mp d
      obtain rfl : k = nW := by omega
      refine lv_iconst (v := (-1)) hx hb dX8_firstWithCutterOf_42 (by decide) ?_
      exact fw_iret hx hb hr hlk (Nat.le_of_ble_eq_true rfl) (Nat.le_of_ble_eq_true rfl) hw dX8_firstWithCutterOf_43 (⟨rfl, Or.inl ⟨rfl, hno⟩⟩)
    · have d : ¬ nW ≤ k := fun h9 => d ((nI_leI (a := nW) (b := k) (by omega) (by omega)).mpr h9)
      omega
  | succ d ih =>
    intro k  hk hno H locs ls hw hl
    refine lv_iload_n hx hb dX8_firstWithCutterOf_2 rfl (lv_at hl 0 rfl) ?_
    refine lv_aload_n hx hb dX8_firstWithCutterOf_3 rfl (lv_at hl 1 rfl) ?_
    refine fw_get (v := .ref lw) hx hb hT fi_RX8 hown hz hw hX rfl 4 (by decide) (hT _ wd_179) (fun _ h9 => h9) rfl dX8_firstWithCutterOf_4 ?_
    refine fw_calli (fw_runV (As := []) (rest := [.int (nI k)]) C hz hw (c_Jx4a65c_size_8abf5 l G _ _ lw arr nW (1, 4, 0) _ hLw) (fw_cwV hT wd_278 yVJx4a65c_size_8abf5 rfl rfl ⟨Nat.le_of_ble_eq_true rfl, Nat.le_of_ble_eq_true rfl⟩) (fw_recL hz hw hLw) rfl hl.1 rfl (Nat.le_of_ble_eq_true rfl) dX8_firstWithCutterOf_7 ⟨Nat.le_of_ble_eq_true rfl, Nat.le_of_ble_eq_true rfl⟩) hw (fun r F1 H locs hw hp => ?_)
    obtain ⟨hp0, hp⟩ := hp
    rw [hp0] at hw
    refine W.widen (k := 0) (n := 0) (Nat.le_of_ble_eq_true rfl) (Nat.le_of_ble_eq_true rfl) ?_
    subst hp
    refine lv_icmp_ge (tgt := 42) hx hb dX8_firstWithCutterOf_10 (by decide) (fun d => ?_) (fun d => ?_)
    · have d := (nI_leI (a := nW) (b := k) (by omega) (by omega)).mp d
      omega
    · have d : ¬ nW ≤ k := fun h9 => d ((nI_leI (a := nW) (b := k) (by omega) (by omega)).mpr h9)
      have hk9 : k < nW := by omega
      refine lv_aload_n hx hb dX8_firstWithCutterOf_13 rfl (lv_at hl 1 rfl) ?_
      refine fw_get (v := .ref lw) hx hb hT fi_RX8 hown hz hw hX rfl 4 (by decide) (hT _ wd_179) (fun _ h9 => h9) rfl dX8_firstWithCutterOf_14 ?_
      refine lv_iload_n hx hb dX8_firstWithCutterOf_17 rfl (lv_at hl 0 rfl) ?_
      refine fw_callo (fw_runV (As := [.int (nI k)]) (rest := []) C hz hw (c_Jx4a65c_get_915e3 l G _ _ lw arr nW (1, 4, 0) _ k hLw hk9 (by omega)) (fw_cwV hT wd_323 yVJx4a65c_get_915e3 rfl rfl ⟨Nat.le_of_ble_eq_true rfl, Nat.le_of_ble_eq_true rfl⟩) (fw_recL hz hw hLw) rfl hl.1 rfl (Nat.le_of_ble_eq_true rfl) dX8_firstWithCutterOf_18 ⟨Nat.le_of_ble_eq_true rfl, Nat.le_of_ble_eq_true rfl⟩) hw (fun r F1 H locs hw hp => ?_)
      obtain ⟨hp0, hp⟩ := hp
      rw [hp0] at hw
      refine W.widen (k := 0) (n := 0) (Nat.le_of_ble_eq_true rfl) (Nat.le_of_ble_eq_true rfl) ?_
      subst hp
      have hs9 := hjs k hk9
      refine fw_cast hx hb hown hz hw hs9 (q := vwCl[3]) rfl (hT _ wd_486) dX8_firstWithCutterOf_21 ?_
      refine fw_get (v := .int (f 18 (wj k))) hx hb hT fi_RX2 hown hz hw hs9 rfl 2 (by decide) (hT _ wd_498) (fun _ h9 => h9) rfl dX8_firstWithCutterOf_24 ?_
      refine lv_aload_n hx hb dX8_firstWithCutterOf_27 rfl (lv_at hl 2 rfl) ?_
      refine fw_get (v := .int (f 22 mq)) hx hb hT fi_RX3 hown hz hw hmm rfl 0 (by decide) (hT _ wd_103) (fun _ h9 => h9) rfl dX8_firstWithCutterOf_28 ?_
      refine lv_icmp_ne (tgt := 36) hx hb dX8_firstWithCutterOf_31 (by decide) (fun d2 => ?_) (fun d2 => ?_)
      · refine lv_iinc (v := (nI (k + 1))) (lv' := [(2, .int (nI (k + 1))), (0, .ref x), (1, .ref (ma mq))]) hx hb dX8_firstWithCutterOf_36 hl (k := 0) rfl (nI_1 _) (by decide) rfl (fun ls hl => ?_)
        refine lv_goto (tgt := 2) hx hb dX8_firstWithCutterOf_39 (by decide) ?_
        exact ih (k + 1)  (by omega) (fun i hi => by
              rcases Nat.eq_or_lt_of_le (Nat.le_of_lt_succ hi) with h9 | h9
              · rw [h9]; exact decide_eq_false d2
              · exact hno i h9)  _ _ _ hw (lv_sub hl [0, 1, 2] rfl)
      · refine lv_iload_n hx hb dX8_firstWithCutterOf_34 rfl (lv_at hl 0 rfl) ?_
        exact fw_iret hx hb hr hlk (Nat.le_of_ble_eq_true rfl) (Nat.le_of_ble_eq_true rfl) hw dX8_firstWithCutterOf_35 (⟨rfl, Or.inr ⟨k, hk9, rfl, decide_eq_true d2, hno⟩⟩)
set_option maxHeartbeats 4000000 in
set_option maxRecDepth 100000 in
theorem c_X8_firstWithFreeCutter (l : Launch) (G : fw_G) (F : fw_F) (sz : Nat) (x lc lt lo lm lw dr : Nat) (tm : Int32) (ma : Nat → Nat) (f : mm_A) (jb : Nat → Option Nat) (lf : Nat → Int32) (nW : Nat) (ja wj od : Nat → Nat) (mq : Nat) (hX : cr_X F x lc lt lo lm lw dr tm) (hM : cr_M F lm ma f jb lf) (hW : cr_W F lw nW ja wj od f) (hmq : mq < 3) : Met l yX8_firstWithFreeCutter (fw_ws yX8_firstWithFreeCutter cX8_firstWithFreeCutter 3 (some (.int))) { frames := 4, cells := 0, slots := 0, locals := 88 } (va_Pc [.ref x, .ref (ma mq)] (fw_Pre G F sz)) (va_Qi (fun r F1 => F1 = F ∧ (fun r => cl_fst (fun k => !(cl_oth f mq (f 18 (wj k)) 3)) nW r) r) (fw_B G (fw_W G F sz)) (fw_W G F sz)) 0 0 (fw_W G F sz) := by
  refine fw_met (lv := [(0, .ref x), (1, .ref (ma mq))]) (by decide +kernel) (Nat.le_of_ble_eq_true rfl) rfl ?_
  intro A hA p e s m below meth c ls hx hb hml hown hT hr hlk hin hz hsz hw hAn hl
  rw [← hA]
  have hown : s.vm.findClass RX8 = some m.cls := hown
  have C : CallFix p m c cX8_firstWithFreeCutter 3 s _ fw_tb RX8 := ⟨hx, hb, hml, hown, hT⟩
  have hM9 := hM
  obtain ⟨⟨arm, hLm⟩, hms⟩ := hM
  have hmm := hms mq hmq
  obtain ⟨hn, ⟨arr, hLw⟩, hjs⟩ := hW
  refine lv_iconst (v := (nI 0)) hx hb dX8_firstWithFreeCutter_0 (by decide) ?_
  refine lv_istore_n (lv' := [(2, .int (nI 0)), (0, .ref x), (1, .ref (ma mq))]) hx hb dX8_firstWithFreeCutter_1 rfl hl (by decide) rfl (fun ls hl => ?_)
  suffices hlp : ∀ (d k : Nat), k + d = nW → (∀ i, i < k → (fun k => !(cl_oth f mq (f 18 (wj k)) 3)) i = false) → ∀ (H : Heap) (locs : List Loc) (ls : Array Slot), fw_S G A s F H locs → lv_has ls 3 [(2, .int (nI k)), (0, .ref x), (1, .ref (ma mq))] → W p l e { frames := 4, cells := 0, slots := 0, locals := 88 } s m ([.ref x, .ref (ma mq)] : List Value).toArray below meth c H locs 0 0 (MQ below (va_Qi (fun r F1 => F1 = F ∧ (fun r => cl_fst (fun k => !(cl_oth f mq (f 18 (wj k)) 3)) nW r) r) (fw_B G A) A) ([.ref x, .ref (ma mq)] : List Value).toArray s 0 0 A) (F0 m 2 ls []) by
    exact hlp nW 0  (Nat.zero_add _) (fun i hi => absurd hi (Nat.not_lt_zero _))  _ _ _ hw (lv_sub hl [0, 1, 2] rfl)
  intro d
  induction d with
  | zero =>
    intro k  hk hno H locs ls hw hl
    refine lv_iload_n hx hb dX8_firstWithFreeCutter_2 rfl (lv_at hl 0 rfl) ?_
    refine lv_aload_n hx hb dX8_firstWithFreeCutter_3 rfl (lv_at hl 1 rfl) ?_
    refine fw_get (v := .ref lw) hx hb hT fi_RX8 hown hz hw hX rfl 4 (by decide) (hT _ wd_179) (fun _ h9 => h9) rfl dX8_firstWithFreeCutter_4 ?_
    refine fw_calli (fw_runV (As := []) (rest := [.int (nI k)]) C hz hw (c_Jx4a65c_size_8abf5 l G _ _ lw arr nW (1, 4, 0) _ hLw) (fw_cwV hT wd_278 yVJx4a65c_size_8abf5 rfl rfl ⟨Nat.le_of_ble_eq_true rfl, Nat.le_of_ble_eq_true rfl⟩) (fw_recL hz hw hLw) rfl hl.1 rfl (Nat.le_of_ble_eq_true rfl) dX8_firstWithFreeCutter_7 ⟨Nat.le_of_ble_eq_true rfl, Nat.le_of_ble_eq_true rfl⟩) hw (fun r F1 H locs hw hp => ?_)
    obtain ⟨hp0, hp⟩ := hp
    rw [hp0] at hw
    refine W.widen (k := 0) (n := 0) (Nat.le_of_ble_eq_true rfl) (Nat.le_of_ble_eq_true rfl) ?_
    subst hp
    refine lv_icmp_ge (tgt := 43) hx hb dX8_firstWithFreeCutter_10 (by decide) (fun d => ?_) (fun d => ?_)
    · have d := (nI_leI (a := nW) (b := k) (by omega) (by omega)).mp d
      obtain rfl : k = nW := by omega
      refine lv_iconst (v := (-1)) hx hb dX8_firstWithFreeCutter_43 (by decide) ?_
      exact fw_iret hx hb hr hlk (Nat.le_of_ble_eq_true rfl) (Nat.le_of_ble_eq_true rfl) hw dX8_firstWithFreeCutter_44 (⟨rfl, Or.inl ⟨rfl, hno⟩⟩)
    · have d : ¬ nW ≤ k := fun h9 => d ((nI_leI (a := nW) (b := k) (by omega) (by omega)).mpr h9)
      omega
  | succ d ih =>
    intro k  hk hno H locs ls hw hl
    refine lv_iload_n hx hb dX8_firstWithFreeCutter_2 rfl (lv_at hl 0 rfl) ?_
    refine lv_aload_n hx hb dX8_firstWithFreeCutter_3 rfl (lv_at hl 1 rfl) ?_
    refine fw_get (v := .ref lw) hx hb hT fi_RX8 hown hz hw hX rfl 4 (by decide) (hT _ wd_179) (fun _ h9 => h9) rfl dX8_firstWithFreeCutter_4 ?_
    refine fw_calli (fw_runV (As := []) (rest := [.int (nI k)]) C hz hw (c_Jx4a65c_size_8abf5 l G _ _ lw arr nW (1, 4, 0) _ hLw) (fw_cwV hT wd_278 yVJx4a65c_size_8abf5 rfl rfl ⟨Nat.le_of_ble_eq_true rfl, Nat.le_of_ble_eq_true rfl⟩) (fw_recL hz hw hLw) rfl hl.1 rfl (Nat.le_of_ble_eq_true rfl) dX8_firstWithFreeCutter_7 ⟨Nat.le_of_ble_eq_true rfl, Nat.le_of_ble_eq_true rfl⟩) hw (fun r F1 H locs hw hp => ?_)
    obtain ⟨hp0, hp⟩ := hp
    rw [hp0] at hw
    refine W.widen (k := 0) (n := 0) (Nat.le_of_ble_eq_true rfl) (Nat.le_of_ble_eq_true rfl) ?_
    subst hp
    refine lv_icmp_ge (tgt := 43) hx hb dX8_firstWithFreeCutter_10 (by decide) (fun d => ?_) (fun d => ?_)
    · have d := (nI_leI (a := nW) (b := k) (by omega) (by omega)).mp d
      omega
    · have d : ¬ nW ≤ k := fun h9 => d ((nI_leI (a := nW) (b := k) (by omega) (by omega)).mpr h9)
      have hk9 : k < nW := by omega
      refine lv_aload_n hx hb dX8_firstWithFreeCutter_13 rfl (lv_at hl 1 rfl) ?_
      refine lv_aload_n hx hb dX8_firstWithFreeCutter_14 rfl (lv_at hl 2 rfl) ?_
      refine lv_aload_n hx hb dX8_firstWithFreeCutter_15 rfl (lv_at hl 1 rfl) ?_
      refine fw_get (v := .ref lw) hx hb hT fi_RX8 hown hz hw hX rfl 4 (by decide) (hT _ wd_179) (fun _ h9 => h9) rfl dX8_firstWithFreeCutter_16 ?_
      refine lv_iload_n hx hb dX8_firstWithFreeCutter_19 rfl (lv_at hl 0 rfl) ?_
      refine fw_callo (fw_runV (As := [.int (nI k)]) (rest := [.ref (ma mq), .ref x]) C hz hw (c_Jx4a65c_get_915e3 l G _ _ lw arr nW (1, 4, 0) _ k hLw hk9 (by omega)) (fw_cwV hT wd_323 yVJx4a65c_get_915e3 rfl rfl ⟨Nat.le_of_ble_eq_true rfl, Nat.le_of_ble_eq_true rfl⟩) (fw_recL hz hw hLw) rfl hl.1 rfl (Nat.le_of_ble_eq_true rfl) dX8_firstWithFreeCutter_20 ⟨Nat.le_of_ble_eq_true rfl, Nat.le_of_ble_eq_true rfl⟩) hw (fun r F1 H locs hw hp => ?_)
      obtain ⟨hp0, hp⟩ := hp
      rw [hp0] at hw
      refine W.widen (k := 0) (n := 0) (Nat.le_of_ble_eq_true rfl) (Nat.le_of_ble_eq_true rfl) ?_
      subst hp
      have hs9 := hjs k hk9
      refine fw_cast hx hb hown hz hw hs9 (q := vwCl[3]) rfl (hT _ wd_486) dX8_firstWithFreeCutter_23 ?_
      refine fw_get (v := .int (f 18 (wj k))) hx hb hT fi_RX2 hown hz hw hs9 rfl 2 (by decide) (hT _ wd_498) (fun _ h9 => h9) rfl dX8_firstWithFreeCutter_26 ?_
      refine fw_calli (fw_runV (As := [.ref (ma mq), .int (f 18 (wj k))]) (rest := []) C hz hw (c_X8_isOnAnother l G _ _ x lc lt lo lm lw dr tm ma f jb lf mq (f 18 (wj k)) hX hM9 hmq) (fw_cwV hT wd_527 yVX8_isOnAnother rfl rfl ⟨Nat.le_of_ble_eq_true rfl, Nat.le_of_ble_eq_true rfl⟩) (fw_rec hz hw hX (q := vwCl[9]) rfl) rfl hl.1 rfl (Nat.le_of_ble_eq_true rfl) dX8_firstWithFreeCutter_29 ⟨Nat.le_of_ble_eq_true rfl, Nat.le_of_ble_eq_true rfl⟩) hw (fun r F1 H locs hw hp => ?_)
      obtain ⟨hp0, hp⟩ := hp
      rw [hp0] at hw
      refine W.widen (k := 0) (n := 0) (Nat.le_of_ble_eq_true rfl) (Nat.le_of_ble_eq_true rfl) ?_
      subst hp
      refine lv_if_ne (tgt := 37) hx hb dX8_firstWithFreeCutter_32 (by decide) (fun d2 => ?_) (fun d2 => ?_)
      · have d2 := fw_b1 d2
        refine lv_iinc (v := (nI (k + 1))) (lv' := [(2, .int (nI (k + 1))), (0, .ref x), (1, .ref (ma mq))]) hx hb dX8_firstWithFreeCutter_37 hl (k := 0) rfl (nI_1 _) (by decide) rfl (fun ls hl => ?_)
        refine lv_goto (tgt := 2) hx hb dX8_firstWithFreeCutter_40 (by decide) ?_
        exact ih (k + 1)  (by omega) (fun i hi => by
              rcases Nat.eq_or_lt_of_le (Nat.le_of_lt_succ hi) with h9 | h9
              · rw [h9]; show (!cl_oth f mq (f 18 (wj k)) 3) = false; rw [d2]; rfl
              · exact hno i h9)  _ _ _ hw (lv_sub hl [0, 1, 2] rfl)
      · have d2 := fw_b0 d2
        refine lv_iload_n hx hb dX8_firstWithFreeCutter_35 rfl (lv_at hl 0 rfl) ?_
        exact fw_iret hx hb hr hlk (Nat.le_of_ble_eq_true rfl) (Nat.le_of_ble_eq_true rfl) hw dX8_firstWithFreeCutter_36 (⟨rfl, Or.inr ⟨k, hk9, rfl, (by show (!cl_oth f mq (f 18 (wj k)) 3) = true; rw [d2]; rfl), hno⟩⟩)
