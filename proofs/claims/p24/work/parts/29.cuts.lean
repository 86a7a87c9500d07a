/-! The class: work, append, cutters of a train, a job's queue, the designs' words. -/
def cl_us (x y : Int32) : Int32 := (x.toUInt32 >>> (y.toUInt32 &&& Int32.toUInt32 31)).toInt32
def cl_b1 (x : Int32) : Int32 := x - (cl_us x (nI 1) &&& 1431655765)
def cl_b2 (x : Int32) : Int32 := (x &&& 858993459) + (cl_us x (nI 2) &&& 858993459)
def cl_b3 (x : Int32) : Int32 := (x + cl_us x (nI 4)) &&& 252645135
def cl_b4 (x : Int32) : Int32 := x + cl_us x (nI 8)
def cl_b5 (x : Int32) : Int32 := x + cl_us x (nI 16)
def cl_bc (x : Int32) : Int32 := cl_b5 (cl_b4 (cl_b3 (cl_b2 (cl_b1 x)))) &&& nI 63
def cl_bit (k : Nat) : Int32 := nI 1 <<< (nI k &&& 31)
def cl_tw (f : mm_A) (nC : Nat) (mo : Int32) : Nat → Int32
  | 0 => 0
  | k + 1 => if rf_cut f nC mo (nI (8 + k)) = -1 then cl_tw f nC mo k ||| cl_bit (8 + k) else cl_tw f nC mo k
def cl_all (f : mm_A) (nC : Nat) (dt : Nat → Int32) : Nat → Bool
  | 0 => true
  | k + 1 => cl_all f nC dt k && (!(decide (rf_cut f nC (dt (3 * k)) (dt (3 * k + 1)) = -1)) && !(decide (rf_cut f nC (dt (3 * k)) (dt (3 * k + 2)) = -1)))
theorem cl_all_no (f : mm_A) (nC : Nat) (dt : Nat → Int32) (k : Nat) (h : cl_all f nC dt (k + 1) = false) : ∀ n, k < n → cl_all f nC dt n = false
  | 0, hn => absurd hn (Nat.not_lt_zero _)
  | n + 1, hn => by
    rcases Nat.eq_or_lt_of_le (Nat.le_of_lt_succ hn) with h9 | h9
    · rw [← h9]; exact h
    · rw [cl_all, cl_all_no f nC dt k h n h9]; rfl
set_option maxHeartbeats 4000000 in
set_option maxRecDepth 100000 in
theorem c_X3_work_N (l : Launch) (G : fw_G) (F : fw_F) (sz : Nat) (b : Nat) (t : fw_T) (cu lf : Int32) (hF : F b = some (t, fw_obj 4 [.int cu, .null, .int lf])) : Met l yX3_work (fw_ws yX3_work cX3_work 2 (some ((.object "Cogwright$Order")))) { frames := 0, cells := 0, slots := 0, locals := 0 } (va_Pc [.ref b] (fw_Pre G F sz)) (fw_Qo (fun r F1 => r = none ∧ F1 = F) (fw_B G (fw_W G F sz)) (fw_W G F sz)) 0 0 (fw_W G F sz) := by
  refine fw_met (lv := [(0, .ref b)]) (by decide +kernel) (Nat.le_of_ble_eq_true rfl) rfl ?_
  intro A hA p e s m below meth c ls hx hb hml hown hT hr hlk hin hz hsz hw hAn hl
  rw [← hA]
  have hown : s.vm.findClass RX3 = some m.cls := hown
  have C : CallFix p m c cX3_work 2 s _ fw_tb RX3 := ⟨hx, hb, hml, hown, hT⟩
  refine lv_aload_n hx hb dX3_work_0 rfl (lv_at hl 0 rfl) ?_
  refine fw_get (v := .null) hx hb hT fi_RX3 hown hz hw hF rfl 1 (by decide) (hT _ wd_104) (fun _ h9 => h9) rfl dX3_work_1 ?_
  refine lv_ifnonnullN hx hb dX3_work_4 ?_
  refine lv_null hx hb dX3_work_7 ?_
  exact fw_aret (v := none) hx hb hr hlk (Nat.le_of_ble_eq_true rfl) (Nat.le_of_ble_eq_true rfl) hw dX3_work_8 rfl (⟨rfl, rfl⟩)
set_option maxHeartbeats 4000000 in
set_option maxRecDepth 100000 in
theorem c_X3_work_S (l : Launch) (G : fw_G) (F : fw_F) (sz : Nat) (b : Nat) (t : fw_T) (cu lf : Int32) (j o : Nat) (tj : fw_T) (te cj : Int32) (hF : F b = some (t, fw_obj 4 [.int cu, .ref j, .int lf])) (hne : tj ≠ t) (hj : F j = some (tj, fw_obj 3 [.ref o, .int te, .int cj])) : Met l yX3_work (fw_ws yX3_work cX3_work 2 (some ((.object "Cogwright$Order")))) { frames := 0, cells := 0, slots := 0, locals := 0 } (va_Pc [.ref b] (fw_Pre G F sz)) (fw_Qo (fun r F1 => r = (if 0 < lf - nI 1 then none else some o) ∧ F1 = va_up F b (some (t, fw_obj 4 [.int cu, (if 0 < lf - nI 1 then .ref j else .null), .int (lf - nI 1)]))) (fw_B G (fw_W G F sz)) (fw_W G F sz)) 0 0 (fw_W G F sz) := by
  refine fw_met (lv := [(0, .ref b)]) (by decide +kernel) (Nat.le_of_ble_eq_true rfl) rfl ?_
  intro A hA p e s m below meth c ls hx hb hml hown hT hr hlk hin hz hsz hw hAn hl
  rw [← hA]
  have hown : s.vm.findClass RX3 = some m.cls := hown
  have C : CallFix p m c cX3_work 2 s _ fw_tb RX3 := ⟨hx, hb, hml, hown, hT⟩
  refine lv_aload_n hx hb dX3_work_0 rfl (lv_at hl 0 rfl) ?_
  refine fw_get (v := .ref j) hx hb hT fi_RX3 hown hz hw hF rfl 1 (by decide) (hT _ wd_104) (fun _ h9 => h9) rfl dX3_work_1 ?_
  refine lv_ifnonnull (tgt := 9) hx hb dX3_work_4 (by decide) ?_
  refine lv_aload_n hx hb dX3_work_9 rfl (lv_at hl 0 rfl) ?_
  refine lv_dup hx hb dX3_work_10 rfl ?_
  refine fw_get (v := .int lf) hx hb hT fi_RX3 hown hz hw hF rfl 2 (by decide) (hT _ wd_106) (fun _ h9 => h9) rfl dX3_work_11 ?_
  refine lv_iconst (v := (nI 1)) hx hb dX3_work_14 (by decide) ?_
  refine lv_isub hx hb dX3_work_15 ?_
  refine fw_put (v := .int (lf - (nI 1))) (fs' := [.int cu, .ref j, .int (lf - (nI 1))]) hx hb hT fi_RX3 tyX3 tyX3_ok nmX3 hown hz hw hF rfl 2 (by decide) (hT _ wd_106) (fun _ h9 => h9) rfl (ty := tyX3 2) (by decide +kernel) rfl rfl (Nat.le_of_ble_eq_true rfl) rfl dX3_work_16 (fun H locs hw => ?_)
  obtain ⟨W1, hFW1⟩ : ∃ z, z = va_up F b (some (t, fw_obj 4 [.int cu, .ref j, .int (lf - (nI 1))])) := ⟨_, rfl⟩
  rw [← hFW1] at hw
  have k1_0 : W1 j = some (tj, fw_obj 3 [.ref o, .int te, .int cj]) := by rw [hFW1]; exact fw_up_tag hj hF hne
  have k1_s : W1 b = some (t, fw_obj 4 [.int cu, .ref j, .int (lf - (nI 1))]) := by rw [hFW1]; exact fw_up_self
  refine lv_aload_n hx hb dX3_work_19 rfl (lv_at hl 0 rfl) ?_
  refine fw_get (v := .int (lf - (nI 1))) hx hb hT fi_RX3 hown hz hw k1_s rfl 2 (by decide) (hT _ wd_106) (fun _ h9 => h9) rfl dX3_work_20 ?_
  refine lv_if_le (tgt := 28) hx hb dX3_work_23 (by decide) (fun d => ?_) (fun d => ?_)
  · have d0 : ¬ 0 < lf - nI 1 := Int32.not_lt.mpr d
    refine lv_aload_n hx hb dX3_work_28 rfl (lv_at hl 0 rfl) ?_
    refine fw_get (v := .ref j) hx hb hT fi_RX3 hown hz hw k1_s rfl 1 (by decide) (hT _ wd_104) (fun _ h9 => h9) rfl dX3_work_29 ?_
    refine fw_get (v := .ref o) hx hb hT fi_RX2 hown hz hw k1_0 rfl 0 (by decide) (hT _ wd_493) (fun _ h9 => h9) rfl dX3_work_32 ?_
    refine lv_astore_n (lv' := [(1, .ref o), (0, .ref b)]) hx hb dX3_work_35 rfl hl (by decide) rfl (fun ls hl => ?_)
    refine lv_aload_n hx hb dX3_work_36 rfl (lv_at hl 1 rfl) ?_
    refine lv_null hx hb dX3_work_37 ?_
    refine fw_put (v := .null) (fs' := [.int cu, .null, .int (lf - (nI 1))]) hx hb hT fi_RX3 tyX3 tyX3_ok nmX3 hown hz hw k1_s rfl 1 (by decide) (hT _ wd_104) (fun _ h9 => h9) rfl (ty := tyX3 1) (by decide +kernel) rfl rfl (Nat.le_of_ble_eq_true rfl) rfl dX3_work_38 (fun H locs hw => ?_)
    obtain ⟨W2, hFW2⟩ : ∃ z, z = va_up W1 b (some (t, fw_obj 4 [.int cu, .null, .int (lf - (nI 1))])) := ⟨_, rfl⟩
    rw [← hFW2] at hw
    have k2_0 : W2 j = some (tj, fw_obj 3 [.ref o, .int te, .int cj]) := by rw [hFW2]; exact fw_up_tag k1_0 k1_s hne
    have k2_s : W2 b = some (t, fw_obj 4 [.int cu, .null, .int (lf - (nI 1))]) := by rw [hFW2]; exact fw_up_self
    refine lv_aload_n hx hb dX3_work_41 rfl (lv_at hl 0 rfl) ?_
    exact fw_aret (v := some o) hx hb hr hlk (Nat.le_of_ble_eq_true rfl) (Nat.le_of_ble_eq_true rfl) hw dX3_work_42 rfl (⟨by rw [if_neg d0], by rw [hFW2, hFW1, bx_uu, if_neg d0]⟩)
  · have d0 : 0 < lf - nI 1 := Int32.not_le.mp d
    refine lv_null hx hb dX3_work_26 ?_
    exact fw_aret (v := none) hx hb hr hlk (Nat.le_of_ble_eq_true rfl) (Nat.le_of_ble_eq_true rfl) hw dX3_work_27 rfl (⟨by rw [if_pos d0], by rw [hFW1, if_pos d0]⟩)
set_option maxHeartbeats 4000000 in
set_option maxRecDepth 100000 in
theorem c_X7_append (l : Launch) (G : fw_G) (F : fw_F) (sz : Nat) (b st sl fr arr cnt : Nat) (t ts : fw_T) (i : Nat) (cv : Int32) (sa : Nat → Nat) (u v m9 p9 q9 : Nat) (hF : F b = some (t, fw_obj 8 [.ref sl, .ref fr, .int cv])) (hL : F sl = some ((13, i, 0), fw_ls arr cnt sa)) (hR : F fr = some ((33, i, 0), fw_obj 2 [.long (lN u), .long (lN v)])) (hS : F st = some (ts, fw_obj 7 [.int (nI m9), .int (nI q9), .int (nI p9)])) (ht1 : t.1 = 3) (hts : ts.1 = 23) (hcn : cnt ≤ 4) (hp9 : p9 ≤ 60) (hq9 : q9 ≤ 60) (h1 : u * p9 < 2 ^ 62) (h2 : v * q9 < 2 ^ 62) (h3 : u * p9 * (v * q9) < 2 ^ 98) (h4 : 0 < v * q9) : Met l yX7_append (fw_ws yX7_append cX7_append 2 none) { frames := 7, cells := 1, slots := 240, locals := 171 } (va_Pc [.ref b, .ref st] (fw_Pre G F sz)) (va_Qv (fun F1 => ∃ q, F1 = va_up (va_up F sl (some ((13, i, 0), fw_ls q (cnt + 1) (va_up sa cnt st)))) fr (some ((33, i, 0), fw_obj 2 [.long (lN (u * p9 / (Nat.gcd (u * p9) (v * q9)))), .long (lN (v * q9 / (Nat.gcd (u * p9) (v * q9))))]))) (fw_B G (fw_W G F sz)) (fw_W G F sz)) 1 240 (fw_W G F sz) := by
  refine fw_met (lv := [(0, .ref b), (1, .ref st)]) (by decide +kernel) (Nat.le_of_ble_eq_true rfl) rfl ?_
  intro A hA p e s m below meth c ls hx hb hml hown hT hr hlk hin hz hsz hw hAn hl
  rw [← hA]
  have hown : s.vm.findClass RX7 = some m.cls := hown
  have C : CallFix p m c cX7_append 2 s _ fw_tb RX7 := ⟨hx, hb, hml, hown, hT⟩
  refine lv_aload_n hx hb dX7_append_0 rfl (lv_at hl 0 rfl) ?_
  refine fw_get (v := .ref sl) hx hb hT fi_RX7 hown hz hw hF rfl 0 (by decide) (hT _ wd_82) (fun _ h9 => h9) rfl dX7_append_1 ?_
  refine lv_aload_n hx hb dX7_append_4 rfl (lv_at hl 1 rfl) ?_
  refine fw_calli (fw_runV (As := [.ref st]) (rest := []) C hz hw (c_Jx4a65c_add_9ea2d l G _ _ sl arr cnt (13, i, 0) sa st 7 ts _ (show (13 : Nat) < 900 by decide) hL (by omega) hS) (fw_cwV hT wd_373 yVJx4a65c_add_9ea2d rfl rfl ⟨Nat.le_of_ble_eq_true rfl, Nat.le_of_ble_eq_true rfl⟩) (fw_recL hz hw hL) rfl hl.1 rfl (Nat.le_of_ble_eq_true rfl) dX7_append_5 ⟨Nat.le_of_ble_eq_true rfl, Nat.le_of_ble_eq_true rfl⟩) hw (fun r F1 H locs hw hp => ?_)
  refine W.widen (k := 1) (n := 240) (Nat.le_of_ble_eq_true rfl) (Nat.le_of_ble_eq_true rfl) ?_
  obtain ⟨rfl, q, hp⟩ := hp
  rw [hp] at hw
  obtain ⟨W1, hFW1⟩ : ∃ z, z = va_up F sl (some ((13, i, 0), fw_ls q (cnt + 1) (va_up sa cnt st))) := ⟨_, rfl⟩
  rw [← hFW1] at hw
  have k1_0 : W1 b = some (t, fw_obj 8 [.ref sl, .ref fr, .int cv]) := by rw [hFW1]; exact fw_up_tag hF hL (by intro z; rw [z] at ht1; cases ht1)
  have k1_1 : W1 fr = some ((33, i, 0), fw_obj 2 [.long (lN u), .long (lN v)]) := by rw [hFW1]; exact fw_up_tag hR hL (by intro z; cases z)
  have k1_2 : W1 st = some (ts, fw_obj 7 [.int (nI m9), .int (nI q9), .int (nI p9)]) := by rw [hFW1]; exact fw_up_tag hS hL (by intro z; rw [z] at hts; cases hts)
  have k1_s : W1 sl = some ((13, i, 0), fw_ls q (cnt + 1) (va_up sa cnt st)) := by rw [hFW1]; exact fw_up_self
  refine lv_pop hx hb dX7_append_8 rfl ?_
  refine lv_aload_n hx hb dX7_append_9 rfl (lv_at hl 0 rfl) ?_
  refine fw_get (v := .ref fr) hx hb hT fi_RX7 hown hz hw k1_0 rfl 1 (by decide) (hT _ wd_85) (fun _ h9 => h9) rfl dX7_append_10 ?_
  refine lv_aload_n hx hb dX7_append_13 rfl (lv_at hl 1 rfl) ?_
  refine fw_get (v := .int (nI p9)) hx hb hT fi_RX6 hown hz hw k1_2 rfl 2 (by decide) (hT _ wd_360) (fun _ h9 => h9) rfl dX7_append_14 ?_
  refine lv_i2l (v := lN p9) hx hb dX7_append_17 (nI_l (by omega)) ?_
  refine lv_aload_n hx hb dX7_append_18 rfl (lv_at hl 1 rfl) ?_
  refine fw_get (v := .int (nI q9)) hx hb hT fi_RX6 hown hz hw k1_2 rfl 1 (by decide) (hT _ wd_357) (fun _ h9 => h9) rfl dX7_append_19 ?_
  refine lv_i2l (v := lN q9) hx hb dX7_append_22 (nI_l (by omega)) ?_
  refine fw_callv (fw_runV (As := [.long (lN p9), .long (lN q9)]) (rest := []) C hz hw (c_X1_multiply l G _ _ fr (33, i, 0) u v p9 q9 k1_1 h1 h2 h3 h4) (fw_cwV hT wd_374 yVX1_multiply rfl rfl ⟨Nat.le_of_ble_eq_true rfl, Nat.le_of_ble_eq_true rfl⟩) (fw_rec hz hw k1_1 (q := vwCl[2]) rfl) rfl hl.1 rfl (Nat.le_of_ble_eq_true rfl) dX7_append_23 ⟨Nat.le_of_ble_eq_true rfl, Nat.le_of_ble_eq_true rfl⟩) hw (fun F1 H locs hw hp => ?_)
  refine W.widen (k := 1) (n := 240) (Nat.le_of_ble_eq_true rfl) (Nat.le_of_ble_eq_true rfl) ?_
  rw [hp, hFW1] at hw
  exact fw_vret hx hb hr hlk (Nat.le_of_ble_eq_true rfl) (Nat.le_of_ble_eq_true rfl) hw dX7_append_26 (⟨q, rfl⟩)
set_option maxHeartbeats 4000000 in
set_option maxRecDepth 100000 in
theorem c_X8_hasAllCutters (l : Launch) (G : fw_G) (F : fw_F) (sz : Nat) (x lc lt lo lm lw dr : Nat) (tm : Int32) (ca : Nat → Nat) (f : mm_A) (nC : Nat) (b sl fr arr cnt : Nat) (t tl : fw_T) (cv : Int32) (sa : Nat → Nat) (ts : Nat → fw_T) (dt : Nat → Int32) (hX : cr_X F x lc lt lo lm lw dr tm) (hC : cr_C F lc ca f nC) (hF : F b = some (t, fw_obj 8 [.ref sl, .ref fr, .int cv])) (hL : F sl = some (tl, fw_ls arr cnt sa)) (hcn : cnt ≤ 4) (hst : ∀ k, k < cnt → F (sa k) = some (ts k, fw_obj 7 [.int (dt (3 * k)), .int (dt (3 * k + 1)), .int (dt (3 * k + 2))])) : Met l yX8_hasAllCutters (fw_ws yX8_hasAllCutters cX8_hasAllCutters 4 (some (.boolean))) { frames := 4, cells := 0, slots := 0, locals := 87 } (va_Pc [.ref x, .ref b] (fw_Pre G F sz)) (va_Qi (fun r F1 => F1 = F ∧ (fun r => r = fw_b (cl_all f nC dt cnt)) r) (fw_B G (fw_W G F sz)) (fw_W G F sz)) 0 0 (fw_W G F sz) := by
  refine fw_met (lv := [(0, .ref x), (1, .ref b)]) (by decide +kernel) (Nat.le_of_ble_eq_true rfl) rfl ?_
  intro A hA p e s m below meth c ls hx hb hml hown hT hr hlk hin hz hsz hw hAn hl
  rw [← hA]
  have hown : s.vm.findClass RX8 = some m.cls := hown
  have C : CallFix p m c cX8_hasAllCutters 4 s _ fw_tb RX8 := ⟨hx, hb, hml, hown, hT⟩
  refine lv_iconst (v := (nI 0)) hx hb dX8_hasAllCutters_0 (by decide) ?_
  refine lv_istore_n (lv' := [(2, .int (nI 0)), (0, .ref x), (1, .ref b)]) hx hb dX8_hasAllCutters_1 rfl hl (by decide) rfl (fun ls hl => ?_)
  suffices hlp : ∀ (d k : Nat), k + d = cnt → (cl_all f nC dt k = true) → ∀ (H : Heap) (locs : List Loc) (ls : Array Slot), fw_S G A s F H locs → lv_has ls 4 [(2, .int (nI k)), (0, .ref x), (1, .ref b)] → W p l e { frames := 4, cells := 0, slots := 0, locals := 87 } s m ([.ref x, .ref b] : List Value).toArray below meth c H locs 0 0 (MQ below (va_Qi (fun r F1 => F1 = F ∧ (fun r => r = fw_b (cl_all f nC dt cnt)) r) (fw_B G A) A) ([.ref x, .ref b] : List Value).toArray s 0 0 A) (F0 m 2 ls []) by
    exact hlp cnt 0  (Nat.zero_add _) (rfl)  _ _ _ hw (lv_sub hl [0, 1, 2] rfl)
  intro d
  induction d with
  | zero =>
    intro k  hk hno H locs ls hw hl
    refine lv_iload_n hx hb dX8_hasAllCutters_2 rfl (lv_at hl 0 rfl) ?_
    refine lv_aload_n hx hb dX8_hasAllCutters_3 rfl (lv_at hl 2 rfl) ?_
    refine fw_get (v := .ref sl) hx hb hT fi_RX7 hown hz hw hF rfl 0 (by decide) (hT _ wd_84) (fun _ h9 => h9) rfl dX8_hasAllCutters_4 ?_
    refine fw_calli (fw_runV (As := []) (rest := [.int (nI k)]) C hz hw (c_Jx4a65c_size_8abf5 l G _ _ sl arr cnt tl sa hL) (fw_cwV hT wd_278 yVJx4a65c_size_8abf5 rfl rfl ⟨Nat.le_of_ble_eq_true rfl, Nat.le_of_ble_eq_true rfl⟩) (fw_recL hz hw hL) rfl hl.1 rfl (Nat.le_of_ble_eq_true rfl) dX8_hasAllCutters_7 ⟨Nat.le_of_ble_eq_true rfl, Nat.le_of_ble_eq_true rfl⟩) hw (fun r F1 H locs hw hp => ?_)
    obtain ⟨hp0, hp⟩ := hp
    rw [hp0] at hw
    refine W.widen (k := 0) (n := 0) (Nat.le_of_ble_eq_true rfl) (Nat.le_of_ble_eq_true rfl) ?_
    subst hp
    refine lv_icmp_ge (tgt := 65) hx hb dX8_hasAllCutters_10 (by decide) (fun d => ?_) (fun d => ?_)
    · have d := (nI_leI (a := cnt) (b := k) (by omega) (by omega)).mp d
      obtain rfl : k = cnt := by omega
      refine lv_iconst (v := (nI 1)) hx hb dX8_hasAllCutters_65 (by decide) ?_
      exact fw_zret hx hb hr (by decide) hlk (Nat.le_of_ble_eq_true rfl) (Nat.le_of_ble_eq_true rfl) hw dX8_hasAllCutters_66 (⟨rfl, by rw [hno]; rfl⟩)
    · have d : ¬ cnt ≤ k := fun h9 => d ((nI_leI (a := cnt) (b := k) (by omega) (by omega)).mpr h9)
      omega
  | succ d ih =>
    intro k  hk hno H locs ls hw hl
    refine lv_iload_n hx hb dX8_hasAllCutters_2 rfl (lv_at hl 0 rfl) ?_
    refine lv_aload_n hx hb dX8_hasAllCutters_3 rfl (lv_at hl 2 rfl) ?_
    refine fw_get (v := .ref sl) hx hb hT fi_RX7 hown hz hw hF rfl 0 (by decide) (hT _ wd_84) (fun _ h9 => h9) rfl dX8_hasAllCutters_4 ?_
    refine fw_calli (fw_runV (As := []) (rest := [.int (nI k)]) C hz hw (c_Jx4a65c_size_8abf5 l G _ _ sl arr cnt tl sa hL) (fw_cwV hT wd_278 yVJx4a65c_size_8abf5 rfl rfl ⟨Nat.le_of_ble_eq_true rfl, Nat.le_of_ble_eq_true rfl⟩) (fw_recL hz hw hL) rfl hl.1 rfl (Nat.le_of_ble_eq_true rfl) dX8_hasAllCutters_7 ⟨Nat.le_of_ble_eq_true rfl, Nat.le_of_ble_eq_true rfl⟩) hw (fun r F1 H locs hw hp => ?_)
    obtain ⟨hp0, hp⟩ := hp
    rw [hp0] at hw
    refine W.widen (k := 0) (n := 0) (Nat.le_of_ble_eq_true rfl) (Nat.le_of_ble_eq_true rfl) ?_
    subst hp
    refine lv_icmp_ge (tgt := 65) hx hb dX8_hasAllCutters_10 (by decide) (fun d => ?_) (fun d => ?_)
    · have d := (nI_leI (a := cnt) (b := k) (by omega) (by omega)).mp d
      omega
    · have d : ¬ cnt ≤ k := fun h9 => d ((nI_leI (a := cnt) (b := k) (by omega) (by omega)).mpr h9)
      have hk9 : k < cnt := by omega
      refine lv_aload_n hx hb dX8_hasAllCutters_13 rfl (lv_at hl 2 rfl) ?_
      refine fw_get (v := .ref sl) hx hb hT fi_RX7 hown hz hw hF rfl 0 (by decide) (hT _ wd_84) (fun _ h9 => h9) rfl dX8_hasAllCutters_14 ?_
      refine lv_iload_n hx hb dX8_hasAllCutters_17 rfl (lv_at hl 0 rfl) ?_
      refine fw_callo (fw_runV (As := [.int (nI k)]) (rest := []) C hz hw (c_Jx4a65c_get_915e3 l G _ _ sl arr cnt tl sa k hL hk9 (by omega)) (fw_cwV hT wd_323 yVJx4a65c_get_915e3 rfl rfl ⟨Nat.le_of_ble_eq_true rfl, Nat.le_of_ble_eq_true rfl⟩) (fw_recL hz hw hL) rfl hl.1 rfl (Nat.le_of_ble_eq_true rfl) dX8_hasAllCutters_18 ⟨Nat.le_of_ble_eq_true rfl, Nat.le_of_ble_eq_true rfl⟩) hw (fun r F1 H locs hw hp => ?_)
      obtain ⟨hp0, hp⟩ := hp
      rw [hp0] at hw
      refine W.widen (k := 0) (n := 0) (Nat.le_of_ble_eq_true rfl) (Nat.le_of_ble_eq_true rfl) ?_
      subst hp
      have hs9 := hst k hk9
      refine fw_cast hx hb hown hz hw hs9 (q := vwCl[7]) rfl (hT _ wd_347) dX8_hasAllCutters_21 ?_
      refine lv_astore_n (lv' := [(3, .ref (sa k)), (2, .int (nI k)), (0, .ref x), (1, .ref b)]) hx hb dX8_hasAllCutters_24 rfl hl (by decide) rfl (fun ls hl => ?_)
      refine lv_aload_n hx hb dX8_hasAllCutters_25 rfl (lv_at hl 2 rfl) ?_
      refine lv_aload_n hx hb dX8_hasAllCutters_26 rfl (lv_at hl 0 rfl) ?_
      refine fw_get (v := .int (dt (3 * k))) hx hb hT fi_RX6 hown hz hw hs9 rfl 0 (by decide) (hT _ wd_355) (fun _ h9 => h9) rfl dX8_hasAllCutters_27 ?_
      refine lv_aload_n hx hb dX8_hasAllCutters_30 rfl (lv_at hl 0 rfl) ?_
      refine fw_get (v := .int (dt (3 * k + 1))) hx hb hT fi_RX6 hown hz hw hs9 rfl 1 (by decide) (hT _ wd_358) (fun _ h9 => h9) rfl dX8_hasAllCutters_31 ?_
      refine fw_calli (fw_runV (As := [.int (dt (3 * k)), .int (dt (3 * k + 1))]) (rest := []) C hz hw (c_X8_lowestCutter l G _ _ x lc lt lo lm lw dr tm ca f nC (dt (3 * k)) (dt (3 * k + 1)) hX hC) (fw_cwV hT wd_319 yVX8_lowestCutter rfl rfl ⟨Nat.le_of_ble_eq_true rfl, Nat.le_of_ble_eq_true rfl⟩) (fw_rec hz hw hX (q := vwCl[9]) rfl) rfl hl.1 rfl (Nat.le_of_ble_eq_true rfl) dX8_hasAllCutters_34 ⟨Nat.le_of_ble_eq_true rfl, Nat.le_of_ble_eq_true rfl⟩) hw (fun r F1 H locs hw hp => ?_)
      obtain ⟨hp0, hp⟩ := hp
      rw [hp0] at hw
      refine W.widen (k := 0) (n := 0) (Nat.le_of_ble_eq_true rfl) (Nat.le_of_ble_eq_true rfl) ?_
      subst hp
      refine lv_iconst (v := (-1)) hx hb dX8_hasAllCutters_37 (by decide) ?_
      refine lv_icmp_eq (tgt := 57) hx hb dX8_hasAllCutters_38 (by decide) (fun d2 => ?_) (fun d2 => ?_)
      · refine lv_iconst (v := (nI 0)) hx hb dX8_hasAllCutters_57 (by decide) ?_
        exact fw_zret hx hb hr (by decide) hlk (Nat.le_of_ble_eq_true rfl) (Nat.le_of_ble_eq_true rfl) hw dX8_hasAllCutters_58 (⟨rfl, by rw [cl_all_no f nC dt k (by rw [cl_all, decide_eq_true d2]; simp) cnt hk9]; rfl⟩)
      · refine lv_aload_n hx hb dX8_hasAllCutters_41 rfl (lv_at hl 2 rfl) ?_
        refine lv_aload_n hx hb dX8_hasAllCutters_42 rfl (lv_at hl 0 rfl) ?_
        refine fw_get (v := .int (dt (3 * k))) hx hb hT fi_RX6 hown hz hw hs9 rfl 0 (by decide) (hT _ wd_355) (fun _ h9 => h9) rfl dX8_hasAllCutters_43 ?_
        refine lv_aload_n hx hb dX8_hasAllCutters_46 rfl (lv_at hl 0 rfl) ?_
        refine fw_get (v := .int (dt (3 * k + 2))) hx hb hT fi_RX6 hown hz hw hs9 rfl 2 (by decide) (hT _ wd_361) (fun _ h9 => h9) rfl dX8_hasAllCutters_47 ?_
        refine fw_calli (fw_runV (As := [.int (dt (3 * k)), .int (dt (3 * k + 2))]) (rest := []) C hz hw (c_X8_lowestCutter l G _ _ x lc lt lo lm lw dr tm ca f nC (dt (3 * k)) (dt (3 * k + 2)) hX hC) (fw_cwV hT wd_319 yVX8_lowestCutter rfl rfl ⟨Nat.le_of_ble_eq_true rfl, Nat.le_of_ble_eq_true rfl⟩) (fw_rec hz hw hX (q := vwCl[9]) rfl) rfl hl.1 rfl (Nat.le_of_ble_eq_true rfl) dX8_hasAllCutters_50 ⟨Nat.le_of_ble_eq_true rfl, Nat.le_of_ble_eq_true rfl⟩) hw (fun r F1 H locs hw hp => ?_)
        obtain ⟨hp0, hp⟩ := hp
        rw [hp0] at hw
        refine W.widen (k := 0) (n := 0) (Nat.le_of_ble_eq_true rfl) (Nat.le_of_ble_eq_true rfl) ?_
        subst hp
        refine lv_iconst (v := (-1)) hx hb dX8_hasAllCutters_53 (by decide) ?_
        refine lv_icmp_ne (tgt := 59) hx hb dX8_hasAllCutters_54 (by decide) (fun d3 => ?_) (fun d3 => ?_)
        · refine lv_iinc (v := (nI (k + 1))) (lv' := [(2, .int (nI (k + 1))), (3, .ref (sa k)), (0, .ref x), (1, .ref b)]) hx hb dX8_hasAllCutters_59 hl (k := 1) rfl (nI_1 _) (by decide) rfl (fun ls hl => ?_)
          refine lv_goto (tgt := 2) hx hb dX8_hasAllCutters_62 (by decide) ?_
          exact ih (k + 1)  (by omega) (by rw [cl_all, hno, decide_eq_false d2, decide_eq_false d3]; rfl)  _ _ _ hw (lv_sub hl [0, 2, 3] rfl)
        · refine lv_iconst (v := (nI 0)) hx hb dX8_hasAllCutters_57 (by decide) ?_
          exact fw_zret hx hb hr (by decide) hlk (Nat.le_of_ble_eq_true rfl) (Nat.le_of_ble_eq_true rfl) hw dX8_hasAllCutters_58 (⟨rfl, by rw [cl_all_no f nC dt k (by rw [cl_all, decide_eq_true d3]; simp) cnt hk9]; rfl⟩)
set_option maxHeartbeats 4000000 in
set_option maxRecDepth 100000 in
theorem c_X8_queue (l : Launch) (G : fw_G) (F : fw_F) (sz : Nat) (x lc lt lo lm lw dr : Nat) (tm : Int32) (ca : Nat → Nat) (f : mm_A) (nC : Nat) (o arr nW nj : Nat) (wf : Nat → Nat) (mo te : Int32) (hX : cr_X F x lc lt lo lm lw dr tm) (hC : cr_C F lc ca f nC) (hL : F lw = some ((1, 4, 0), fw_ls arr nW wf)) (hnW : nW ≤ 96) : Met l yX8_queue (fw_ws yX8_queue cX8_queue 4 none) { frames := 7, cells := 2, slots := 243, locals := 171 } (va_Pc [.ref x, .ref o, .int mo, .int te] (fw_Pre G F sz)) (va_Qv (fun F1 => ∃ j q, F j = none ∧ F1 = va_up (va_up F j (some ((8, nj, 0), fw_obj 3 [.ref o, .int te, .int (rf_cut f nC mo te)]))) lw (some ((1, 4, 0), fw_ls q (nW + 1) (va_up wf nW j)))) (fw_B G (fw_W G F sz)) (fw_W G F sz)) 2 243 (fw_W G F sz) := by
  refine fw_met (lv := [(0, .ref x), (1, .ref o), (2, .int mo), (3, .int te)]) (by decide +kernel) (Nat.le_of_ble_eq_true rfl) rfl ?_
  intro A hA p e s m below meth c ls hx hb hml hown hT hr hlk hin hz hsz hw hAn hl
  rw [← hA]
  have hown : s.vm.findClass RX8 = some m.cls := hown
  have C : CallFix p m c cX8_queue 4 s _ fw_tb RX8 := ⟨hx, hb, hml, hown, hT⟩
  refine lv_aload_n hx hb dX8_queue_0 rfl (lv_at hl 0 rfl) ?_
  refine fw_get (v := .ref lw) hx hb hT fi_RX8 hown hz hw hX rfl 4 (by decide) (hT _ wd_179) (fun _ h9 => h9) rfl dX8_queue_1 ?_
  refine fw_new (8, nj, 0) (ci := 3) (fs := [.null, .int (nI 0), .int (nI 0)]) hx hb hT fi_RX2 tyX2 tyX2_ok hown (hT _ wd_486) (hT _ wd_487) (hT _ wd_24) hz hw hAn rfl (by intro j hj; rcases (show j = 0 ∨ j = 1 ∨ j = 2 by omega) with rfl | rfl | rfl <;> rfl) (Nat.le_of_ble_eq_true rfl) (Nat.le_of_ble_eq_true rfl) dX8_queue_4 (fun j H hqj hw => ?_)
  refine W.widen (k := 1) (n := 3) (Nat.le_of_ble_eq_true rfl) (Nat.le_of_ble_eq_true rfl) ?_
  obtain ⟨W1, hFW1⟩ : ∃ z, z = va_up F j (some ((8, nj, 0), fw_obj 3 [.null, .int (nI 0), .int (nI 0)])) := ⟨_, rfl⟩
  rw [← hFW1] at hw
  have k1_0 : W1 x = some ((50, 0, 0), fw_obj 9 [.ref lc, .ref lt, .ref lo, .ref lm, .ref lw, .ref dr, .int tm]) := by rw [hFW1]; exact fw_up_new hX hqj
  have k1_1 : W1 lw = some ((1, 4, 0), fw_ls arr nW wf) := by rw [hFW1]; exact fw_up_new hL hqj
  have k1_s : W1 j = some ((8, nj, 0), fw_obj 3 [.null, .int (nI 0), .int (nI 0)]) := by rw [hFW1]; exact fw_up_self
  refine lv_dup hx hb dX8_queue_7 rfl ?_
  refine lv_aload_n hx hb dX8_queue_8 rfl (lv_at hl 1 rfl) ?_
  refine lv_iload_n hx hb dX8_queue_9 rfl (lv_at hl 3 rfl) ?_
  refine lv_aload_n hx hb dX8_queue_10 rfl (lv_at hl 0 rfl) ?_
  refine lv_iload_n hx hb dX8_queue_11 rfl (lv_at hl 2 rfl) ?_
  refine lv_iload_n hx hb dX8_queue_12 rfl (lv_at hl 3 rfl) ?_
  have hC1 : cr_C W1 lc ca f nC := by
    obtain ⟨g1, ⟨ac, g2⟩, g3⟩ := hC
    exact ⟨g1, ⟨ac, by rw [hFW1]; exact fw_up_new g2 hqj⟩, fun i hi => by rw [hFW1]; exact fw_up_new (g3 i hi) hqj⟩
  refine fw_calli (fw_runV (As := [.int mo, .int te]) (rest := [.int te, .ref o, .ref j, .ref j, .ref lw]) C hz hw (c_X8_lowestCutter l G _ _ x lc lt lo lm lw dr tm ca f nC mo te k1_0 hC1) (fw_cwV hT wd_319 yVX8_lowestCutter rfl rfl ⟨Nat.le_of_ble_eq_true rfl, Nat.le_of_ble_eq_true rfl⟩) (fw_rec hz hw k1_0 (q := vwCl[9]) rfl) rfl hl.1 rfl (Nat.le_of_ble_eq_true rfl) dX8_queue_13 ⟨Nat.le_of_ble_eq_true rfl, Nat.le_of_ble_eq_true rfl⟩) hw (fun r F1 H locs hw hp => ?_)
  obtain ⟨hp0, hp⟩ := hp
  rw [hp0] at hw
  refine W.widen (k := 1) (n := 3) (Nat.le_of_ble_eq_true rfl) (Nat.le_of_ble_eq_true rfl) ?_
  subst hp
  refine fw_callv (fw_runI (As := [.ref o, .int te, .int (rf_cut f nC mo te)]) (rest := [.ref j, .ref lw]) C hz hw (c_X2_init l G _ _ j (8, nj, 0) o te (rf_cut f nC mo te) k1_s) (fw_cwI hT wd_488 yIX2_init rfl rfl ⟨Nat.le_of_ble_eq_true rfl, Nat.le_of_ble_eq_true rfl⟩) rfl hl.1 rfl (Nat.le_of_ble_eq_true rfl) dX8_queue_16 ⟨Nat.le_of_ble_eq_true rfl, Nat.le_of_ble_eq_true rfl⟩) hw (fun F1 H locs hw hp => ?_)
  refine W.widen (k := 1) (n := 3) (Nat.le_of_ble_eq_true rfl) (Nat.le_of_ble_eq_true rfl) ?_
  rw [hp] at hw
  obtain ⟨W2, hFW2⟩ : ∃ z, z = va_up W1 j (some ((8, nj, 0), fw_obj 3 [.ref o, .int te, .int (rf_cut f nC mo te)])) := ⟨_, rfl⟩
  rw [← hFW2] at hw
  have k2_0 : W2 x = some ((50, 0, 0), fw_obj 9 [.ref lc, .ref lt, .ref lo, .ref lm, .ref lw, .ref dr, .int tm]) := by rw [hFW2]; exact fw_up_tag k1_0 k1_s (by intro z; cases z)
  have k2_1 : W2 lw = some ((1, 4, 0), fw_ls arr nW wf) := by rw [hFW2]; exact fw_up_tag k1_1 k1_s (by intro z; cases z)
  have k2_s : W2 j = some ((8, nj, 0), fw_obj 3 [.ref o, .int te, .int (rf_cut f nC mo te)]) := by rw [hFW2]; exact fw_up_self
  refine fw_calli (fw_runV (As := [.ref j]) (rest := []) C hz hw (c_Jx4a65c_add_9ea2d l G _ _ lw arr nW (1, 4, 0) wf j 3 (8, nj, 0) _ (by decide) k2_1 (by omega) k2_s) (fw_cwV hT wd_115 yVJx4a65c_add_9ea2d rfl rfl ⟨Nat.le_of_ble_eq_true rfl, Nat.le_of_ble_eq_true rfl⟩) (fw_recL hz hw k2_1) rfl hl.1 rfl (Nat.le_of_ble_eq_true rfl) dX8_queue_19 ⟨Nat.le_of_ble_eq_true rfl, Nat.le_of_ble_eq_true rfl⟩) hw (fun r F1 H locs hw hp => ?_)
  refine W.widen (k := 2) (n := 243) (Nat.le_of_ble_eq_true rfl) (Nat.le_of_ble_eq_true rfl) ?_
  obtain ⟨rfl, q, hp⟩ := hp
  rw [hp, hFW2, hFW1, bx_uu] at hw
  refine lv_pop hx hb dX8_queue_22 rfl ?_
  exact fw_vret hx hb hr hlk (Nat.le_of_ble_eq_true rfl) (Nat.le_of_ble_eq_true rfl) hw dX8_queue_23 (⟨j, q, hqj, rfl⟩)
