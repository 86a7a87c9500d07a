/-! The class: work, append, cutters of a train, a job's queue, the designs' words. -/
def cl_us (x y : Int32) : Int32 := (x.toUInt32 >>> (y.toUInt32 &&& Int32.toUInt32 31)).toInt32
def cl_b1 (x : Int32) : Int32 := x - (cl_us x (nI 1) &&& 1431655765)
def cl_b2 (x : Int32) : Int32 := (x &&& 858993459) + (cl_us x (nI 2) &&& 858993459)
def cl_b3 (x : Int32) : Int32 := (x + cl_us x (nI 4)) &&& 252645135
def cl_b4 (x : Int32) : Int32 := x + cl_us x (nI 8)
def cl_b5 (x : Int32) : Int32 := x + cl_us x (nI 16)
def cl_bc (x : Int32) : Int32 := cl_b5 (cl_b4 (cl_b3 (cl_b2 (cl_b1 x)))) &&& nI 63
def cl_bit (k : Nat) : Int32 := nI 1 <<< (nI k &&& 31)
def cl_tw (f : mm_A) (nC : Nat) (mo : Int32) : Nat → Int32
  | 0 => 0
  | k + 1 => if rf_cut f nC mo (nI (8 + k)) = -1 then cl_tw f nC mo k ||| cl_bit (8 + k) else cl_tw f nC mo k
def cl_all (f : mm_A) (nC : Nat) (dt : Nat → Int32) : Nat → Bool
  | 0 => true
  | k + 1 => cl_all f nC dt k && (!(decide (rf_cut f nC (dt (3 * k)) (dt (3 * k + 1)) = -1)) && !(decide (rf_cut f nC (dt (3 * k)) (dt (3 * k + 2)) = -1)))
theorem cl_all_no (f : mm_A) (nC : Nat) (dt : Nat → Int32) (k : Nat) (h : cl_all f nC dt (k + 1) = false) : ∀ n, k < n → cl_all f nC dt n = false
  | 0, hn => absurd hn (Nat.not_lt_zero _)
  | n + 1, hn => by
    rcases Nat.eq_or_lt_of_le (Nat.le_of_lt_succ hn) with h9 | h9
    · rw [← h9]; exact h
    · rw [cl_all, cl_all_no f nC dt k h n h9]; rfl
/-- the designs' inner row: the driven gears one, other with this product -/
def cl_ok (pr one : Nat) : Bool := decide (pr / one * one = pr) && rf_in (nI (pr / one)) (nI one) (nI 20)
def cl_lw (dr un : Int32) (pr : Nat) : Nat → Int32
  | 0 => -1
  | k + 1 => if cl_ok pr (8 + k) = true then cl_les (cl_lw dr un pr k) (cl_bc ((dr ||| cl_bit (8 + k) ||| cl_bit (pr / (8 + k))) &&& un)) else cl_lw dr un pr k
set_option maxHeartbeats 4000000 in
set_option maxRecDepth 100000 in
theorem c_X3_work_N (l : Launch) (G : fw_G) (F : fw_F) (sz : Nat) (b : Nat) (t : fw_T) (cu lf : Int32) (hF : F b = some (t, fw_obj 4 [.int cu, .null, .int lf])) : Met l yX3_work (fw_ws yX3_work cX3_work 2 (some ((.object "Cogwright$Order")))) { frames := 0, cells := 0, slots := 0, locals := 0 } (va_Pc [.ref b] (fw_Pre G F sz)) (fw_Qo (fun r F1 => r = none ∧ F1 = F) (fw_B G (fw_W G F sz)) (fw_W G F sz)) 0 0 (fw_W G F sz) := by
  refine fw_met (lv := [(0, .ref b)]) (by decide +kernel) (Nat.le_of_ble_eq_true rfl) rfl ?_
  intro A hA p e s m below meth c ls hx hb hml hown hT hr hlk hin hz hsz hw hAn hl
  rw [← hA]
  have hown : s.vm.findClass RX3 = some m.cls := hown
  have C : CallFix p m c cX3_work 2 s _ fw_tb RX3 := ⟨hx, hb, hml, hown, hT⟩
  refine lv_aload_n hx hb dX3_work_0 rfl (lv_at hl 0 rfl) ?_
  refine fw_get (v := .null) hx hb hT fi_RX3 hown hz hw hF rfl 1 (by decide) (hT _ wd_106) (fun _ h9 => h9) rfl dX3_work_1 ?_
  refine lv_ifnonnullN hx hb dX3_work_4 ?_
  refine lv_null hx hb dX3_work_7 ?_
  exact fw_aret (v := none) hx hb hr hlk (Nat.le_of_ble_eq_true rfl) (Nat.le_of_ble_eq_true rfl) hw dX3_work_8 rfl (⟨rfl, rfl⟩)
set_option maxHeartbeats 4000000 in
set_option maxRecDepth 100000 in
theorem c_X3_work_S (l : Launch) (G : fw_G) (F : fw_F) (sz : Nat) (b : Nat) (t : fw_T) (cu lf : Int32) (j o : Nat) (tj : fw_T) (te cj : Int32) (hF : F b = some (t, fw_obj 4 [.int cu, .ref j, .int lf])) (hne : tj ≠ t) (hj : F j = some (tj, fw_obj 3 [.ref o, .int te, .int cj])) : Met l yX3_work (fw_ws yX3_work cX3_work 2 (some ((.object "Cogwright$Order")))) { frames := 0, cells := 0, slots := 0, locals := 0 } (va_Pc [.ref b] (fw_Pre G F sz)) (fw_Qo (fun r F1 => r = (if 0 < lf - nI 1 then none else some o) ∧ F1 = va_up F b (some (t, fw_obj 4 [.int cu, (if 0 < lf - nI 1 then .ref j else .null), .int (lf - nI 1)]))) (fw_B G (fw_W G F sz)) (fw_W G F sz)) 0 0 (fw_W G F sz) := by
  refine fw_met (lv := [(0, .ref b)]) (by decide +kernel) (Nat.le_of_ble_eq_true rfl) rfl ?_
  intro A hA p e s m below meth c ls hx hb hml hown hT hr hlk hin hz hsz hw hAn hl
  rw [← hA]
  have hown : s.vm.findClass RX3 = some m.cls := hown
  have C : CallFix p m c cX3_work 2 s _ fw_tb RX3 := ⟨hx, hb, hml, hown, hT⟩
  refine lv_aload_n hx hb dX3_work_0 rfl (lv_at hl 0 rfl) ?_
  refine fw_get (v := .ref j) hx hb hT fi_RX3 hown hz hw hF rfl 1 (by decide) (hT _ wd_106) (fun _ h9 => h9) rfl dX3_work_1 ?_
  refine lv_ifnonnull (tgt := 9) hx hb dX3_work_4 (by decide) ?_
  refine lv_aload_n hx hb dX3_work_9 rfl (lv_at hl 0 rfl) ?_
  refine lv_dup hx hb dX3_work_10 rfl ?_
  refine fw_get (v := .int lf) hx hb hT fi_RX3 hown hz hw hF rfl 2 (by decide) (hT _ wd_108) (fun _ h9 => h9) rfl dX3_work_11 ?_
  refine lv_iconst (v := (nI 1)) hx hb dX3_work_14 (by decide) ?_
  refine lv_isub hx hb dX3_work_15 ?_
  refine fw_put (v := .int (lf - (nI 1))) (fs' := [.int cu, .ref j, .int (lf - (nI 1))]) hx hb hT fi_RX3 tyX3 tyX3_ok nmX3 hown hz hw hF rfl 2 (by decide) (hT _ wd_108) (fun _ h9 => h9) rfl (ty := tyX3 2) (by decide +kernel) rfl rfl (Nat.le_of_ble_eq_true rfl) rfl dX3_work_16 (fun H locs hw => ?_)
  obtain ⟨W1, hFW1⟩ : ∃ z, z = va_up F b (some (t, fw_obj 4 [.int cu, .ref j, .int (lf - (nI 1))])) := ⟨_, rfl⟩
  rw [← hFW1] at hw
  have k1_0 : W1 j = some (tj, fw_obj 3 [.ref o, .int te, .int cj]) := by rw [hFW1]; exact fw_up_tag hj hF hne
  have k1_s : W1 b = some (t, fw_obj 4 [.int cu, .ref j, .int (lf - (nI 1))]) := by rw [hFW1]; exact fw_up_self
  refine lv_aload_n hx hb dX3_work_19 rfl (lv_at hl 0 rfl) ?_
  refine fw_get (v := .int (lf - (nI 1))) hx hb hT fi_RX3 hown hz hw k1_s rfl 2 (by decide) (hT _ wd_108) (fun _ h9 => h9) rfl dX3_work_20 ?_
  refine lv_if_le (tgt := 28) hx hb dX3_work_23 (by decide) (fun d => ?_) (fun d => ?_)
  · have d0 : ¬ 0 < lf - nI 1 := Int32.not_lt.mpr d
    refine lv_aload_n hx hb dX3_work_28 rfl (lv_at hl 0 rfl) ?_
    refine fw_get (v := .ref j) hx hb hT fi_RX3 hown hz hw k1_s rfl 1 (by decide) (hT _ wd_106) (fun _ h9 => h9) rfl dX3_work_29 ?_
    refine fw_get (v := .ref o) hx hb hT fi_RX2 hown hz hw k1_0 rfl 0 (by decide) (hT _ wd_562) (fun _ h9 => h9) rfl dX3_work_32 ?_
    refine lv_astore_n (lv' := [(1, .ref o), (0, .ref b)]) hx hb dX3_work_35 rfl hl (by decide) rfl (fun ls hl => ?_)
    refine lv_aload_n hx hb dX3_work_36 rfl (lv_at hl 1 rfl) ?_
    refine lv_null hx hb dX3_work_37 ?_
    refine fw_put (v := .null) (fs' := [.int cu, .null, .int (lf - (nI 1))]) hx hb hT fi_RX3 tyX3 tyX3_ok nmX3 hown hz hw k1_s rfl 1 (by decide) (hT _ wd_106) (fun _ h9 => h9) rfl (ty := tyX3 1) (by decide +kernel) rfl rfl (Nat.le_of_ble_eq_true rfl) rfl dX3_work_38 (fun H locs hw => ?_)
    obtain ⟨W2, hFW2⟩ : ∃ z, z = va_up W1 b (some (t, fw_obj 4 [.int cu, .null, .int (lf - (nI 1))])) := ⟨_, rfl⟩
    rw [← hFW2] at hw
    have k2_0 : W2 j = some (tj, fw_obj 3 [.ref o, .int te, .int cj]) := by rw [hFW2]; exact fw_up_tag k1_0 k1_s hne
    have k2_s : W2 b = some (t, fw_obj 4 [.int cu, .null, .int (lf - (nI 1))]) := by rw [hFW2]; exact fw_up_self
    refine lv_aload_n hx hb dX3_work_41 rfl (lv_at hl 0 rfl) ?_
    exact fw_aret (v := some o) hx hb hr hlk (Nat.le_of_ble_eq_true rfl) (Nat.le_of_ble_eq_true rfl) hw dX3_work_42 rfl (⟨by rw [if_neg d0], by rw [hFW2, hFW1, bx_uu, if_neg d0]⟩)
  · have d0 : 0 < lf - nI 1 := Int32.not_le.mp d
    refine lv_null hx hb dX3_work_26 ?_
    exact fw_aret (v := none) hx hb hr hlk (Nat.le_of_ble_eq_true rfl) (Nat.le_of_ble_eq_true rfl) hw dX3_work_27 rfl (⟨by rw [if_pos d0], by rw [hFW1, if_pos d0]⟩)
set_option maxHeartbeats 4000000 in
set_option maxRecDepth 100000 in
theorem c_X7_append (l : Launch) (G : fw_G) (F : fw_F) (sz : Nat) (b st sl fr arr cnt : Nat) (t ts : fw_T) (i : Nat) (cv : Int32) (sa : Nat → Nat) (u v m9 p9 q9 : Nat) (hF : F b = some (t, fw_obj 8 [.ref sl, .ref fr, .int cv])) (hL : F sl = some ((13, i, 0), fw_ls arr cnt sa)) (hR : F fr = some ((33, i, 0), fw_obj 2 [.long (lN u), .long (lN v)])) (hS : F st = some (ts, fw_obj 7 [.int (nI m9), .int (nI q9), .int (nI p9)])) (ht1 : t.1 = 3) (hts : ts.1 = 23) (hcn : cnt ≤ 4) (hp9 : p9 ≤ 60) (hq9 : q9 ≤ 60) (h1 : u * p9 < 2 ^ 62) (h2 : v * q9 < 2 ^ 62) (h3 : u * p9 * (v * q9) < 2 ^ 98) (h4 : 0 < v * q9) : Met l yX7_append (fw_ws yX7_append cX7_append 2 none) { frames := 7, cells := 1, slots := 240, locals := 171 } (va_Pc [.ref b, .ref st] (fw_Pre G F sz)) (va_Qv (fun F1 => ∃ q, F1 = va_up (va_up F sl (some ((13, i, 0), fw_ls q (cnt + 1) (va_up sa cnt st)))) fr (some ((33, i, 0), fw_obj 2 [.long (lN (u * p9 / (Nat.gcd (u * p9) (v * q9)))), .long (lN (v * q9 / (Nat.gcd (u * p9) (v * q9))))]))) (fw_B G (fw_W G F sz)) (fw_W G F sz)) 1 240 (fw_W G F sz) := by
  refine fw_met (lv := [(0, .ref b), (1, .ref st)]) (by decide +kernel) (Nat.le_of_ble_eq_true rfl) rfl ?_
  intro A hA p e s m below meth c ls hx hb hml hown hT hr hlk hin hz hsz hw hAn hl
  rw [← hA]
  have hown : s.vm.findClass RX7 = some m.cls := hown
  have C : CallFix p m c cX7_append 2 s _ fw_tb RX7 := ⟨hx, hb, hml, hown, hT⟩
  refine lv_aload_n hx hb dX7_append_0 rfl (lv_at hl 0 rfl) ?_
  refine fw_get (v := .ref sl) hx hb hT fi_RX7 hown hz hw hF rfl 0 (by decide) (hT _ wd_84) (fun _ h9 => h9) rfl dX7_append_1 ?_
  refine lv_aload_n hx hb dX7_append_4 rfl (lv_at hl 1 rfl) ?_
  refine fw_calli (fw_runV (As := [.ref st]) (rest := []) C hz hw (c_Jx4a65c_add_9ea2d l G _ _ sl arr cnt (13, i, 0) sa st 7 ts _ (show (13 : Nat) < 900 by decide) hL (by omega) hS) (fw_cwV hT wd_399 yVJx4a65c_add_9ea2d rfl rfl ⟨Nat.le_of_ble_eq_true rfl, Nat.le_of_ble_eq_true rfl⟩) (fw_recL hz hw hL) rfl hl.1 rfl (Nat.le_of_ble_eq_true rfl) dX7_append_5 ⟨Nat.le_of_ble_eq_true rfl, Nat.le_of_ble_eq_true rfl⟩) hw (fun r F1 H locs hw hp => ?_)
  refine W.widen (k := 1) (n := 240) (Nat.le_of_ble_eq_true rfl) (Nat.le_of_ble_eq_true rfl) ?_
  obtain ⟨rfl, q, hp⟩ := hp
  rw [hp] at hw
  obtain ⟨W1, hFW1⟩ : ∃ z, z = va_up F sl (some ((13, i, 0), fw_ls q (cnt + 1) (va_up sa cnt st))) := ⟨_, rfl⟩
  rw [← hFW1] at hw
  have k1_0 : W1 b = some (t, fw_obj 8 [.ref sl, .ref fr, .int cv]) := by rw [hFW1]; exact fw_up_tag hF hL (by intro z; rw [z] at ht1; cases ht1)
  have k1_1 : W1 fr = some ((33, i, 0), fw_obj 2 [.long (lN u), .long (lN v)]) := by rw [hFW1]; exact fw_up_tag hR hL (by intro z; cases z)
  have k1_2 : W1 st = some (ts, fw_obj 7 [.int (nI m9), .int (nI q9), .int (nI p9)]) := by rw [hFW1]; exact fw_up_tag hS hL (by intro z; rw [z] at hts; cases hts)
  have k1_s : W1 sl = some ((13, i, 0), fw_ls q (cnt + 1) (va_up sa cnt st)) := by rw [hFW1]; exact fw_up_self
  refine lv_pop hx hb dX7_append_8 rfl ?_
  refine lv_aload_n hx hb dX7_append_9 rfl (lv_at hl 0 rfl) ?_
  refine fw_get (v := .ref fr) hx hb hT fi_RX7 hown hz hw k1_0 rfl 1 (by decide) (hT _ wd_87) (fun _ h9 => h9) rfl dX7_append_10 ?_
  refine lv_aload_n hx hb dX7_append_13 rfl (lv_at hl 1 rfl) ?_
  refine fw_get (v := .int (nI p9)) hx hb hT fi_RX6 hown hz hw k1_2 rfl 2 (by decide) (hT _ wd_386) (fun _ h9 => h9) rfl dX7_append_14 ?_
  refine lv_i2l (v := lN p9) hx hb dX7_append_17 (nI_l (by omega)) ?_
  refine lv_aload_n hx hb dX7_append_18 rfl (lv_at hl 1 rfl) ?_
  refine fw_get (v := .int (nI q9)) hx hb hT fi_RX6 hown hz hw k1_2 rfl 1 (by decide) (hT _ wd_383) (fun _ h9 => h9) rfl dX7_append_19 ?_
  refine lv_i2l (v := lN q9) hx hb dX7_append_22 (nI_l (by omega)) ?_
  refine fw_callv (fw_runV (As := [.long (lN p9), .long (lN q9)]) (rest := []) C hz hw (c_X1_multiply l G _ _ fr (33, i, 0) u v p9 q9 k1_1 h1 h2 h3 h4) (fw_cwV hT wd_400 yVX1_multiply rfl rfl ⟨Nat.le_of_ble_eq_true rfl, Nat.le_of_ble_eq_true rfl⟩) (fw_rec hz hw k1_1 (q := vwCl[2]) rfl) rfl hl.1 rfl (Nat.le_of_ble_eq_true rfl) dX7_append_23 ⟨Nat.le_of_ble_eq_true rfl, Nat.le_of_ble_eq_true rfl⟩) hw (fun F1 H locs hw hp => ?_)
  refine W.widen (k := 1) (n := 240) (Nat.le_of_ble_eq_true rfl) (Nat.le_of_ble_eq_true rfl) ?_
  rw [hp, hFW1] at hw
  exact fw_vret hx hb hr hlk (Nat.le_of_ble_eq_true rfl) (Nat.le_of_ble_eq_true rfl) hw dX7_append_26 (⟨q, rfl⟩)
set_option maxHeartbeats 4000000 in
set_option maxRecDepth 100000 in
theorem c_X8_hasAllCutters (l : Launch) (G : fw_G) (F : fw_F) (sz : Nat) (x lc lt lo lm lw dr : Nat) (tm : Int32) (ca : Nat → Nat) (f : mm_A) (nC : Nat) (b sl fr arr cnt : Nat) (t tl : fw_T) (cv : Int32) (sa : Nat → Nat) (ts : Nat → fw_T) (dt : Nat → Int32) (hX : cr_X F x lc lt lo lm lw dr tm) (hC : cr_C F lc ca f nC) (hF : F b = some (t, fw_obj 8 [.ref sl, .ref fr, .int cv])) (hL : F sl = some (tl, fw_ls arr cnt sa)) (hcn : cnt ≤ 4) (hst : ∀ k, k < cnt → F (sa k) = some (ts k, fw_obj 7 [.int (dt (3 * k)), .int (dt (3 * k + 1)), .int (dt (3 * k + 2))])) : Met l yX8_hasAllCutters (fw_ws yX8_hasAllCutters cX8_hasAllCutters 4 (some (.boolean))) { frames := 4, cells := 0, slots := 0, locals := 87 } (va_Pc [.ref x, .ref b] (fw_Pre G F sz)) (va_Qi (fun r F1 => F1 = F ∧ (fun r => r = fw_b (cl_all f nC dt cnt)) r) (fw_B G (fw_W G F sz)) (fw_W G F sz)) 0 0 (fw_W G F sz) := by
  refine fw_met (lv := [(0, .ref x), (1, .ref b)]) (by decide +kernel) (Nat.le_of_ble_eq_true rfl) rfl ?_
  intro A hA p e s m below meth c ls hx hb hml hown hT hr hlk hin hz hsz hw hAn hl
  rw [← hA]
  have hown : s.vm.findClass RX8 = some m.cls := hown
  have C : CallFix p m c cX8_hasAllCutters 4 s _ fw_tb RX8 := ⟨hx, hb, hml, hown, hT⟩
  refine lv_iconst (v := (nI 0)) hx hb dX8_hasAllCutters_0 (by decide) ?_
  refine lv_istore_n (lv' := [(2, .int (nI 0)), (0, .ref x), (1, .ref b)]) hx hb dX8_hasAllCutters_1 rfl hl (by decide) rfl (fun ls hl => ?_)
  suffices hlp : ∀ (d k : Nat), k + d = cnt → (cl_all f nC dt k = true) → ∀ (H : Heap) (locs : List Loc) (ls : Array Slot), fw_S G A s F H locs → lv_has ls 4 [(2, .int (nI k)), (0, .ref x), (1, .ref b)] → W p l e { frames := 4, cells := 0, slots := 0, locals := 87 } s m ([.ref x, .ref b] : List Value).toArray below meth c H locs 0 0 (MQ below (va_Qi (fun r F1 => F1 = F ∧ (fun r => r = fw_b (cl_all f nC dt cnt)) r) (fw_B G A) A) ([.ref x, .ref b] : List Value).toArray s 0 0 A) (F0 m 2 ls []) by
    exact hlp cnt 0  (Nat.zero_add _) (rfl)  _ _ _ hw (lv_sub hl [0, 1, 2] rfl)
  intro d
  induction d with
  | zero =>
    intro k  hk hno H locs ls hw hl
    refine lv_iload_n hx hb dX8_hasAllCutters_2 rfl (lv_at hl 0 rfl) ?_
    refine lv_aload_n hx hb dX8_hasAllCutters_3 rfl (lv_at hl 2 rfl) ?_
    refine fw_get (v := .ref sl) hx hb hT fi_RX7 hown hz hw hF rfl 0 (by decide) (hT _ wd_86) (fun _ h9 => h9) rfl dX8_hasAllCutters_4 ?_
    refine fw_calli (fw_runV (As := []) (rest := [.int (nI k)]) C hz hw (c_Jx4a65c_size_8abf5 l G _ _ sl arr cnt tl sa hL) (fw_cwV hT wd_204 yVJx4a65c_size_8abf5 rfl rfl ⟨Nat.le_of_ble_eq_true rfl, Nat.le_of_ble_eq_true rfl⟩) (fw_recL hz hw hL) rfl hl.1 rfl (Nat.le_of_ble_eq_true rfl) dX8_hasAllCutters_7 ⟨Nat.le_of_ble_eq_true rfl, Nat.le_of_ble_eq_true rfl⟩) hw (fun r F1 H locs hw hp => ?_)
    obtain ⟨hp0, hp⟩ := hp
    rw [hp0] at hw
    refine W.widen (k := 0) (n := 0) (Nat.le_of_ble_eq_true rfl) (Nat.le_of_ble_eq_true rfl) ?_
    subst hp
    refine lv_icmp_ge (tgt := 65) hx hb dX8_hasAllCutters_10 (by decide) (fun d => ?_) (fun d => ?_)
    · have d := (nI_leI (a := cnt) (b := k) (by omega) (by omega)).mp d
      obtain rfl : k = cnt := by omega
      refine lv_iconst (v := (nI 1)) hx hb dX8_hasAllCutters_65 (by decide) ?_
      exact fw_zret hx hb hr (by decide) hlk (Nat.le_of_ble_eq_true rfl) (Nat.le_of_ble_eq_true rfl) hw dX8_hasAllCutters_66 (⟨rfl, by rw [hno]; rfl⟩)
    · have d : ¬ cnt ≤ k := fun h9 => d ((nI_leI (a := cnt) (b := k) (by omega) (by omega)).mpr h9)
      omega
  | succ d ih =>
    intro k  hk hno H locs ls hw hl
    refine lv_iload_n hx hb dX8_hasAllCutters_2 rfl (lv_at hl 0 rfl) ?_
    refine lv_aload_n hx hb dX8_hasAllCutters_3 rfl (lv_at hl 2 rfl) ?_
    refine fw_get (v := .ref sl) hx hb hT fi_RX7 hown hz hw hF rfl 0 (by decide) (hT _ wd_86) (fun _ h9 => h9) rfl dX8_hasAllCutters_4 ?_
    refine fw_calli (fw_runV (As := []) (rest := [.int (nI k)]) C hz hw (c_Jx4a65c_size_8abf5 l G _ _ sl arr cnt tl sa hL) (fw_cwV hT wd_204 yVJx4a65c_size_8abf5 rfl rfl ⟨Nat.le_of_ble_eq_true rfl, Nat.le_of_ble_eq_true rfl⟩) (fw_recL hz hw hL) rfl hl.1 rfl (Nat.le_of_ble_eq_true rfl) dX8_hasAllCutters_7 ⟨Nat.le_of_ble_eq_true rfl, Nat.le_of_ble_eq_true rfl⟩) hw (fun r F1 H locs hw hp => ?_)
    obtain ⟨hp0, hp⟩ := hp
    rw [hp0] at hw
    refine W.widen (k := 0) (n := 0) (Nat.le_of_ble_eq_true rfl) (Nat.le_of_ble_eq_true rfl) ?_
    subst hp
    refine lv_icmp_ge (tgt := 65) hx hb dX8_hasAllCutters_10 (by decide) (fun d => ?_) (fun d => ?_)
    · have d := (nI_leI (a := cnt) (b := k) (by omega) (by omega)).mp d
      omega
    · have d : ¬ cnt ≤ k := fun h9 => d ((nI_leI (a := cnt) (b := k) (by omega) (by omega)).mpr h9)
      have hk9 : k < cnt := by omega
      refine lv_aload_n hx hb dX8_hasAllCutters_13 rfl (lv_at hl 2 rfl) ?_
      refine fw_get (v := .ref sl) hx hb hT fi_RX7 hown hz hw hF rfl 0 (by decide) (hT _ wd_86) (fun _ h9 => h9) rfl dX8_hasAllCutters_14 ?_
      refine lv_iload_n hx hb dX8_hasAllCutters_17 rfl (lv_at hl 0 rfl) ?_
      refine fw_callo (fw_runV (As := [.int (nI k)]) (rest := []) C hz hw (c_Jx4a65c_get_915e3 l G _ _ sl arr cnt tl sa k hL hk9 (by omega)) (fw_cwV hT wd_346 yVJx4a65c_get_915e3 rfl rfl ⟨Nat.le_of_ble_eq_true rfl, Nat.le_of_ble_eq_true rfl⟩) (fw_recL hz hw hL) rfl hl.1 rfl (Nat.le_of_ble_eq_true rfl) dX8_hasAllCutters_18 ⟨Nat.le_of_ble_eq_true rfl, Nat.le_of_ble_eq_true rfl⟩) hw (fun r F1 H locs hw hp => ?_)
      obtain ⟨hp0, hp⟩ := hp
      rw [hp0] at hw
      refine W.widen (k := 0) (n := 0) (Nat.le_of_ble_eq_true rfl) (Nat.le_of_ble_eq_true rfl) ?_
      subst hp
      have hs9 := hst k hk9
      refine fw_cast hx hb hown hz hw hs9 (q := vwCl[7]) rfl (hT _ wd_373) dX8_hasAllCutters_21 ?_
      refine lv_astore_n (lv' := [(3, .ref (sa k)), (2, .int (nI k)), (0, .ref x), (1, .ref b)]) hx hb dX8_hasAllCutters_24 rfl hl (by decide) rfl (fun ls hl => ?_)
      refine lv_aload_n hx hb dX8_hasAllCutters_25 rfl (lv_at hl 2 rfl) ?_
      refine lv_aload_n hx hb dX8_hasAllCutters_26 rfl (lv_at hl 0 rfl) ?_
      refine fw_get (v := .int (dt (3 * k))) hx hb hT fi_RX6 hown hz hw hs9 rfl 0 (by decide) (hT _ wd_381) (fun _ h9 => h9) rfl dX8_hasAllCutters_27 ?_
      refine lv_aload_n hx hb dX8_hasAllCutters_30 rfl (lv_at hl 0 rfl) ?_
      refine fw_get (v := .int (dt (3 * k + 1))) hx hb hT fi_RX6 hown hz hw hs9 rfl 1 (by decide) (hT _ wd_384) (fun _ h9 => h9) rfl dX8_hasAllCutters_31 ?_
      refine fw_calli (fw_runV (As := [.int (dt (3 * k)), .int (dt (3 * k + 1))]) (rest := []) C hz hw (c_X8_lowestCutter l G _ _ x lc lt lo lm lw dr tm ca f nC (dt (3 * k)) (dt (3 * k + 1)) hX hC) (fw_cwV hT wd_342 yVX8_lowestCutter rfl rfl ⟨Nat.le_of_ble_eq_true rfl, Nat.le_of_ble_eq_true rfl⟩) (fw_rec hz hw hX (q := vwCl[9]) rfl) rfl hl.1 rfl (Nat.le_of_ble_eq_true rfl) dX8_hasAllCutters_34 ⟨Nat.le_of_ble_eq_true rfl, Nat.le_of_ble_eq_true rfl⟩) hw (fun r F1 H locs hw hp => ?_)
      obtain ⟨hp0, hp⟩ := hp
      rw [hp0] at hw
      refine W.widen (k := 0) (n := 0) (Nat.le_of_ble_eq_true rfl) (Nat.le_of_ble_eq_true rfl) ?_
      subst hp
      refine lv_iconst (v := (-1)) hx hb dX8_hasAllCutters_37 (by decide) ?_
      refine lv_icmp_eq (tgt := 57) hx hb dX8_hasAllCutters_38 (by decide) (fun d2 => ?_) (fun d2 => ?_)
      · refine lv_iconst (v := (nI 0)) hx hb dX8_hasAllCutters_57 (by decide) ?_
        exact fw_zret hx hb hr (by decide) hlk (Nat.le_of_ble_eq_true rfl) (Nat.le_of_ble_eq_true rfl) hw dX8_hasAllCutters_58 (⟨rfl, by rw [cl_all_no f nC dt k (by rw [cl_all, decide_eq_true d2]; simp) cnt hk9]; rfl⟩)
      · refine lv_aload_n hx hb dX8_hasAllCutters_41 rfl (lv_at hl 2 rfl) ?_
        refine lv_aload_n hx hb dX8_hasAllCutters_42 rfl (lv_at hl 0 rfl) ?_
        refine fw_get (v := .int (dt (3 * k))) hx hb hT fi_RX6 hown hz hw hs9 rfl 0 (by decide) (hT _ wd_381) (fun _ h9 => h9) rfl dX8_hasAllCutters_43 ?_
        refine lv_aload_n hx hb dX8_hasAllCutters_46 rfl (lv_at hl 0 rfl) ?_
        refine fw_get (v := .int (dt (3 * k + 2))) hx hb hT fi_RX6 hown hz hw hs9 rfl 2 (by decide) (hT _ wd_387) (fun _ h9 => h9) rfl dX8_hasAllCutters_47 ?_
        refine fw_calli (fw_runV (As := [.int (dt (3 * k)), .int (dt (3 * k + 2))]) (rest := []) C hz hw (c_X8_lowestCutter l G _ _ x lc lt lo lm lw dr tm ca f nC (dt (3 * k)) (dt (3 * k + 2)) hX hC) (fw_cwV hT wd_342 yVX8_lowestCutter rfl rfl ⟨Nat.le_of_ble_eq_true rfl, Nat.le_of_ble_eq_true rfl⟩) (fw_rec hz hw hX (q := vwCl[9]) rfl) rfl hl.1 rfl (Nat.le_of_ble_eq_true rfl) dX8_hasAllCutters_50 ⟨Nat.le_of_ble_eq_true rfl, Nat.le_of_ble_eq_true rfl⟩) hw (fun r F1 H locs hw hp => ?_)
        obtain ⟨hp0, hp⟩ := hp
        rw [hp0] at hw
        refine W.widen (k := 0) (n := 0) (Nat.le_of_ble_eq_true rfl) (Nat.le_of_ble_eq_true rfl) ?_
        subst hp
        refine lv_iconst (v := (-1)) hx hb dX8_hasAllCutters_53 (by decide) ?_
        refine lv_icmp_ne (tgt := 59) hx hb dX8_hasAllCutters_54 (by decide) (fun d3 => ?_) (fun d3 => ?_)
        · refine lv_iinc (v := (nI (k + 1))) (lv' := [(2, .int (nI (k + 1))), (3, .ref (sa k)), (0, .ref x), (1, .ref b)]) hx hb dX8_hasAllCutters_59 hl (k := 1) rfl (nI_1 _) (by decide) rfl (fun ls hl => ?_)
          refine lv_goto (tgt := 2) hx hb dX8_hasAllCutters_62 (by decide) ?_
          exact ih (k + 1)  (by omega) (by rw [cl_all, hno, decide_eq_false d2, decide_eq_false d3]; rfl)  _ _ _ hw (lv_sub hl [0, 2, 3] rfl)
        · refine lv_iconst (v := (nI 0)) hx hb dX8_hasAllCutters_57 (by decide) ?_
          exact fw_zret hx hb hr (by decide) hlk (Nat.le_of_ble_eq_true rfl) (Nat.le_of_ble_eq_true rfl) hw dX8_hasAllCutters_58 (⟨rfl, by rw [cl_all_no f nC dt k (by rw [cl_all, decide_eq_true d3]; simp) cnt hk9]; rfl⟩)
set_option maxHeartbeats 4000000 in
set_option maxRecDepth 100000 in
theorem c_J6_bitCount_0f7a4 (l : Launch) (G : fw_G) (F : fw_F) (sz : Nat) (v : Int32) : Met l yJ6_bitCount_0f7a4 (fw_ws yJ6_bitCount_0f7a4 cJ6_bitCount_0f7a4 1 (some (.int))) { frames := 0, cells := 0, slots := 0, locals := 0 } (va_Pc [.int v] (fw_Pre G F sz)) (va_Qi (fun r F1 => F1 = F ∧ (fun r => r = cl_bc v) r) (fw_B G (fw_W G F sz)) (fw_W G F sz)) 0 0 (fw_W G F sz) := by
  refine fw_met (lv := [(0, .int v)]) (by decide +kernel) (Nat.le_of_ble_eq_true rfl) rfl ?_
  intro A hA p e s m below meth c ls hx hb hml hown hT hr hlk hin hz hsz hw hAn hl
  rw [← hA]
  have hown : s.vm.findClass RJ6 = some m.cls := hown
  have C : CallFix p m c cJ6_bitCount_0f7a4 1 s _ fw_tb RJ6 := ⟨hx, hb, hml, hown, hT⟩
  refine lv_iload_n hx hb dJ6_bitCount_0f7a4_0 rfl (lv_at hl 0 rfl) ?_
  refine lv_iload_n hx hb dJ6_bitCount_0f7a4_1 rfl (lv_at hl 0 rfl) ?_
  refine lv_iconst (v := (nI 1)) hx hb dJ6_bitCount_0f7a4_2 (by decide) ?_
  refine lv_iushr (v := (cl_us v (nI 1))) hx hb dJ6_bitCount_0f7a4_3 rfl ?_
  refine lv_ldcw hx hb hown (hT _ wd_722) dJ6_bitCount_0f7a4_4 ?_
  refine lv_iand hx hb dJ6_bitCount_0f7a4_7 ?_
  refine lv_isub hx hb dJ6_bitCount_0f7a4_8 ?_
  refine fw_top (x' := (cl_b1 v)) (rfl) ?_
  refine lv_istore_n (lv' := [(0, .int (cl_b1 v))]) hx hb dJ6_bitCount_0f7a4_9 rfl hl (by decide) rfl (fun ls hl => ?_)
  refine lv_iload_n hx hb dJ6_bitCount_0f7a4_10 rfl (lv_at hl 0 rfl) ?_
  refine lv_ldcw hx hb hown (hT _ wd_723) dJ6_bitCount_0f7a4_11 ?_
  refine lv_iand hx hb dJ6_bitCount_0f7a4_14 ?_
  refine lv_iload_n hx hb dJ6_bitCount_0f7a4_15 rfl (lv_at hl 0 rfl) ?_
  refine lv_iconst (v := (nI 2)) hx hb dJ6_bitCount_0f7a4_16 (by decide) ?_
  refine lv_iushr (v := (cl_us (cl_b1 v) (nI 2))) hx hb dJ6_bitCount_0f7a4_17 rfl ?_
  refine lv_ldcw hx hb hown (hT _ wd_723) dJ6_bitCount_0f7a4_18 ?_
  refine lv_iand hx hb dJ6_bitCount_0f7a4_21 ?_
  refine lv_iadd hx hb dJ6_bitCount_0f7a4_22 ?_
  refine fw_top (x' := (cl_b2 (cl_b1 v))) (rfl) ?_
  refine lv_istore_n (lv' := [(0, .int (cl_b2 (cl_b1 v)))]) hx hb dJ6_bitCount_0f7a4_23 rfl hl (by decide) rfl (fun ls hl => ?_)
  refine lv_iload_n hx hb dJ6_bitCount_0f7a4_24 rfl (lv_at hl 0 rfl) ?_
  refine lv_iload_n hx hb dJ6_bitCount_0f7a4_25 rfl (lv_at hl 0 rfl) ?_
  refine lv_iconst (v := (nI 4)) hx hb dJ6_bitCount_0f7a4_26 (by decide) ?_
  refine lv_iushr (v := (cl_us (cl_b2 (cl_b1 v)) (nI 4))) hx hb dJ6_bitCount_0f7a4_27 rfl ?_
  refine lv_iadd hx hb dJ6_bitCount_0f7a4_28 ?_
  refine lv_ldcw hx hb hown (hT _ wd_724) dJ6_bitCount_0f7a4_29 ?_
  refine lv_iand hx hb dJ6_bitCount_0f7a4_32 ?_
  refine fw_top (x' := (cl_b3 (cl_b2 (cl_b1 v)))) (rfl) ?_
  refine lv_istore_n (lv' := [(0, .int (cl_b3 (cl_b2 (cl_b1 v))))]) hx hb dJ6_bitCount_0f7a4_33 rfl hl (by decide) rfl (fun ls hl => ?_)
  refine lv_iload_n hx hb dJ6_bitCount_0f7a4_34 rfl (lv_at hl 0 rfl) ?_
  refine lv_iload_n hx hb dJ6_bitCount_0f7a4_35 rfl (lv_at hl 0 rfl) ?_
  refine lv_bipush (v := (nI 8)) hx hb dJ6_bitCount_0f7a4_36 (by decide) ?_
  refine lv_iushr (v := (cl_us (cl_b3 (cl_b2 (cl_b1 v))) (nI 8))) hx hb dJ6_bitCount_0f7a4_38 rfl ?_
  refine lv_iadd hx hb dJ6_bitCount_0f7a4_39 ?_
  refine fw_top (x' := (cl_b4 (cl_b3 (cl_b2 (cl_b1 v))))) (rfl) ?_
  refine lv_istore_n (lv' := [(0, .int (cl_b4 (cl_b3 (cl_b2 (cl_b1 v)))))]) hx hb dJ6_bitCount_0f7a4_40 rfl hl (by decide) rfl (fun ls hl => ?_)
  refine lv_iload_n hx hb dJ6_bitCount_0f7a4_41 rfl (lv_at hl 0 rfl) ?_
  refine lv_iload_n hx hb dJ6_bitCount_0f7a4_42 rfl (lv_at hl 0 rfl) ?_
  refine lv_bipush (v := (nI 16)) hx hb dJ6_bitCount_0f7a4_43 (by decide) ?_
  refine lv_iushr (v := (cl_us (cl_b4 (cl_b3 (cl_b2 (cl_b1 v)))) (nI 16))) hx hb dJ6_bitCount_0f7a4_45 rfl ?_
  refine lv_iadd hx hb dJ6_bitCount_0f7a4_46 ?_
  refine fw_top (x' := (cl_b5 (cl_b4 (cl_b3 (cl_b2 (cl_b1 v)))))) (rfl) ?_
  refine lv_istore_n (lv' := [(0, .int (cl_b5 (cl_b4 (cl_b3 (cl_b2 (cl_b1 v))))))]) hx hb dJ6_bitCount_0f7a4_47 rfl hl (by decide) rfl (fun ls hl => ?_)
  refine lv_iload_n hx hb dJ6_bitCount_0f7a4_48 rfl (lv_at hl 0 rfl) ?_
  refine lv_bipush (v := (nI 63)) hx hb dJ6_bitCount_0f7a4_49 (by decide) ?_
  refine lv_iand hx hb dJ6_bitCount_0f7a4_51 ?_
  exact fw_iret hx hb hr hlk (Nat.le_of_ble_eq_true rfl) (Nat.le_of_ble_eq_true rfl) hw dJ6_bitCount_0f7a4_52 (⟨rfl, rfl⟩)
set_option maxHeartbeats 4000000 in
set_option maxRecDepth 100000 in
theorem c_X8_teethWithoutCutter (l : Launch) (G : fw_G) (F : fw_F) (sz : Nat) (x lc lt lo lm lw dr : Nat) (tm : Int32) (ca : Nat → Nat) (f : mm_A) (nC : Nat) (mo : Int32) (hX : cr_X F x lc lt lo lm lw dr tm) (hC : cr_C F lc ca f nC) : Met l yX8_teethWithoutCutter (fw_ws yX8_teethWithoutCutter cX8_teethWithoutCutter 4 (some (.int))) { frames := 4, cells := 0, slots := 0, locals := 87 } (va_Pc [.ref x, .int mo] (fw_Pre G F sz)) (va_Qi (fun r F1 => F1 = F ∧ (fun r => r = cl_tw f nC mo 13) r) (fw_B G (fw_W G F sz)) (fw_W G F sz)) 0 0 (fw_W G F sz) := by
  refine fw_met (lv := [(0, .ref x), (1, .int mo)]) (by decide +kernel) (Nat.le_of_ble_eq_true rfl) rfl ?_
  intro A hA p e s m below meth c ls hx hb hml hown hT hr hlk hin hz hsz hw hAn hl
  rw [← hA]
  have hown : s.vm.findClass RX8 = some m.cls := hown
  have C : CallFix p m c cX8_teethWithoutCutter 4 s _ fw_tb RX8 := ⟨hx, hb, hml, hown, hT⟩
  refine lv_iconst (v := (nI 0)) hx hb dX8_teethWithoutCutter_0 (by decide) ?_
  refine lv_istore_n (lv' := [(2, .int (nI 0)), (0, .ref x), (1, .int mo)]) hx hb dX8_teethWithoutCutter_1 rfl hl (by decide) rfl (fun ls hl => ?_)
  refine lv_bipush (v := (nI 8)) hx hb dX8_teethWithoutCutter_2 (by decide) ?_
  refine lv_istore_n (lv' := [(3, .int (nI 8)), (2, .int (nI 0)), (0, .ref x), (1, .int mo)]) hx hb dX8_teethWithoutCutter_4 rfl hl (by decide) rfl (fun ls hl => ?_)
  suffices hlp : ∀ (d k : Nat), k + d = 13 →  ∀ (H : Heap) (locs : List Loc) (ls : Array Slot), fw_S G A s F H locs → lv_has ls 4 [(3, .int (nI (8 + k))), (2, .int (cl_tw f nC mo k)), (0, .ref x), (1, .int mo)] → W p l e { frames := 4, cells := 0, slots := 0, locals := 87 } s m ([.ref x, .int mo] : List Value).toArray below meth c H locs 0 0 (MQ below (va_Qi (fun r F1 => F1 = F ∧ (fun r => r = cl_tw f nC mo 13) r) (fw_B G A) A) ([.ref x, .int mo] : List Value).toArray s 0 0 A) (F0 m 5 ls []) by
    exact hlp 13 0  (Nat.zero_add _)   _ _ _ hw (lv_sub hl [0, 1, 2, 3] rfl)
  intro d
  induction d with
  | zero =>
    intro k  hk  H locs ls hw hl
    refine lv_iload_n hx hb dX8_teethWithoutCutter_5 rfl (lv_at hl 0 rfl) ?_
    refine lv_bipush (v := (nI 20)) hx hb dX8_teethWithoutCutter_6 (by decide) ?_
    refine lv_icmp_gt (tgt := 33) hx hb dX8_teethWithoutCutter_8 (by decide) (fun d => ?_) (fun d => ?_)
    · have d := (nI_ltI (a := 20) (b := 8 + k) (by omega) (by omega)).mp d
      obtain rfl : k = 13 := by omega
      refine lv_iload_n hx hb dX8_teethWithoutCutter_33 rfl (lv_at hl 1 rfl) ?_
      exact fw_iret hx hb hr hlk (Nat.le_of_ble_eq_true rfl) (Nat.le_of_ble_eq_true rfl) hw dX8_teethWithoutCutter_34 (⟨rfl, rfl⟩)
    · have d : ¬ 20 < (8 + k) := fun h9 => d ((nI_ltI (a := 20) (b := 8 + k) (by omega) (by omega)).mpr h9)
      omega
  | succ d ih =>
    intro k  hk  H locs ls hw hl
    refine lv_iload_n hx hb dX8_teethWithoutCutter_5 rfl (lv_at hl 0 rfl) ?_
    refine lv_bipush (v := (nI 20)) hx hb dX8_teethWithoutCutter_6 (by decide) ?_
    refine lv_icmp_gt (tgt := 33) hx hb dX8_teethWithoutCutter_8 (by decide) (fun d => ?_) (fun d => ?_)
    · have d := (nI_ltI (a := 20) (b := 8 + k) (by omega) (by omega)).mp d
      omega
    · have d : ¬ 20 < (8 + k) := fun h9 => d ((nI_ltI (a := 20) (b := 8 + k) (by omega) (by omega)).mpr h9)
      refine lv_aload_n hx hb dX8_teethWithoutCutter_11 rfl (lv_at hl 2 rfl) ?_
      refine lv_iload_n hx hb dX8_teethWithoutCutter_12 rfl (lv_at hl 3 rfl) ?_
      refine lv_iload_n hx hb dX8_teethWithoutCutter_13 rfl (lv_at hl 0 rfl) ?_
      refine fw_calli (fw_runV (As := [.int mo, .int (nI (8 + k))]) (rest := []) C hz hw (c_X8_lowestCutter l G _ _ x lc lt lo lm lw dr tm ca f nC mo (nI (8 + k)) hX hC) (fw_cwV hT wd_342 yVX8_lowestCutter rfl rfl ⟨Nat.le_of_ble_eq_true rfl, Nat.le_of_ble_eq_true rfl⟩) (fw_rec hz hw hX (q := vwCl[9]) rfl) rfl hl.1 rfl (Nat.le_of_ble_eq_true rfl) dX8_teethWithoutCutter_14 ⟨Nat.le_of_ble_eq_true rfl, Nat.le_of_ble_eq_true rfl⟩) hw (fun r F1 H locs hw hp => ?_)
      obtain ⟨hp0, hp⟩ := hp
      rw [hp0] at hw
      refine W.widen (k := 0) (n := 0) (Nat.le_of_ble_eq_true rfl) (Nat.le_of_ble_eq_true rfl) ?_
      subst hp
      refine lv_iconst (v := (-1)) hx hb dX8_teethWithoutCutter_17 (by decide) ?_
      refine lv_icmp_ne (tgt := 27) hx hb dX8_teethWithoutCutter_18 (by decide) (fun d2 => ?_) (fun d2 => ?_)
      · have hy9 : cl_tw f nC mo (k + 1) = cl_tw f nC mo k := by rw [cl_tw, if_neg d2]
        rw [← hy9] at hl
        refine lv_iinc (v := (nI (8 + k + 1))) (lv' := [(3, .int (nI (8 + k + 1))), (2, .int (cl_tw f nC mo (k + 1))), (0, .ref x), (1, .int mo)]) hx hb dX8_teethWithoutCutter_27 hl (k := 0) rfl (nI_1 _) (by decide) rfl (fun ls hl => ?_)
        refine lv_goto (tgt := 5) hx hb dX8_teethWithoutCutter_30 (by decide) ?_
        exact ih (k + 1)  (by omega)   _ _ _ hw (lv_sub hl [0, 1, 2, 3] rfl)
      · refine lv_iload_n hx hb dX8_teethWithoutCutter_21 rfl (lv_at hl 1 rfl) ?_
        refine lv_iconst (v := (nI 1)) hx hb dX8_teethWithoutCutter_22 (by decide) ?_
        refine lv_iload_n hx hb dX8_teethWithoutCutter_23 rfl (lv_at hl 0 rfl) ?_
        refine lv_ishl hx hb dX8_teethWithoutCutter_24 ?_
        refine fw_top (x' := cl_bit (8 + k)) rfl ?_
        refine lv_ior hx hb dX8_teethWithoutCutter_25 ?_
        refine fw_top (x' := (cl_tw f nC mo (k + 1))) (by rw [cl_tw, if_pos d2]) ?_
        refine lv_istore_n (lv' := [(2, .int (cl_tw f nC mo (k + 1))), (3, .int (nI (8 + k))), (0, .ref x), (1, .int mo)]) hx hb dX8_teethWithoutCutter_26 rfl hl (by decide) rfl (fun ls hl => ?_)
        refine lv_iinc (v := (nI (8 + k + 1))) (lv' := [(3, .int (nI (8 + k + 1))), (2, .int (cl_tw f nC mo (k + 1))), (0, .ref x), (1, .int mo)]) hx hb dX8_teethWithoutCutter_27 hl (k := 1) rfl (nI_1 _) (by decide) rfl (fun ls hl => ?_)
        refine lv_goto (tgt := 5) hx hb dX8_teethWithoutCutter_30 (by decide) ?_
        exact ih (k + 1)  (by omega)   _ _ _ hw (lv_sub hl [0, 1, 2, 3] rfl)
set_option maxHeartbeats 4000000 in
set_option maxRecDepth 100000 in
theorem c_X8_leastWithDrivers (l : Launch) (G : fw_G) (F : fw_F) (sz : Nat) (dr un : Int32) (pr : Nat) (hpr : pr ≤ 160000) : Met l yX8_leastWithDrivers (fw_ws yX8_leastWithDrivers cX8_leastWithDrivers 7 (some (.int))) { frames := 2, cells := 0, slots := 0, locals := 42 } (va_Pc [.int dr, .int (nI pr), .int un] (fw_Pre G F sz)) (va_Qi (fun r F1 => F1 = F ∧ (fun r => r = cl_lw dr un pr 13) r) (fw_B G (fw_W G F sz)) (fw_W G F sz)) 0 0 (fw_W G F sz) := by
  refine fw_met (lv := [(0, .int dr), (1, .int (nI pr)), (2, .int un)]) (by decide +kernel) (Nat.le_of_ble_eq_true rfl) rfl ?_
  intro A hA p e s m below meth c ls hx hb hml hown hT hr hlk hin hz hsz hw hAn hl
  rw [← hA]
  have hown : s.vm.findClass RX8 = some m.cls := hown
  have C : CallFix p m c cX8_leastWithDrivers 7 s _ fw_tb RX8 := ⟨hx, hb, hml, hown, hT⟩
  refine lv_iconst (v := (-1)) hx hb dX8_leastWithDrivers_0 (by decide) ?_
  refine lv_istore_n (lv' := [(3, .int (-1)), (0, .int dr), (1, .int (nI pr)), (2, .int un)]) hx hb dX8_leastWithDrivers_1 rfl hl (by decide) rfl (fun ls hl => ?_)
  refine lv_bipush (v := (nI 8)) hx hb dX8_leastWithDrivers_2 (by decide) ?_
  refine lv_istore (lv' := [(4, .int (nI 8)), (3, .int (-1)), (0, .int dr), (1, .int (nI pr)), (2, .int un)]) hx hb dX8_leastWithDrivers_4 hl (by decide) rfl (fun ls hl => ?_)
  suffices hlp : ∀ (d k : Nat), k + d = 13 →  ∀ (H : Heap) (locs : List Loc) (ls : Array Slot), fw_S G A s F H locs → lv_has ls 7 [(4, .int (nI (8 + k))), (3, .int (cl_lw dr un pr k)), (0, .int dr), (1, .int (nI pr)), (2, .int un)] → W p l e { frames := 2, cells := 0, slots := 0, locals := 42 } s m ([.int dr, .int (nI pr), .int un] : List Value).toArray below meth c H locs 0 0 (MQ below (va_Qi (fun r F1 => F1 = F ∧ (fun r => r = cl_lw dr un pr 13) r) (fw_B G A) A) ([.int dr, .int (nI pr), .int un] : List Value).toArray s 0 0 A) (F0 m 6 ls []) by
    exact hlp 13 0  (Nat.zero_add _)   _ _ _ hw (lv_sub hl [0, 1, 2, 3, 4] rfl)
  intro d
  induction d with
  | zero =>
    intro k  hk  H locs ls hw hl
    refine lv_iload hx hb dX8_leastWithDrivers_6 (lv_at hl 0 rfl) ?_
    refine lv_bipush (v := (nI 20)) hx hb dX8_leastWithDrivers_8 (by decide) ?_
    refine lv_icmp_gt (tgt := 71) hx hb dX8_leastWithDrivers_10 (by decide) (fun d => ?_) (fun d => ?_)
    · have d := (nI_ltI (a := 20) (b := 8 + k) (by omega) (by omega)).mp d
      obtain rfl : k = 13 := by omega
      refine lv_iload_n hx hb dX8_leastWithDrivers_71 rfl (lv_at hl 1 rfl) ?_
      exact fw_iret hx hb hr hlk (Nat.le_of_ble_eq_true rfl) (Nat.le_of_ble_eq_true rfl) hw dX8_leastWithDrivers_72 (⟨rfl, rfl⟩)
    · have d : ¬ 20 < (8 + k) := fun h9 => d ((nI_ltI (a := 20) (b := 8 + k) (by omega) (by omega)).mpr h9)
      omega
  | succ d ih =>
    intro k  hk  H locs ls hw hl
    refine lv_iload hx hb dX8_leastWithDrivers_6 (lv_at hl 0 rfl) ?_
    refine lv_bipush (v := (nI 20)) hx hb dX8_leastWithDrivers_8 (by decide) ?_
    refine lv_icmp_gt (tgt := 71) hx hb dX8_leastWithDrivers_10 (by decide) (fun d => ?_) (fun d => ?_)
    · have d := (nI_ltI (a := 20) (b := 8 + k) (by omega) (by omega)).mp d
      omega
    · have d : ¬ 20 < (8 + k) := fun h9 => d ((nI_ltI (a := 20) (b := 8 + k) (by omega) (by omega)).mpr h9)
      refine lv_iload_n hx hb dX8_leastWithDrivers_13 rfl (lv_at hl 3 rfl) ?_
      refine lv_iload hx hb dX8_leastWithDrivers_14 (lv_at hl 0 rfl) ?_
      have hlt9 : pr / (8 + k) ≤ pr := Nat.div_le_self _ _
      refine lv_idiv hx hb dX8_leastWithDrivers_16 (nI_ne0 (by omega) (by omega)) ?_
      refine fw_top (x' := (nI (pr / (8 + k)))) (pk_div (by omega) (by omega) (by omega)) ?_
      have hml9 : pr / (8 + k) * (8 + k) ≤ pr := Nat.div_mul_le_self _ _
      refine lv_istore (lv' := [(5, .int (nI (pr / (8 + k)))), (4, .int (nI (8 + k))), (3, .int (cl_lw dr un pr k)), (0, .int dr), (1, .int (nI pr)), (2, .int un)]) hx hb dX8_leastWithDrivers_17 hl (by decide) rfl (fun ls hl => ?_)
      refine lv_iload hx hb dX8_leastWithDrivers_19 (lv_at hl 0 rfl) ?_
      refine lv_iload hx hb dX8_leastWithDrivers_21 (lv_at hl 1 rfl) ?_
      refine lv_imul hx hb dX8_leastWithDrivers_23 ?_
      refine fw_top (pk_mul _ _) ?_
      refine lv_iload_n hx hb dX8_leastWithDrivers_24 rfl (lv_at hl 4 rfl) ?_
      refine lv_icmp_ne (tgt := 65) hx hb dX8_leastWithDrivers_25 (by decide) (fun d2 => ?_) (fun d2 => ?_)
      · have d2 : ¬ ((pr / (8 + k)) * (8 + k)) = pr := fun h9 => d2 ((nI_eq (a := (pr / (8 + k)) * (8 + k)) (b := pr) (by omega) (by omega)).mpr h9)
        have hy9 : cl_lw dr un pr (k + 1) = cl_lw dr un pr k := by rw [cl_lw, if_neg (by rw [cl_ok, decide_eq_false d2]; simp)]
        rw [← hy9] at hl
        refine lv_iinc (v := (nI (8 + k + 1))) (lv' := [(4, .int (nI (8 + k + 1))), (5, .int (nI (pr / (8 + k)))), (3, .int (cl_lw dr un pr (k + 1))), (0, .int dr), (1, .int (nI pr)), (2, .int un)]) hx hb dX8_leastWithDrivers_65 hl (k := 1) rfl (nI_1 _) (by decide) rfl (fun ls hl => ?_)
        refine lv_goto (tgt := 6) hx hb dX8_leastWithDrivers_68 (by decide) ?_
        exact ih (k + 1)  (by omega)   _ _ _ hw (lv_sub hl [0, 2, 3, 4, 5] rfl)
      · have d2 := (nI_eq (a := (pr / (8 + k)) * (8 + k)) (b := pr) (by omega) (by omega)).mp d2
        refine lv_iload hx hb dX8_leastWithDrivers_28 (lv_at hl 0 rfl) ?_
        refine lv_iload hx hb dX8_leastWithDrivers_30 (lv_at hl 1 rfl) ?_
        refine lv_bipush (v := (nI 20)) hx hb dX8_leastWithDrivers_32 (by decide) ?_
        refine fw_calli (fw_runS (As := [.int (nI (pr / (8 + k))), .int (nI (8 + k)), .int (nI 20)]) (rest := []) C hz hw (c_X8_isOutside l G _ _ (nI (pr / (8 + k))) (nI (8 + k)) (nI 20)) (fw_cwS hT wd_228 ySX8_isOutside rfl rfl ⟨Nat.le_of_ble_eq_true rfl, Nat.le_of_ble_eq_true rfl⟩) rfl hl.1 rfl (Nat.le_of_ble_eq_true rfl) dX8_leastWithDrivers_34 ⟨Nat.le_of_ble_eq_true rfl, Nat.le_of_ble_eq_true rfl⟩) hw (fun r F1 H locs hw hp => ?_)
        obtain ⟨hp0, hp⟩ := hp
        rw [hp0] at hw
        refine W.widen (k := 0) (n := 0) (Nat.le_of_ble_eq_true rfl) (Nat.le_of_ble_eq_true rfl) ?_
        subst hp
        refine lv_if_ne (tgt := 65) hx hb dX8_leastWithDrivers_37 (by decide) (fun d3 => ?_) (fun d3 => ?_)
        · have d3 := fw_b1 d3
          have d3 : rf_in (nI (pr / (8 + k))) (nI (8 + k)) (nI 20) = false := by simpa using d3
          have hy9 : cl_lw dr un pr (k + 1) = cl_lw dr un pr k := by rw [cl_lw, if_neg (by rw [cl_ok, d3, Bool.and_false]; simp)]
          rw [← hy9] at hl
          refine lv_iinc (v := (nI (8 + k + 1))) (lv' := [(4, .int (nI (8 + k + 1))), (5, .int (nI (pr / (8 + k)))), (3, .int (cl_lw dr un pr (k + 1))), (0, .int dr), (1, .int (nI pr)), (2, .int un)]) hx hb dX8_leastWithDrivers_65 hl (k := 1) rfl (nI_1 _) (by decide) rfl (fun ls hl => ?_)
          refine lv_goto (tgt := 6) hx hb dX8_leastWithDrivers_68 (by decide) ?_
          exact ih (k + 1)  (by omega)   _ _ _ hw (lv_sub hl [0, 2, 3, 4, 5] rfl)
        · have d3 := fw_b0 d3
          have d3 : rf_in (nI (pr / (8 + k))) (nI (8 + k)) (nI 20) = true := by simpa using d3
          refine lv_iload_n hx hb dX8_leastWithDrivers_40 rfl (lv_at hl 3 rfl) ?_
          refine lv_iconst (v := (nI 1)) hx hb dX8_leastWithDrivers_41 (by decide) ?_
          refine lv_iload hx hb dX8_leastWithDrivers_42 (lv_at hl 1 rfl) ?_
          refine lv_ishl hx hb dX8_leastWithDrivers_44 ?_
          refine fw_top (x' := cl_bit (8 + k)) rfl ?_
          refine lv_ior hx hb dX8_leastWithDrivers_45 ?_
          refine lv_iconst (v := (nI 1)) hx hb dX8_leastWithDrivers_46 (by decide) ?_
          refine lv_iload hx hb dX8_leastWithDrivers_47 (lv_at hl 0 rfl) ?_
          refine lv_ishl hx hb dX8_leastWithDrivers_49 ?_
          refine fw_top (x' := cl_bit (pr / (8 + k))) rfl ?_
          refine lv_ior hx hb dX8_leastWithDrivers_50 ?_
          refine lv_istore (lv' := [(6, .int ((dr ||| (cl_bit (8 + k))) ||| (cl_bit (pr / (8 + k))))), (5, .int (nI (pr / (8 + k)))), (4, .int (nI (8 + k))), (3, .int (cl_lw dr un pr k)), (0, .int dr), (1, .int (nI pr)), (2, .int un)]) hx hb dX8_leastWithDrivers_51 hl (by decide) rfl (fun ls hl => ?_)
          refine lv_iload_n hx hb dX8_leastWithDrivers_53 rfl (lv_at hl 3 rfl) ?_
          refine lv_iload hx hb dX8_leastWithDrivers_54 (lv_at hl 0 rfl) ?_
          refine lv_iload_n hx hb dX8_leastWithDrivers_56 rfl (lv_at hl 6 rfl) ?_
          refine lv_iand hx hb dX8_leastWithDrivers_57 ?_
          refine fw_calli (fw_runS (As := [.int (((dr ||| (cl_bit (8 + k))) ||| (cl_bit (pr / (8 + k)))) &&& un)]) (rest := [.int (cl_lw dr un pr k)]) C hz hw (c_J6_bitCount_0f7a4 l G _ _ ((dr ||| cl_bit (8 + k) ||| cl_bit (pr / (8 + k))) &&& un)) (fw_cwS hT wd_719 ySJ6_bitCount_0f7a4 rfl rfl ⟨Nat.le_of_ble_eq_true rfl, Nat.le_of_ble_eq_true rfl⟩) rfl hl.1 rfl (Nat.le_of_ble_eq_true rfl) dX8_leastWithDrivers_58 ⟨Nat.le_of_ble_eq_true rfl, Nat.le_of_ble_eq_true rfl⟩) hw (fun r F1 H locs hw hp => ?_)
          obtain ⟨hp0, hp⟩ := hp
          rw [hp0] at hw
          refine W.widen (k := 0) (n := 0) (Nat.le_of_ble_eq_true rfl) (Nat.le_of_ble_eq_true rfl) ?_
          subst hp
          refine fw_calli (fw_runS (As := [.int (cl_lw dr un pr k), .int (cl_bc ((dr ||| cl_bit (8 + k) ||| cl_bit (pr / (8 + k))) &&& un))]) (rest := []) C hz hw (c_X8_lesser l G _ _ (cl_lw dr un pr k) (cl_bc ((dr ||| cl_bit (8 + k) ||| cl_bit (pr / (8 + k))) &&& un))) (fw_cwS hT wd_725 ySX8_lesser rfl rfl ⟨Nat.le_of_ble_eq_true rfl, Nat.le_of_ble_eq_true rfl⟩) rfl hl.1 rfl (Nat.le_of_ble_eq_true rfl) dX8_leastWithDrivers_61 ⟨Nat.le_of_ble_eq_true rfl, Nat.le_of_ble_eq_true rfl⟩) hw (fun r F1 H locs hw hp => ?_)
          obtain ⟨hp0, hp⟩ := hp
          rw [hp0] at hw
          refine W.widen (k := 0) (n := 0) (Nat.le_of_ble_eq_true rfl) (Nat.le_of_ble_eq_true rfl) ?_
          subst hp
          refine fw_top (x' := (cl_lw dr un pr (k + 1))) (by rw [cl_lw, if_pos (by rw [cl_ok, decide_eq_true d2, d3]; rfl)]) ?_
          refine lv_istore_n (lv' := [(3, .int (cl_lw dr un pr (k + 1))), (6, .int ((dr ||| (cl_bit (8 + k))) ||| (cl_bit (pr / (8 + k))))), (5, .int (nI (pr / (8 + k)))), (4, .int (nI (8 + k))), (0, .int dr), (1, .int (nI pr)), (2, .int un)]) hx hb dX8_leastWithDrivers_64 rfl hl (by decide) rfl (fun ls hl => ?_)
          refine lv_iinc (v := (nI (8 + k + 1))) (lv' := [(4, .int (nI (8 + k + 1))), (3, .int (cl_lw dr un pr (k + 1))), (6, .int ((dr ||| (cl_bit (8 + k))) ||| (cl_bit (pr / (8 + k))))), (5, .int (nI (pr / (8 + k)))), (0, .int dr), (1, .int (nI pr)), (2, .int un)]) hx hb dX8_leastWithDrivers_65 hl (k := 3) rfl (nI_1 _) (by decide) rfl (fun ls hl => ?_)
          refine lv_goto (tgt := 6) hx hb dX8_leastWithDrivers_68 (by decide) ?_
          exact ih (k + 1)  (by omega)   _ _ _ hw (lv_sub hl [0, 1, 4, 5, 6] rfl)
set_option maxHeartbeats 4000000 in
set_option maxRecDepth 100000 in
theorem c_X8_queue (l : Launch) (G : fw_G) (F : fw_F) (sz : Nat) (x lc lt lo lm lw dr : Nat) (tm : Int32) (ca : Nat → Nat) (f : mm_A) (nC : Nat) (o arr nW nj : Nat) (wf : Nat → Nat) (mo te : Int32) (hX : cr_X F x lc lt lo lm lw dr tm) (hC : cr_C F lc ca f nC) (hL : F lw = some ((1, 4, 0), fw_ls arr nW wf)) (hnW : nW ≤ 96) : Met l yX8_queue (fw_ws yX8_queue cX8_queue 4 none) { frames := 7, cells := 2, slots := 243, locals := 171 } (va_Pc [.ref x, .ref o, .int mo, .int te] (fw_Pre G F sz)) (va_Qv (fun F1 => ∃ j q, F j = none ∧ F1 = va_up (va_up F j (some ((8, nj, 0), fw_obj 3 [.ref o, .int te, .int (rf_cut f nC mo te)]))) lw (some ((1, 4, 0), fw_ls q (nW + 1) (va_up wf nW j)))) (fw_B G (fw_W G F sz)) (fw_W G F sz)) 2 243 (fw_W G F sz) := by
  refine fw_met (lv := [(0, .ref x), (1, .ref o), (2, .int mo), (3, .int te)]) (by decide +kernel) (Nat.le_of_ble_eq_true rfl) rfl ?_
  intro A hA p e s m below meth c ls hx hb hml hown hT hr hlk hin hz hsz hw hAn hl
  rw [← hA]
  have hown : s.vm.findClass RX8 = some m.cls := hown
  have C : CallFix p m c cX8_queue 4 s _ fw_tb RX8 := ⟨hx, hb, hml, hown, hT⟩
  refine lv_aload_n hx hb dX8_queue_0 rfl (lv_at hl 0 rfl) ?_
  refine fw_get (v := .ref lw) hx hb hT fi_RX8 hown hz hw hX rfl 4 (by decide) (hT _ wd_182) (fun _ h9 => h9) rfl dX8_queue_1 ?_
  refine fw_new (8, nj, 0) (ci := 3) (fs := [.null, .int (nI 0), .int (nI 0)]) hx hb hT fi_RX2 tyX2 tyX2_ok hown (hT _ wd_555) (hT _ wd_556) (hT _ wd_25) hz hw hAn rfl (by intro j hj; rcases (show j = 0 ∨ j = 1 ∨ j = 2 by omega) with rfl | rfl | rfl <;> rfl) (Nat.le_of_ble_eq_true rfl) (Nat.le_of_ble_eq_true rfl) dX8_queue_4 (fun j H hqj hw => ?_)
  refine W.widen (k := 1) (n := 3) (Nat.le_of_ble_eq_true rfl) (Nat.le_of_ble_eq_true rfl) ?_
  obtain ⟨W1, hFW1⟩ : ∃ z, z = va_up F j (some ((8, nj, 0), fw_obj 3 [.null, .int (nI 0), .int (nI 0)])) := ⟨_, rfl⟩
  rw [← hFW1] at hw
  have k1_0 : W1 x = some ((50, 0, 0), fw_obj 9 [.ref lc, .ref lt, .ref lo, .ref lm, .ref lw, .ref dr, .int tm]) := by rw [hFW1]; exact fw_up_new hX hqj
  have k1_1 : W1 lw = some ((1, 4, 0), fw_ls arr nW wf) := by rw [hFW1]; exact fw_up_new hL hqj
  have k1_s : W1 j = some ((8, nj, 0), fw_obj 3 [.null, .int (nI 0), .int (nI 0)]) := by rw [hFW1]; exact fw_up_self
  refine lv_dup hx hb dX8_queue_7 rfl ?_
  refine lv_aload_n hx hb dX8_queue_8 rfl (lv_at hl 1 rfl) ?_
  refine lv_iload_n hx hb dX8_queue_9 rfl (lv_at hl 3 rfl) ?_
  refine lv_aload_n hx hb dX8_queue_10 rfl (lv_at hl 0 rfl) ?_
  refine lv_iload_n hx hb dX8_queue_11 rfl (lv_at hl 2 rfl) ?_
  refine lv_iload_n hx hb dX8_queue_12 rfl (lv_at hl 3 rfl) ?_
  have hC1 : cr_C W1 lc ca f nC := by
    obtain ⟨g1, ⟨ac, g2⟩, g3⟩ := hC
    exact ⟨g1, ⟨ac, by rw [hFW1]; exact fw_up_new g2 hqj⟩, fun i hi => by rw [hFW1]; exact fw_up_new (g3 i hi) hqj⟩
  refine fw_calli (fw_runV (As := [.int mo, .int te]) (rest := [.int te, .ref o, .ref j, .ref j, .ref lw]) C hz hw (c_X8_lowestCutter l G _ _ x lc lt lo lm lw dr tm ca f nC mo te k1_0 hC1) (fw_cwV hT wd_342 yVX8_lowestCutter rfl rfl ⟨Nat.le_of_ble_eq_true rfl, Nat.le_of_ble_eq_true rfl⟩) (fw_rec hz hw k1_0 (q := vwCl[9]) rfl) rfl hl.1 rfl (Nat.le_of_ble_eq_true rfl) dX8_queue_13 ⟨Nat.le_of_ble_eq_true rfl, Nat.le_of_ble_eq_true rfl⟩) hw (fun r F1 H locs hw hp => ?_)
  obtain ⟨hp0, hp⟩ := hp
  rw [hp0] at hw
  refine W.widen (k := 1) (n := 3) (Nat.le_of_ble_eq_true rfl) (Nat.le_of_ble_eq_true rfl) ?_
  subst hp
  refine fw_callv (fw_runI (As := [.ref o, .int te, .int (rf_cut f nC mo te)]) (rest := [.ref j, .ref lw]) C hz hw (c_X2_init l G _ _ j (8, nj, 0) o te (rf_cut f nC mo te) k1_s) (fw_cwI hT wd_557 yIX2_init rfl rfl ⟨Nat.le_of_ble_eq_true rfl, Nat.le_of_ble_eq_true rfl⟩) rfl hl.1 rfl (Nat.le_of_ble_eq_true rfl) dX8_queue_16 ⟨Nat.le_of_ble_eq_true rfl, Nat.le_of_ble_eq_true rfl⟩) hw (fun F1 H locs hw hp => ?_)
  refine W.widen (k := 1) (n := 3) (Nat.le_of_ble_eq_true rfl) (Nat.le_of_ble_eq_true rfl) ?_
  rw [hp] at hw
  obtain ⟨W2, hFW2⟩ : ∃ z, z = va_up W1 j (some ((8, nj, 0), fw_obj 3 [.ref o, .int te, .int (rf_cut f nC mo te)])) := ⟨_, rfl⟩
  rw [← hFW2] at hw
  have k2_0 : W2 x = some ((50, 0, 0), fw_obj 9 [.ref lc, .ref lt, .ref lo, .ref lm, .ref lw, .ref dr, .int tm]) := by rw [hFW2]; exact fw_up_tag k1_0 k1_s (by intro z; cases z)
  have k2_1 : W2 lw = some ((1, 4, 0), fw_ls arr nW wf) := by rw [hFW2]; exact fw_up_tag k1_1 k1_s (by intro z; cases z)
  have k2_s : W2 j = some ((8, nj, 0), fw_obj 3 [.ref o, .int te, .int (rf_cut f nC mo te)]) := by rw [hFW2]; exact fw_up_self
  refine fw_calli (fw_runV (As := [.ref j]) (rest := []) C hz hw (c_Jx4a65c_add_9ea2d l G _ _ lw arr nW (1, 4, 0) wf j 3 (8, nj, 0) _ (by decide) k2_1 (by omega) k2_s) (fw_cwV hT wd_117 yVJx4a65c_add_9ea2d rfl rfl ⟨Nat.le_of_ble_eq_true rfl, Nat.le_of_ble_eq_true rfl⟩) (fw_recL hz hw k2_1) rfl hl.1 rfl (Nat.le_of_ble_eq_true rfl) dX8_queue_19 ⟨Nat.le_of_ble_eq_true rfl, Nat.le_of_ble_eq_true rfl⟩) hw (fun r F1 H locs hw hp => ?_)
  refine W.widen (k := 2) (n := 243) (Nat.le_of_ble_eq_true rfl) (Nat.le_of_ble_eq_true rfl) ?_
  obtain ⟨rfl, q, hp⟩ := hp
  rw [hp, hFW2, hFW1, bx_uu] at hw
  refine lv_pop hx hb dX8_queue_22 rfl ?_
  exact fw_vret hx hb hr hlk (Nat.le_of_ble_eq_true rfl) (Nat.le_of_ble_eq_true rfl) hw dX8_queue_23 (⟨j, q, hqj, rfl⟩)
