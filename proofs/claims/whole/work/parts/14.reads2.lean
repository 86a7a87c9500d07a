/-! The reference's methods: sums, products, searches. -/
def rf_dist (f : mm_A) : Nat → Int32
  | 0 => 0
  | k + 1 => rf_dist f k + f 6 (3 * k) * (f 6 (3 * k + 1) + f 6 (3 * k + 2))
def rf_prod (f : mm_A) (t w : Nat) : Nat → Int32
  | 0 => 1
  | k + 1 => rf_prod f t w k * f 9 (12 * t + 3 * k + w)
def rf_on (f : mm_A) (c : Int32) : Nat → Bool
  | 0 => false
  | k + 1 => rf_on f c k || decide (f 22 k = c)
theorem rf_on_s (f : mm_A) (c : Int32) (k : Nat) : rf_on f c (k + 1) = (rf_on f c k || decide (f 22 k = c)) := rfl
def rf_can (f : mm_A) (mc : Nat) (same : Bool) (j : Nat) : Bool := if same then decide (f 18 j = f 22 mc) else !(rf_on f (f 18 j) 3)
def rf_firstL (f : mm_A) (mc : Nat) (same : Bool) : Nat → Int32 → Int32
  | 0, its => its
  | j + 1, its => rf_firstL f mc same j (if f 20 j = -1 ∧ rf_can f mc same j = true then nI j else its)
def rf_first (f : mm_A) (n mc : Nat) (same : Bool) : Int32 := rf_firstL f mc same n (-1)
def rf_left (f : mm_A) (o : Int32) : Nat → Nat
  | 0 => 0
  | k + 1 => rf_left f o k + (if f 17 k = o ∧ ¬ f 20 k = -2 then 1 else 0)
def rf_wait (f : mm_A) : Nat → Nat
  | 0 => 0
  | k + 1 => rf_wait f k + (if f 20 k = -1 then 1 else 0)
theorem rf_left_s (f : mm_A) (o : Int32) (k : Nat) : rf_left f o (k + 1) = rf_left f o k + (if f 17 k = o ∧ ¬ f 20 k = -2 then 1 else 0) := rfl
theorem rf_wait_s (f : mm_A) (k : Nat) : rf_wait f (k + 1) = rf_wait f k + (if f 20 k = -1 then 1 else 0) := rfl
theorem rf_left_le (f : mm_A) (o : Int32) : ∀ n, rf_left f o n ≤ n
  | 0 => Nat.le_refl _
  | n + 1 => by have := rf_left_le f o n; rw [rf_left]; split <;> omega
theorem rf_wait_le (f : mm_A) : ∀ n, rf_wait f n ≤ n
  | 0 => Nat.le_refl _
  | n + 1 => by have := rf_wait_le f n; rw [rf_wait]; split <;> omega
set_option maxHeartbeats 4000000 in
set_option maxRecDepth 100000 in
theorem c_X9_draftDistance (l : Launch) (G : fw_G) (F : fw_F) (sz y : Nat) (ad : Nat → Nat) (sc : mm_S) (f : mm_A) (nD : Nat) (hW : mm_W G F y ad sc f) (e5 : sc 5 = nI nD) (hD : nD ≤ 4) : mm_Ci l G F sz y ad yX9_draftDistance cX9_draftDistance 3 (.int) { frames := 0, cells := 0, slots := 0, locals := 0 } [] (fun r sc1 f1 => sc1 = sc ∧ f1 = f ∧ r = rf_dist f nD) := by
  refine fw_met (lv := [(0, .ref y)]) (by decide +kernel) (Nat.le_of_ble_eq_true rfl) rfl ?_
  intro A hA p e s m below meth c ls hx hb hml hown hT hr hlk hin hz hsz hw hAn hl
  rw [← hA]
  have hown : s.vm.findClass RX9 = some m.cls := hown
  have C : CallFix p m c cX9_draftDistance 3 s _ fw_tb RX9 := ⟨hx, hb, hml, hown, hT⟩
  have hm : mm_M G A s F y ad sc f F s.heap [] := ⟨hw, hW, mm_keep.rf⟩
  refine lv_iconst (v := (nI 0)) hx hb dX9_draftDistance_0 (by decide) ?_
  refine lv_istore_n (lv' := [(1, .int (nI 0)), (0, .ref y)]) hx hb dX9_draftDistance_1 rfl hl (by decide) rfl (fun ls hl => ?_)
  refine lv_iconst (v := (nI 0)) hx hb dX9_draftDistance_2 (by decide) ?_
  refine lv_istore_n (lv' := [(2, .int (nI 0)), (1, .int (nI 0)), (0, .ref y)]) hx hb dX9_draftDistance_3 rfl hl (by decide) rfl (fun ls hl => ?_)
  suffices hlp : ∀ (d k : Nat), k + d = nD →  ∀ (F1 : fw_F) (H : Heap) (locs : List Loc) (ls : Array Slot), mm_M G A s F y ad sc f F1 H locs → lv_has ls 3 [(2, .int (nI k)), (1, .int (rf_dist f k)), (0, .ref y)] → W p l e { frames := 0, cells := 0, slots := 0, locals := 0 } s m ([.ref y] : List Value).toArray below meth c H locs 0 0 (MQ below (va_Qi (mm_post G y ad F (fun r sc1 f1 => sc1 = sc ∧ f1 = f ∧ r = rf_dist f nD)) (fw_B G A) A) ([.ref y] : List Value).toArray s 0 0 A) (F0 m 4 ls []) by
    exact hlp nD 0  (Nat.zero_add _)  _ _ _ _ hm (lv_sub hl [0, 1, 2] rfl)
  intro d
  induction d with
  | zero =>
    intro k  hk  F1 H locs ls hm hl
    refine lv_iload_n hx hb dX9_draftDistance_4 rfl (lv_at hl 0 rfl) ?_
    refine lv_aload_n hx hb dX9_draftDistance_5 rfl (lv_at hl 2 rfl) ?_
    refine mm_get hx hb hT hown hz hm 5 (by decide) wd_740 rfl (v := .int (sc 5)) rfl dX9_draftDistance_6 ?_
    refine fw_top (e5) ?_
    refine lv_icmp_ge (tgt := 51) hx hb dX9_draftDistance_9 (by decide) (fun c1 => ?_) (fun c1 => ?_)
    · have c1 := (nI_leI (a := nD) (b := k) (by omega) (by omega)).mp c1
      refine lv_iload_n hx hb dX9_draftDistance_51 rfl (lv_at hl 1 rfl) ?_
      exact mm_iret hx hb hr hlk (Nat.le_of_ble_eq_true rfl) (Nat.le_of_ble_eq_true rfl) hm dX9_draftDistance_52 (⟨rfl, rfl, by rw [show k = nD by omega]⟩)
    · have c1 : ¬ nD ≤ k := fun h9 => c1 ((nI_leI (a := nD) (b := k) (by omega) (by omega)).mpr h9)
      omega
  | succ d ih =>
    intro k  hk  F1 H locs ls hm hl
    refine lv_iload_n hx hb dX9_draftDistance_4 rfl (lv_at hl 0 rfl) ?_
    refine lv_aload_n hx hb dX9_draftDistance_5 rfl (lv_at hl 2 rfl) ?_
    refine mm_get hx hb hT hown hz hm 5 (by decide) wd_740 rfl (v := .int (sc 5)) rfl dX9_draftDistance_6 ?_
    refine fw_top (e5) ?_
    refine lv_icmp_ge (tgt := 51) hx hb dX9_draftDistance_9 (by decide) (fun c1 => ?_) (fun c1 => ?_)
    · have c1 := (nI_leI (a := nD) (b := k) (by omega) (by omega)).mp c1
      omega
    · have c1 : ¬ nD ≤ k := fun h9 => c1 ((nI_leI (a := nD) (b := k) (by omega) (by omega)).mpr h9)
      refine lv_iload_n hx hb dX9_draftDistance_12 rfl (lv_at hl 1 rfl) ?_
      refine lv_aload_n hx hb dX9_draftDistance_13 rfl (lv_at hl 2 rfl) ?_
      refine mm_get hx hb hT hown hz hm 6 (by decide) wd_741 rfl (v := .ref (ad 6)) rfl dX9_draftDistance_14 ?_
      refine lv_iconst (v := (nI 3)) hx hb dX9_draftDistance_17 (by decide) ?_
      refine lv_iload_n hx hb dX9_draftDistance_18 rfl (lv_at hl 0 rfl) ?_
      refine lv_imul hx hb dX9_draftDistance_19 ?_
      refine fw_top (pk_mul _ _) ?_
      refine mm_ald hx hb hz hm 6 (3 * k) (by decide) rfl (show 3 * k < 12 by omega) dX9_draftDistance_20 ?_
      refine lv_aload_n hx hb dX9_draftDistance_21 rfl (lv_at hl 2 rfl) ?_
      refine mm_get hx hb hT hown hz hm 6 (by decide) wd_741 rfl (v := .ref (ad 6)) rfl dX9_draftDistance_22 ?_
      refine lv_iconst (v := (nI 3)) hx hb dX9_draftDistance_25 (by decide) ?_
      refine lv_iload_n hx hb dX9_draftDistance_26 rfl (lv_at hl 0 rfl) ?_
      refine lv_imul hx hb dX9_draftDistance_27 ?_
      refine fw_top (pk_mul _ _) ?_
      refine lv_iconst (v := (nI 1)) hx hb dX9_draftDistance_28 (by decide) ?_
      refine lv_iadd hx hb dX9_draftDistance_29 ?_
      refine fw_top (nI_add _ _) ?_
      refine mm_ald hx hb hz hm 6 ((3 * k) + 1) (by decide) rfl (show (3 * k) + 1 < 12 by omega) dX9_draftDistance_30 ?_
      refine lv_aload_n hx hb dX9_draftDistance_31 rfl (lv_at hl 2 rfl) ?_
      refine mm_get hx hb hT hown hz hm 6 (by decide) wd_741 rfl (v := .ref (ad 6)) rfl dX9_draftDistance_32 ?_
      refine lv_iconst (v := (nI 3)) hx hb dX9_draftDistance_35 (by decide) ?_
      refine lv_iload_n hx hb dX9_draftDistance_36 rfl (lv_at hl 0 rfl) ?_
      refine lv_imul hx hb dX9_draftDistance_37 ?_
      refine fw_top (pk_mul _ _) ?_
      refine lv_iconst (v := (nI 2)) hx hb dX9_draftDistance_38 (by decide) ?_
      refine lv_iadd hx hb dX9_draftDistance_39 ?_
      refine fw_top (nI_add _ _) ?_
      refine mm_ald hx hb hz hm 6 ((3 * k) + 2) (by decide) rfl (show (3 * k) + 2 < 12 by omega) dX9_draftDistance_40 ?_
      refine lv_iadd hx hb dX9_draftDistance_41 ?_
      refine lv_imul hx hb dX9_draftDistance_42 ?_
      refine lv_iadd hx hb dX9_draftDistance_43 ?_
      refine lv_istore_n (lv' := [(1, .int ((rf_dist f k) + ((f 6 (3 * k)) * ((f 6 ((3 * k) + 1)) + (f 6 ((3 * k) + 2)))))), (2, .int (nI k)), (0, .ref y)]) hx hb dX9_draftDistance_44 rfl hl (by decide) rfl (fun ls hl => ?_)
      refine lv_iinc (v := (nI (k + 1))) (lv' := [(2, .int (nI (k + 1))), (1, .int ((rf_dist f k) + ((f 6 (3 * k)) * ((f 6 ((3 * k) + 1)) + (f 6 ((3 * k) + 2)))))), (0, .ref y)]) hx hb dX9_draftDistance_45 hl (k := 1) rfl (nI_1 _) (by decide) rfl (fun ls hl => ?_)
      refine lv_goto (tgt := 4) hx hb dX9_draftDistance_48 (by decide) ?_
      exact ih (k + 1)  (by omega)  _ _ _ _ hm (lv_sub hl [0, 1, 2] rfl)
set_option maxHeartbeats 4000000 in
set_option maxRecDepth 100000 in
theorem c_X9_product (l : Launch) (G : fw_G) (F : fw_F) (sz y : Nat) (ad : Nat → Nat) (sc : mm_S) (f : mm_A) (t w sm : Nat) (hW : mm_W G F y ad sc f) (e8 : f 8 t = nI sm) (ht : t < 8) (hs : sm ≤ 4) (hw3 : w < 3) : mm_Ci l G F sz y ad yX9_product cX9_product 5 (.int) { frames := 0, cells := 0, slots := 0, locals := 0 } [.int (nI t), .int (nI w)] (fun r sc1 f1 => sc1 = sc ∧ f1 = f ∧ r = rf_prod f t w sm) := by
  refine fw_met (lv := [(0, .ref y), (1, .int (nI t)), (2, .int (nI w))]) (by decide +kernel) (Nat.le_of_ble_eq_true rfl) rfl ?_
  intro A hA p e s m below meth c ls hx hb hml hown hT hr hlk hin hz hsz hw hAn hl
  rw [← hA]
  have hown : s.vm.findClass RX9 = some m.cls := hown
  have C : CallFix p m c cX9_product 5 s _ fw_tb RX9 := ⟨hx, hb, hml, hown, hT⟩
  have hm : mm_M G A s F y ad sc f F s.heap [] := ⟨hw, hW, mm_keep.rf⟩
  refine lv_iconst (v := (nI 1)) hx hb dX9_product_0 (by decide) ?_
  refine lv_istore_n (lv' := [(3, .int (nI 1)), (0, .ref y), (1, .int (nI t)), (2, .int (nI w))]) hx hb dX9_product_1 rfl hl (by decide) rfl (fun ls hl => ?_)
  refine lv_iconst (v := (nI 0)) hx hb dX9_product_2 (by decide) ?_
  refine lv_istore (lv' := [(4, .int (nI 0)), (3, .int (nI 1)), (0, .ref y), (1, .int (nI t)), (2, .int (nI w))]) hx hb dX9_product_3 hl (by decide) rfl (fun ls hl => ?_)
  suffices hlp : ∀ (d k : Nat), k + d = sm →  ∀ (F1 : fw_F) (H : Heap) (locs : List Loc) (ls : Array Slot), mm_M G A s F y ad sc f F1 H locs → lv_has ls 5 [(4, .int (nI k)), (3, .int (rf_prod f t w k)), (0, .ref y), (1, .int (nI t)), (2, .int (nI w))] → W p l e { frames := 0, cells := 0, slots := 0, locals := 0 } s m ([.ref y, .int (nI t), .int (nI w)] : List Value).toArray below meth c H locs 0 0 (MQ below (va_Qi (mm_post G y ad F (fun r sc1 f1 => sc1 = sc ∧ f1 = f ∧ r = rf_prod f t w sm)) (fw_B G A) A) ([.ref y, .int (nI t), .int (nI w)] : List Value).toArray s 0 0 A) (F0 m 5 ls []) by
    exact hlp sm 0  (Nat.zero_add _)  _ _ _ _ hm (lv_sub hl [0, 1, 2, 3, 4] rfl)
  intro d
  induction d with
  | zero =>
    intro k  hk  F1 H locs ls hm hl
    refine lv_iload hx hb dX9_product_5 (lv_at hl 0 rfl) ?_
    refine lv_aload_n hx hb dX9_product_7 rfl (lv_at hl 2 rfl) ?_
    refine mm_get hx hb hT hown hz hm 8 (by decide) wd_743 rfl (v := .ref (ad 8)) rfl dX9_product_8 ?_
    refine lv_iload_n hx hb dX9_product_11 rfl (lv_at hl 3 rfl) ?_
    refine mm_ald hx hb hz hm 8 (t) (by decide) rfl (show t < 8 by omega) dX9_product_12 ?_
    refine fw_top (x' := (nI sm)) (e8) ?_
    refine lv_icmp_ge (tgt := 41) hx hb dX9_product_13 (by decide) (fun c1 => ?_) (fun c1 => ?_)
    · have c1 := (nI_leI (a := sm) (b := k) (by omega) (by omega)).mp c1
      refine lv_iload_n hx hb dX9_product_41 rfl (lv_at hl 1 rfl) ?_
      exact mm_iret hx hb hr hlk (Nat.le_of_ble_eq_true rfl) (Nat.le_of_ble_eq_true rfl) hm dX9_product_42 (⟨rfl, rfl, by rw [show k = sm by omega]⟩)
    · have c1 : ¬ sm ≤ k := fun h9 => c1 ((nI_leI (a := sm) (b := k) (by omega) (by omega)).mpr h9)
      omega
  | succ d ih =>
    intro k  hk  F1 H locs ls hm hl
    refine lv_iload hx hb dX9_product_5 (lv_at hl 0 rfl) ?_
    refine lv_aload_n hx hb dX9_product_7 rfl (lv_at hl 2 rfl) ?_
    refine mm_get hx hb hT hown hz hm 8 (by decide) wd_743 rfl (v := .ref (ad 8)) rfl dX9_product_8 ?_
    refine lv_iload_n hx hb dX9_product_11 rfl (lv_at hl 3 rfl) ?_
    refine mm_ald hx hb hz hm 8 (t) (by decide) rfl (show t < 8 by omega) dX9_product_12 ?_
    refine fw_top (x' := (nI sm)) (e8) ?_
    refine lv_icmp_ge (tgt := 41) hx hb dX9_product_13 (by decide) (fun c1 => ?_) (fun c1 => ?_)
    · have c1 := (nI_leI (a := sm) (b := k) (by omega) (by omega)).mp c1
      omega
    · have c1 : ¬ sm ≤ k := fun h9 => c1 ((nI_leI (a := sm) (b := k) (by omega) (by omega)).mpr h9)
      refine lv_iload_n hx hb dX9_product_16 rfl (lv_at hl 1 rfl) ?_
      refine lv_aload_n hx hb dX9_product_17 rfl (lv_at hl 2 rfl) ?_
      refine mm_get hx hb hT hown hz hm 9 (by decide) wd_744 rfl (v := .ref (ad 9)) rfl dX9_product_18 ?_
      refine lv_bipush (v := (nI 12)) hx hb dX9_product_21 (by decide) ?_
      refine lv_iload_n hx hb dX9_product_23 rfl (lv_at hl 3 rfl) ?_
      refine lv_imul hx hb dX9_product_24 ?_
      refine fw_top (pk_mul _ _) ?_
      refine lv_iconst (v := (nI 3)) hx hb dX9_product_25 (by decide) ?_
      refine lv_iload hx hb dX9_product_26 (lv_at hl 0 rfl) ?_
      refine lv_imul hx hb dX9_product_28 ?_
      refine fw_top (pk_mul _ _) ?_
      refine lv_iadd hx hb dX9_product_29 ?_
      refine fw_top (nI_add _ _) ?_
      refine lv_iload_n hx hb dX9_product_30 rfl (lv_at hl 4 rfl) ?_
      refine lv_iadd hx hb dX9_product_31 ?_
      refine fw_top (nI_add _ _) ?_
      refine mm_ald hx hb hz hm 9 (((12 * t) + (3 * k)) + w) (by decide) rfl (show ((12 * t) + (3 * k)) + w < 96 by omega) dX9_product_32 ?_
      refine lv_imul hx hb dX9_product_33 ?_
      refine lv_istore_n (lv' := [(3, .int ((rf_prod f t w k) * (f 9 (((12 * t) + (3 * k)) + w)))), (4, .int (nI k)), (0, .ref y), (1, .int (nI t)), (2, .int (nI w))]) hx hb dX9_product_34 rfl hl (by decide) rfl (fun ls hl => ?_)
      refine lv_iinc (v := (nI (k + 1))) (lv' := [(4, .int (nI (k + 1))), (3, .int ((rf_prod f t w k) * (f 9 (((12 * t) + (3 * k)) + w)))), (0, .ref y), (1, .int (nI t)), (2, .int (nI w))]) hx hb dX9_product_35 hl (k := 1) rfl (nI_1 _) (by decide) rfl (fun ls hl => ?_)
      refine lv_goto (tgt := 5) hx hb dX9_product_38 (by decide) ?_
      exact ih (k + 1)  (by omega)  _ _ _ _ hm (lv_sub hl [0, 1, 2, 3, 4] rfl)
set_option maxHeartbeats 4000000 in
set_option maxRecDepth 100000 in
theorem c_X9_isOn (l : Launch) (G : fw_G) (F : fw_F) (sz y : Nat) (ad : Nat → Nat) (sc : mm_S) (f : mm_A) (cu : Int32) (hW : mm_W G F y ad sc f) : mm_Ci l G F sz y ad yX9_isOn cX9_isOn 4 (.boolean) { frames := 0, cells := 0, slots := 0, locals := 0 } [.int cu] (fun r sc1 f1 => sc1 = sc ∧ f1 = f ∧ r = fw_b (rf_on f cu 3)) := by
  refine fw_met (lv := [(0, .ref y), (1, .int cu)]) (by decide +kernel) (Nat.le_of_ble_eq_true rfl) rfl ?_
  intro A hA p e s m below meth c ls hx hb hml hown hT hr hlk hin hz hsz hw hAn hl
  rw [← hA]
  have hown : s.vm.findClass RX9 = some m.cls := hown
  have C : CallFix p m c cX9_isOn 4 s _ fw_tb RX9 := ⟨hx, hb, hml, hown, hT⟩
  have hm : mm_M G A s F y ad sc f F s.heap [] := ⟨hw, hW, mm_keep.rf⟩
  refine lv_iconst (v := (nI 0)) hx hb dX9_isOn_0 (by decide) ?_
  refine lv_istore_n (lv' := [(2, .int (nI 0)), (0, .ref y), (1, .int cu)]) hx hb dX9_isOn_1 rfl hl (by decide) rfl (fun ls hl => ?_)
  refine lv_iconst (v := (nI 0)) hx hb dX9_isOn_2 (by decide) ?_
  refine lv_istore_n (lv' := [(3, .int (nI 0)), (2, .int (nI 0)), (0, .ref y), (1, .int cu)]) hx hb dX9_isOn_3 rfl hl (by decide) rfl (fun ls hl => ?_)
  suffices hlp : ∀ (d k : Nat), k + d = 3 →  ∀ (F1 : fw_F) (H : Heap) (locs : List Loc) (ls : Array Slot), mm_M G A s F y ad sc f F1 H locs → lv_has ls 4 [(3, .int (nI k)), (2, .int (fw_b (rf_on f cu k))), (0, .ref y), (1, .int cu)] → W p l e { frames := 0, cells := 0, slots := 0, locals := 0 } s m ([.ref y, .int cu] : List Value).toArray below meth c H locs 0 0 (MQ below (va_Qi (mm_post G y ad F (fun r sc1 f1 => sc1 = sc ∧ f1 = f ∧ r = fw_b (rf_on f cu 3))) (fw_B G A) A) ([.ref y, .int cu] : List Value).toArray s 0 0 A) (F0 m 4 ls []) by
    exact hlp 3 0  (Nat.zero_add _)  _ _ _ _ hm (lv_sub hl [0, 1, 2, 3] rfl)
  intro d
  induction d with
  | zero =>
    intro k  hk  F1 H locs ls hm hl
    refine lv_iload_n hx hb dX9_isOn_4 rfl (lv_at hl 0 rfl) ?_
    refine lv_iconst (v := (nI 3)) hx hb dX9_isOn_5 (by decide) ?_
    refine lv_icmp_ge (tgt := 35) hx hb dX9_isOn_6 (by decide) (fun c1 => ?_) (fun c1 => ?_)
    · have c1 := (nI_leI (a := 3) (b := k) (by omega) (by omega)).mp c1
      refine lv_iload_n hx hb dX9_isOn_35 rfl (lv_at hl 1 rfl) ?_
      exact mm_zret hx hb hr (fw_b01 _) hlk (Nat.le_of_ble_eq_true rfl) (Nat.le_of_ble_eq_true rfl) hm dX9_isOn_36 (⟨rfl, rfl, by rw [show k = 3 by omega]⟩)
    · have c1 : ¬ 3 ≤ k := fun h9 => c1 ((nI_leI (a := 3) (b := k) (by omega) (by omega)).mpr h9)
      omega
  | succ d ih =>
    intro k  hk  F1 H locs ls hm hl
    refine lv_iload_n hx hb dX9_isOn_4 rfl (lv_at hl 0 rfl) ?_
    refine lv_iconst (v := (nI 3)) hx hb dX9_isOn_5 (by decide) ?_
    refine lv_icmp_ge (tgt := 35) hx hb dX9_isOn_6 (by decide) (fun c1 => ?_) (fun c1 => ?_)
    · have c1 := (nI_leI (a := 3) (b := k) (by omega) (by omega)).mp c1
      omega
    · have c1 : ¬ 3 ≤ k := fun h9 => c1 ((nI_leI (a := 3) (b := k) (by omega) (by omega)).mpr h9)
      refine lv_iload_n hx hb dX9_isOn_9 rfl (lv_at hl 1 rfl) ?_
      refine lv_if_ne (tgt := 23) hx hb dX9_isOn_10 (by decide) (fun c2 => ?_) (fun c2 => ?_)
      · have c2 := fw_b1 c2
        refine lv_iconst (v := (nI 1)) hx hb dX9_isOn_23 (by decide) ?_
        refine lv_goto (tgt := 28) hx hb dX9_isOn_24 (by decide) ?_
        refine fw_top (x' := (fw_b (rf_on f cu (k + 1)))) (by rw [rf_on_s, c2]; rfl) ?_
        refine lv_istore_n (lv' := [(2, .int (fw_b (rf_on f cu (k + 1)))), (3, .int (nI k)), (0, .ref y), (1, .int cu)]) hx hb dX9_isOn_28 rfl hl (by decide) rfl (fun ls hl => ?_)
        refine lv_iinc (v := (nI (k + 1))) (lv' := [(3, .int (nI (k + 1))), (2, .int (fw_b (rf_on f cu (k + 1)))), (0, .ref y), (1, .int cu)]) hx hb dX9_isOn_29 hl (k := 1) rfl (nI_1 _) (by decide) rfl (fun ls hl => ?_)
        refine lv_goto (tgt := 4) hx hb dX9_isOn_32 (by decide) ?_
        exact ih (k + 1)  (by omega)  _ _ _ _ hm (lv_sub hl [0, 1, 2, 3] rfl)
      · have c2 := fw_b0 c2
        refine lv_aload_n hx hb dX9_isOn_13 rfl (lv_at hl 2 rfl) ?_
        refine mm_get hx hb hT hown hz hm 22 (by decide) wd_757 rfl (v := .ref (ad 22)) rfl dX9_isOn_14 ?_
        refine lv_iload_n hx hb dX9_isOn_17 rfl (lv_at hl 0 rfl) ?_
        refine mm_ald hx hb hz hm 22 (k) (by decide) rfl (show k < 3 by omega) dX9_isOn_18 ?_
        refine lv_iload_n hx hb dX9_isOn_19 rfl (lv_at hl 3 rfl) ?_
        refine lv_icmp_ne (tgt := 27) hx hb dX9_isOn_20 (by decide) (fun c3 => ?_) (fun c3 => ?_)
        · refine lv_iconst (v := (nI 0)) hx hb dX9_isOn_27 (by decide) ?_
          refine fw_top (x' := (fw_b (rf_on f cu (k + 1)))) (by rw [rf_on_s, c2, decide_eq_false c3]; rfl) ?_
          refine lv_istore_n (lv' := [(2, .int (fw_b (rf_on f cu (k + 1)))), (3, .int (nI k)), (0, .ref y), (1, .int cu)]) hx hb dX9_isOn_28 rfl hl (by decide) rfl (fun ls hl => ?_)
          refine lv_iinc (v := (nI (k + 1))) (lv' := [(3, .int (nI (k + 1))), (2, .int (fw_b (rf_on f cu (k + 1)))), (0, .ref y), (1, .int cu)]) hx hb dX9_isOn_29 hl (k := 1) rfl (nI_1 _) (by decide) rfl (fun ls hl => ?_)
          refine lv_goto (tgt := 4) hx hb dX9_isOn_32 (by decide) ?_
          exact ih (k + 1)  (by omega)  _ _ _ _ hm (lv_sub hl [0, 1, 2, 3] rfl)
        · refine lv_iconst (v := (nI 1)) hx hb dX9_isOn_23 (by decide) ?_
          refine lv_goto (tgt := 28) hx hb dX9_isOn_24 (by decide) ?_
          refine fw_top (x' := (fw_b (rf_on f cu (k + 1)))) (by rw [rf_on_s, c2, decide_eq_true c3]; rfl) ?_
          refine lv_istore_n (lv' := [(2, .int (fw_b (rf_on f cu (k + 1)))), (3, .int (nI k)), (0, .ref y), (1, .int cu)]) hx hb dX9_isOn_28 rfl hl (by decide) rfl (fun ls hl => ?_)
          refine lv_iinc (v := (nI (k + 1))) (lv' := [(3, .int (nI (k + 1))), (2, .int (fw_b (rf_on f cu (k + 1)))), (0, .ref y), (1, .int cu)]) hx hb dX9_isOn_29 hl (k := 1) rfl (nI_1 _) (by decide) rfl (fun ls hl => ?_)
          refine lv_goto (tgt := 4) hx hb dX9_isOn_32 (by decide) ?_
          exact ih (k + 1)  (by omega)  _ _ _ _ hm (lv_sub hl [0, 1, 2, 3] rfl)
set_option maxHeartbeats 4000000 in
set_option maxRecDepth 100000 in
theorem c_X9_toCut (l : Launch) (G : fw_G) (F : fw_F) (sz y : Nat) (ad : Nat → Nat) (sc : mm_S) (f : mm_A) (nJ : Nat) (o : Int32) (hW : mm_W G F y ad sc f) (e16 : sc 16 = nI nJ) (hJ : nJ ≤ 96) : mm_Ci l G F sz y ad yX9_toCut cX9_toCut 4 (.int) { frames := 0, cells := 0, slots := 0, locals := 0 } [.int o] (fun r sc1 f1 => sc1 = sc ∧ f1 = f ∧ r = nI (rf_left f o nJ)) := by
  refine fw_met (lv := [(0, .ref y), (1, .int o)]) (by decide +kernel) (Nat.le_of_ble_eq_true rfl) rfl ?_
  intro A hA p e s m below meth c ls hx hb hml hown hT hr hlk hin hz hsz hw hAn hl
  rw [← hA]
  have hown : s.vm.findClass RX9 = some m.cls := hown
  have C : CallFix p m c cX9_toCut 4 s _ fw_tb RX9 := ⟨hx, hb, hml, hown, hT⟩
  have hm : mm_M G A s F y ad sc f F s.heap [] := ⟨hw, hW, mm_keep.rf⟩
  refine lv_iconst (v := (nI 0)) hx hb dX9_toCut_0 (by decide) ?_
  refine lv_istore_n (lv' := [(2, .int (nI 0)), (0, .ref y), (1, .int o)]) hx hb dX9_toCut_1 rfl hl (by decide) rfl (fun ls hl => ?_)
  refine lv_iconst (v := (nI 0)) hx hb dX9_toCut_2 (by decide) ?_
  refine lv_istore_n (lv' := [(3, .int (nI 0)), (2, .int (nI 0)), (0, .ref y), (1, .int o)]) hx hb dX9_toCut_3 rfl hl (by decide) rfl (fun ls hl => ?_)
  suffices hlp : ∀ (d k : Nat), k + d = nJ →  ∀ (F1 : fw_F) (H : Heap) (locs : List Loc) (ls : Array Slot), mm_M G A s F y ad sc f F1 H locs → lv_has ls 4 [(3, .int (nI k)), (2, .int (nI (rf_left f o k))), (0, .ref y), (1, .int o)] → W p l e { frames := 0, cells := 0, slots := 0, locals := 0 } s m ([.ref y, .int o] : List Value).toArray below meth c H locs 0 0 (MQ below (va_Qi (mm_post G y ad F (fun r sc1 f1 => sc1 = sc ∧ f1 = f ∧ r = nI (rf_left f o nJ))) (fw_B G A) A) ([.ref y, .int o] : List Value).toArray s 0 0 A) (F0 m 4 ls []) by
    exact hlp nJ 0  (Nat.zero_add _)  _ _ _ _ hm (lv_sub hl [0, 1, 2, 3] rfl)
  intro d
  induction d with
  | zero =>
    intro k  hk  F1 H locs ls hm hl
    refine lv_iload_n hx hb dX9_toCut_4 rfl (lv_at hl 0 rfl) ?_
    refine lv_aload_n hx hb dX9_toCut_5 rfl (lv_at hl 2 rfl) ?_
    refine mm_get hx hb hT hown hz hm 16 (by decide) wd_751 rfl (v := .int (sc 16)) rfl dX9_toCut_6 ?_
    refine fw_top (e16) ?_
    refine lv_icmp_ge (tgt := 47) hx hb dX9_toCut_9 (by decide) (fun c1 => ?_) (fun c1 => ?_)
    · have c1 := (nI_leI (a := nJ) (b := k) (by omega) (by omega)).mp c1
      refine lv_iload_n hx hb dX9_toCut_47 rfl (lv_at hl 1 rfl) ?_
      exact mm_iret hx hb hr hlk (Nat.le_of_ble_eq_true rfl) (Nat.le_of_ble_eq_true rfl) hm dX9_toCut_48 (⟨rfl, rfl, by rw [show k = nJ by omega]⟩)
    · have c1 : ¬ nJ ≤ k := fun h9 => c1 ((nI_leI (a := nJ) (b := k) (by omega) (by omega)).mpr h9)
      omega
  | succ d ih =>
    intro k  hk  F1 H locs ls hm hl
    refine lv_iload_n hx hb dX9_toCut_4 rfl (lv_at hl 0 rfl) ?_
    refine lv_aload_n hx hb dX9_toCut_5 rfl (lv_at hl 2 rfl) ?_
    refine mm_get hx hb hT hown hz hm 16 (by decide) wd_751 rfl (v := .int (sc 16)) rfl dX9_toCut_6 ?_
    refine fw_top (e16) ?_
    refine lv_icmp_ge (tgt := 47) hx hb dX9_toCut_9 (by decide) (fun c1 => ?_) (fun c1 => ?_)
    · have c1 := (nI_leI (a := nJ) (b := k) (by omega) (by omega)).mp c1
      omega
    · have c1 : ¬ nJ ≤ k := fun h9 => c1 ((nI_leI (a := nJ) (b := k) (by omega) (by omega)).mpr h9)
      refine lv_iload_n hx hb dX9_toCut_12 rfl (lv_at hl 1 rfl) ?_
      refine lv_aload_n hx hb dX9_toCut_13 rfl (lv_at hl 2 rfl) ?_
      refine mm_get hx hb hT hown hz hm 17 (by decide) wd_752 rfl (v := .ref (ad 17)) rfl dX9_toCut_14 ?_
      refine lv_iload_n hx hb dX9_toCut_17 rfl (lv_at hl 0 rfl) ?_
      refine mm_ald hx hb hz hm 17 (k) (by decide) rfl (show k < 96 by omega) dX9_toCut_18 ?_
      refine lv_iload_n hx hb dX9_toCut_19 rfl (lv_at hl 3 rfl) ?_
      refine lv_icmp_ne (tgt := 38) hx hb dX9_toCut_20 (by decide) (fun c2 => ?_) (fun c2 => ?_)
      · refine lv_iconst (v := (nI 0)) hx hb dX9_toCut_38 (by decide) ?_
        refine lv_iadd hx hb dX9_toCut_39 ?_
        refine fw_top (nI_add _ _) ?_
        refine fw_top (x' := (nI (rf_left f o (k + 1)))) (by rw [rf_left_s, if_neg (fun h => c2 h.1)]) ?_
        refine lv_istore_n (lv' := [(2, .int (nI (rf_left f o (k + 1)))), (3, .int (nI k)), (0, .ref y), (1, .int o)]) hx hb dX9_toCut_40 rfl hl (by decide) rfl (fun ls hl => ?_)
        refine lv_iinc (v := (nI (k + 1))) (lv' := [(3, .int (nI (k + 1))), (2, .int (nI (rf_left f o (k + 1)))), (0, .ref y), (1, .int o)]) hx hb dX9_toCut_41 hl (k := 1) rfl (nI_1 _) (by decide) rfl (fun ls hl => ?_)
        refine lv_goto (tgt := 4) hx hb dX9_toCut_44 (by decide) ?_
        exact ih (k + 1)  (by omega)  _ _ _ _ hm (lv_sub hl [0, 1, 2, 3] rfl)
      · refine lv_aload_n hx hb dX9_toCut_23 rfl (lv_at hl 2 rfl) ?_
        refine mm_get hx hb hT hown hz hm 20 (by decide) wd_755 rfl (v := .ref (ad 20)) rfl dX9_toCut_24 ?_
        refine lv_iload_n hx hb dX9_toCut_27 rfl (lv_at hl 0 rfl) ?_
        refine mm_ald hx hb hz hm 20 (k) (by decide) rfl (show k < 96 by omega) dX9_toCut_28 ?_
        refine lv_bipush (v := (-2)) hx hb dX9_toCut_29 (by decide) ?_
        refine lv_icmp_eq (tgt := 38) hx hb dX9_toCut_31 (by decide) (fun c3 => ?_) (fun c3 => ?_)
        · refine lv_iconst (v := (nI 0)) hx hb dX9_toCut_38 (by decide) ?_
          refine lv_iadd hx hb dX9_toCut_39 ?_
          refine fw_top (nI_add _ _) ?_
          refine fw_top (x' := (nI (rf_left f o (k + 1)))) (by rw [rf_left_s, if_neg (fun h => h.2 c3)]) ?_
          refine lv_istore_n (lv' := [(2, .int (nI (rf_left f o (k + 1)))), (3, .int (nI k)), (0, .ref y), (1, .int o)]) hx hb dX9_toCut_40 rfl hl (by decide) rfl (fun ls hl => ?_)
          refine lv_iinc (v := (nI (k + 1))) (lv' := [(3, .int (nI (k + 1))), (2, .int (nI (rf_left f o (k + 1)))), (0, .ref y), (1, .int o)]) hx hb dX9_toCut_41 hl (k := 1) rfl (nI_1 _) (by decide) rfl (fun ls hl => ?_)
          refine lv_goto (tgt := 4) hx hb dX9_toCut_44 (by decide) ?_
          exact ih (k + 1)  (by omega)  _ _ _ _ hm (lv_sub hl [0, 1, 2, 3] rfl)
        · refine lv_iconst (v := (nI 1)) hx hb dX9_toCut_34 (by decide) ?_
          refine lv_goto (tgt := 39) hx hb dX9_toCut_35 (by decide) ?_
          refine lv_iadd hx hb dX9_toCut_39 ?_
          refine fw_top (nI_add _ _) ?_
          refine fw_top (x' := (nI (rf_left f o (k + 1)))) (by rw [rf_left_s, if_pos ⟨c2, c3⟩]) ?_
          refine lv_istore_n (lv' := [(2, .int (nI (rf_left f o (k + 1)))), (3, .int (nI k)), (0, .ref y), (1, .int o)]) hx hb dX9_toCut_40 rfl hl (by decide) rfl (fun ls hl => ?_)
          refine lv_iinc (v := (nI (k + 1))) (lv' := [(3, .int (nI (k + 1))), (2, .int (nI (rf_left f o (k + 1)))), (0, .ref y), (1, .int o)]) hx hb dX9_toCut_41 hl (k := 1) rfl (nI_1 _) (by decide) rfl (fun ls hl => ?_)
          refine lv_goto (tgt := 4) hx hb dX9_toCut_44 (by decide) ?_
          exact ih (k + 1)  (by omega)  _ _ _ _ hm (lv_sub hl [0, 1, 2, 3] rfl)
set_option maxHeartbeats 4000000 in
set_option maxRecDepth 100000 in
theorem c_X9_waiting (l : Launch) (G : fw_G) (F : fw_F) (sz y : Nat) (ad : Nat → Nat) (sc : mm_S) (f : mm_A) (nJ : Nat) (hW : mm_W G F y ad sc f) (e16 : sc 16 = nI nJ) (hJ : nJ ≤ 96) : mm_Ci l G F sz y ad yX9_waiting cX9_waiting 3 (.int) { frames := 0, cells := 0, slots := 0, locals := 0 } [] (fun r sc1 f1 => sc1 = va_up sc 0 (nI 0) ∧ f1 = f ∧ r = nI (rf_wait f nJ)) := by
  refine fw_met (lv := [(0, .ref y)]) (by decide +kernel) (Nat.le_of_ble_eq_true rfl) rfl ?_
  intro A hA p e s m below meth c ls hx hb hml hown hT hr hlk hin hz hsz hw hAn hl
  rw [← hA]
  have hown : s.vm.findClass RX9 = some m.cls := hown
  have C : CallFix p m c cX9_waiting 3 s _ fw_tb RX9 := ⟨hx, hb, hml, hown, hT⟩
  have hm : mm_M G A s F y ad sc f F s.heap [] := ⟨hw, hW, mm_keep.rf⟩
  refine lv_aload_n hx hb dX9_waiting_0 rfl (lv_at hl 0 rfl) ?_
  refine lv_iconst (v := (nI 0)) hx hb dX9_waiting_1 (by decide) ?_
  refine mm_put hx hb hT hown hz hm 0 (by decide) wd_735 dX9_waiting_2 (fun F1 H locs hm => ?_)
  refine lv_iconst (v := (nI 0)) hx hb dX9_waiting_5 (by decide) ?_
  refine lv_istore_n (lv' := [(1, .int (nI 0)), (0, .ref y)]) hx hb dX9_waiting_6 rfl hl (by decide) rfl (fun ls hl => ?_)
  refine lv_iconst (v := (nI 0)) hx hb dX9_waiting_7 (by decide) ?_
  refine lv_istore_n (lv' := [(2, .int (nI 0)), (1, .int (nI 0)), (0, .ref y)]) hx hb dX9_waiting_8 rfl hl (by decide) rfl (fun ls hl => ?_)
  suffices hlp : ∀ (d k : Nat), k + d = nJ →  ∀ (F1 : fw_F) (H : Heap) (locs : List Loc) (ls : Array Slot), mm_M G A s F y ad (va_up sc 0 (nI 0)) f F1 H locs → lv_has ls 3 [(2, .int (nI k)), (1, .int (nI (rf_wait f k))), (0, .ref y)] → W p l e { frames := 0, cells := 0, slots := 0, locals := 0 } s m ([.ref y] : List Value).toArray below meth c H locs 0 0 (MQ below (va_Qi (mm_post G y ad F (fun r sc1 f1 => sc1 = va_up sc 0 (nI 0) ∧ f1 = f ∧ r = nI (rf_wait f nJ))) (fw_B G A) A) ([.ref y] : List Value).toArray s 0 0 A) (F0 m 9 ls []) by
    exact hlp nJ 0  (Nat.zero_add _)  _ _ _ _ hm (lv_sub hl [0, 1, 2] rfl)
  intro d
  induction d with
  | zero =>
    intro k  hk  F1 H locs ls hm hl
    refine lv_iload_n hx hb dX9_waiting_9 rfl (lv_at hl 0 rfl) ?_
    refine lv_aload_n hx hb dX9_waiting_10 rfl (lv_at hl 2 rfl) ?_
    refine mm_get hx hb hT hown hz hm 16 (by decide) wd_751 rfl (v := .int ((va_up sc 0 (nI 0)) 16)) rfl dX9_waiting_11 ?_
    refine fw_top (e16) ?_
    refine lv_icmp_ge (tgt := 41) hx hb dX9_waiting_14 (by decide) (fun c1 => ?_) (fun c1 => ?_)
    · have c1 := (nI_leI (a := nJ) (b := k) (by omega) (by omega)).mp c1
      refine lv_iload_n hx hb dX9_waiting_41 rfl (lv_at hl 1 rfl) ?_
      exact mm_iret hx hb hr hlk (Nat.le_of_ble_eq_true rfl) (Nat.le_of_ble_eq_true rfl) hm dX9_waiting_42 (⟨rfl, rfl, by rw [show k = nJ by omega]⟩)
    · have c1 : ¬ nJ ≤ k := fun h9 => c1 ((nI_leI (a := nJ) (b := k) (by omega) (by omega)).mpr h9)
      omega
  | succ d ih =>
    intro k  hk  F1 H locs ls hm hl
    refine lv_iload_n hx hb dX9_waiting_9 rfl (lv_at hl 0 rfl) ?_
    refine lv_aload_n hx hb dX9_waiting_10 rfl (lv_at hl 2 rfl) ?_
    refine mm_get hx hb hT hown hz hm 16 (by decide) wd_751 rfl (v := .int ((va_up sc 0 (nI 0)) 16)) rfl dX9_waiting_11 ?_
    refine fw_top (e16) ?_
    refine lv_icmp_ge (tgt := 41) hx hb dX9_waiting_14 (by decide) (fun c1 => ?_) (fun c1 => ?_)
    · have c1 := (nI_leI (a := nJ) (b := k) (by omega) (by omega)).mp c1
      omega
    · have c1 : ¬ nJ ≤ k := fun h9 => c1 ((nI_leI (a := nJ) (b := k) (by omega) (by omega)).mpr h9)
      refine lv_iload_n hx hb dX9_waiting_17 rfl (lv_at hl 1 rfl) ?_
      refine lv_aload_n hx hb dX9_waiting_18 rfl (lv_at hl 2 rfl) ?_
      refine mm_get hx hb hT hown hz hm 20 (by decide) wd_755 rfl (v := .ref (ad 20)) rfl dX9_waiting_19 ?_
      refine lv_iload_n hx hb dX9_waiting_22 rfl (lv_at hl 0 rfl) ?_
      refine mm_ald hx hb hz hm 20 (k) (by decide) rfl (show k < 96 by omega) dX9_waiting_23 ?_
      refine lv_iconst (v := (-1)) hx hb dX9_waiting_24 (by decide) ?_
      refine lv_icmp_ne (tgt := 32) hx hb dX9_waiting_25 (by decide) (fun c2 => ?_) (fun c2 => ?_)
      · refine lv_iconst (v := (nI 0)) hx hb dX9_waiting_32 (by decide) ?_
        refine lv_iadd hx hb dX9_waiting_33 ?_
        refine fw_top (nI_add _ _) ?_
        refine fw_top (x' := (nI (rf_wait f (k + 1)))) (by rw [rf_wait_s, if_neg c2]) ?_
        refine lv_istore_n (lv' := [(1, .int (nI (rf_wait f (k + 1)))), (2, .int (nI k)), (0, .ref y)]) hx hb dX9_waiting_34 rfl hl (by decide) rfl (fun ls hl => ?_)
        refine lv_iinc (v := (nI (k + 1))) (lv' := [(2, .int (nI (k + 1))), (1, .int (nI (rf_wait f (k + 1)))), (0, .ref y)]) hx hb dX9_waiting_35 hl (k := 1) rfl (nI_1 _) (by decide) rfl (fun ls hl => ?_)
        refine lv_goto (tgt := 9) hx hb dX9_waiting_38 (by decide) ?_
        exact ih (k + 1)  (by omega)  _ _ _ _ hm (lv_sub hl [0, 1, 2] rfl)
      · refine lv_iconst (v := (nI 1)) hx hb dX9_waiting_28 (by decide) ?_
        refine lv_goto (tgt := 33) hx hb dX9_waiting_29 (by decide) ?_
        refine lv_iadd hx hb dX9_waiting_33 ?_
        refine fw_top (nI_add _ _) ?_
        refine fw_top (x' := (nI (rf_wait f (k + 1)))) (by rw [rf_wait_s, if_pos c2]) ?_
        refine lv_istore_n (lv' := [(1, .int (nI (rf_wait f (k + 1)))), (2, .int (nI k)), (0, .ref y)]) hx hb dX9_waiting_34 rfl hl (by decide) rfl (fun ls hl => ?_)
        refine lv_iinc (v := (nI (k + 1))) (lv' := [(2, .int (nI (k + 1))), (1, .int (nI (rf_wait f (k + 1)))), (0, .ref y)]) hx hb dX9_waiting_35 hl (k := 1) rfl (nI_1 _) (by decide) rfl (fun ls hl => ?_)
        refine lv_goto (tgt := 9) hx hb dX9_waiting_38 (by decide) ?_
        exact ih (k + 1)  (by omega)  _ _ _ _ hm (lv_sub hl [0, 1, 2] rfl)
set_option maxHeartbeats 4000000 in
set_option maxRecDepth 100000 in
theorem c_X9_lacks (l : Launch) (G : fw_G) (F : fw_F) (sz y : Nat) (ad : Nat → Nat) (sc : mm_S) (f : mm_A) (nC : Nat) (mo te : Int32) (hW : mm_W G F y ad sc f) (e1 : sc 1 = nI nC) (hC : nC ≤ 10) : mm_Ci l G F sz y ad yX9_lacks cX9_lacks 3 (.int) { frames := 2, cells := 0, slots := 0, locals := 46 } [.int mo, .int te] (fun r sc1 f1 => sc1 = sc ∧ f1 = f ∧ r = fw_b (decide (rf_cut f nC mo te = -1))) := by
  refine fw_met (lv := [(0, .ref y), (1, .int mo), (2, .int te)]) (by decide +kernel) (Nat.le_of_ble_eq_true rfl) rfl ?_
  intro A hA p e s m below meth c ls hx hb hml hown hT hr hlk hin hz hsz hw hAn hl
  rw [← hA]
  have hown : s.vm.findClass RX9 = some m.cls := hown
  have C : CallFix p m c cX9_lacks 3 s _ fw_tb RX9 := ⟨hx, hb, hml, hown, hT⟩
  have hm : mm_M G A s F y ad sc f F s.heap [] := ⟨hw, hW, mm_keep.rf⟩
  refine lv_aload_n hx hb dX9_lacks_0 rfl (lv_at hl 0 rfl) ?_
  refine lv_iload_n hx hb dX9_lacks_1 rfl (lv_at hl 1 rfl) ?_
  refine lv_iload_n hx hb dX9_lacks_2 rfl (lv_at hl 2 rfl) ?_
  refine mm_calli (As := [.int mo, .int te]) (rest := []) C hz hm (c_X9_cutter l G _ _ y ad _ _ nC mo te hm.2.1 e1 hC) wd_828 yVX9_cutter ⟨Nat.le_of_ble_eq_true rfl, Nat.le_of_ble_eq_true rfl⟩ rfl hl.1 rfl (Nat.le_of_ble_eq_true rfl) dX9_lacks_3 ⟨Nat.le_of_ble_eq_true rfl, Nat.le_of_ble_eq_true rfl⟩ (fun r sc1 f1 F1 H locs hm hp => ?_)
  refine W.widen (k := 0) (n := 0) (Nat.le_of_ble_eq_true rfl) (Nat.le_of_ble_eq_true rfl) ?_
  obtain ⟨h7, h8, h9⟩ := hp
  rw [h7, h8] at hm
  subst h9
  refine lv_iconst (v := (-1)) hx hb dX9_lacks_6 (by decide) ?_
  refine lv_icmp_ne (tgt := 14) hx hb dX9_lacks_7 (by decide) (fun c1 => ?_) (fun c1 => ?_)
  · refine lv_iconst (v := (nI 0)) hx hb dX9_lacks_14 (by decide) ?_
    exact mm_iret hx hb hr hlk (Nat.le_of_ble_eq_true rfl) (Nat.le_of_ble_eq_true rfl) hm dX9_lacks_15 (⟨rfl, rfl, by rw [decide_eq_false c1]; rfl⟩)
  · refine lv_iconst (v := (nI 1)) hx hb dX9_lacks_10 (by decide) ?_
    refine lv_goto (tgt := 15) hx hb dX9_lacks_11 (by decide) ?_
    exact mm_iret hx hb hr hlk (Nat.le_of_ble_eq_true rfl) (Nat.le_of_ble_eq_true rfl) hm dX9_lacks_15 (⟨rfl, rfl, by rw [decide_eq_true c1]; rfl⟩)
set_option maxHeartbeats 4000000 in
set_option maxRecDepth 100000 in
theorem c_X9_time (l : Launch) (G : fw_G) (F : fw_F) (sz y : Nat) (ad : Nat → Nat) (sc : mm_S) (f : mm_A) (hW : mm_W G F y ad sc f) : mm_Ci l G F sz y ad yX9_time cX9_time 1 (.int) { frames := 0, cells := 0, slots := 0, locals := 0 } [] (fun r sc1 f1 => sc1 = va_up sc 0 (nI 0) ∧ f1 = f ∧ r = sc 21) := by
  refine fw_met (lv := [(0, .ref y)]) (by decide +kernel) (Nat.le_of_ble_eq_true rfl) rfl ?_
  intro A hA p e s m below meth c ls hx hb hml hown hT hr hlk hin hz hsz hw hAn hl
  rw [← hA]
  have hown : s.vm.findClass RX9 = some m.cls := hown
  have C : CallFix p m c cX9_time 1 s _ fw_tb RX9 := ⟨hx, hb, hml, hown, hT⟩
  have hm : mm_M G A s F y ad sc f F s.heap [] := ⟨hw, hW, mm_keep.rf⟩
  refine lv_aload_n hx hb dX9_time_0 rfl (lv_at hl 0 rfl) ?_
  refine lv_iconst (v := (nI 0)) hx hb dX9_time_1 (by decide) ?_
  refine mm_put hx hb hT hown hz hm 0 (by decide) wd_735 dX9_time_2 (fun F1 H locs hm => ?_)
  refine lv_aload_n hx hb dX9_time_5 rfl (lv_at hl 0 rfl) ?_
  refine mm_get hx hb hT hown hz hm 21 (by decide) wd_756 rfl (v := .int (sc 21)) rfl dX9_time_6 ?_
  exact mm_iret hx hb hr hlk (Nat.le_of_ble_eq_true rfl) (Nat.le_of_ble_eq_true rfl) hm dX9_time_9 (⟨rfl, rfl, rfl⟩)
set_option maxHeartbeats 4000000 in
set_option maxRecDepth 100000 in
theorem c_X9_scrap (l : Launch) (G : fw_G) (F : fw_F) (sz y : Nat) (ad : Nat → Nat) (sc : mm_S) (f : mm_A) (hW : mm_W G F y ad sc f) : mm_Ci l G F sz y ad yX9_scrap cX9_scrap 2 (.int) { frames := 0, cells := 0, slots := 0, locals := 0 } [] (fun r sc1 f1 => sc1 = va_up (va_up sc 0 (nI 0)) 5 (nI 0) ∧ f1 = f ∧ r = sc 5) := by
  refine fw_met (lv := [(0, .ref y)]) (by decide +kernel) (Nat.le_of_ble_eq_true rfl) rfl ?_
  intro A hA p e s m below meth c ls hx hb hml hown hT hr hlk hin hz hsz hw hAn hl
  rw [← hA]
  have hown : s.vm.findClass RX9 = some m.cls := hown
  have C : CallFix p m c cX9_scrap 2 s _ fw_tb RX9 := ⟨hx, hb, hml, hown, hT⟩
  have hm : mm_M G A s F y ad sc f F s.heap [] := ⟨hw, hW, mm_keep.rf⟩
  refine lv_aload_n hx hb dX9_scrap_0 rfl (lv_at hl 0 rfl) ?_
  refine lv_iconst (v := (nI 0)) hx hb dX9_scrap_1 (by decide) ?_
  refine mm_put hx hb hT hown hz hm 0 (by decide) wd_735 dX9_scrap_2 (fun F1 H locs hm => ?_)
  refine lv_aload_n hx hb dX9_scrap_5 rfl (lv_at hl 0 rfl) ?_
  refine mm_get hx hb hT hown hz hm 5 (by decide) wd_740 rfl (v := .int (sc 5)) rfl dX9_scrap_6 ?_
  refine lv_istore_n (lv' := [(1, .int (sc 5)), (0, .ref y)]) hx hb dX9_scrap_9 rfl hl (by decide) rfl (fun ls hl => ?_)
  refine lv_aload_n hx hb dX9_scrap_10 rfl (lv_at hl 1 rfl) ?_
  refine lv_iconst (v := (nI 0)) hx hb dX9_scrap_11 (by decide) ?_
  refine mm_put hx hb hT hown hz hm 5 (by decide) wd_740 dX9_scrap_12 (fun F1 H locs hm => ?_)
  refine lv_iload_n hx hb dX9_scrap_15 rfl (lv_at hl 0 rfl) ?_
  exact mm_iret hx hb hr hlk (Nat.le_of_ble_eq_true rfl) (Nat.le_of_ble_eq_true rfl) hm dX9_scrap_16 (⟨rfl, rfl, rfl⟩)
