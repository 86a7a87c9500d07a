/-! The reference's methods: reads. -/
def fw_b (b : Bool) : Int32 := if b then 1 else 0
theorem fw_b0 {b : Bool} (h : fw_b b = 0) : b = false := by cases b <;> first | rfl | exact absurd h (by decide)
theorem fw_b1 {b : Bool} (h : ¬ fw_b b = 0) : b = true := by cases b <;> first | rfl | exact absurd rfl h
theorem fw_b01 (b : Bool) : fw_b b = 0 ∨ fw_b b = 1 := by cases b <;> first | exact Or.inl rfl | exact Or.inr rfl
def rf_in (v lo hi : Int32) : Bool := decide (lo ≤ v) && decide (v ≤ hi)
theorem rf_in_t {v lo hi : Int32} : rf_in v lo hi = true ↔ lo ≤ v ∧ v ≤ hi := by simp [rf_in]
theorem rf_in_f1 {v lo hi : Int32} (h : v < lo) : rf_in v lo hi = false := by
  cases q : rf_in v lo hi with
  | false => rfl
  | true => exact absurd (rf_in_t.mp q).1 (Int32.not_le.mpr h)
theorem rf_in_f2 {v lo hi : Int32} (h : hi < v) : rf_in v lo hi = false := by
  cases q : rf_in v lo hi with
  | false => rfl
  | true => exact absurd (rf_in_t.mp q).2 (Int32.not_le.mpr h)
theorem fw_m1 (x : Int32) : x + (-1) = x - nI 1 := by rw [show nI 1 = (1 : Int32) from rfl, Int32.sub_eq_add_neg]
/-- t is a number below n -/
def rf_ix (t : Int32) (n : Nat) : Bool := rf_in t (nI 0) (nI n - nI 1)
/-- the reference's lowest cutter, from the cutters below j, if 'its' were those above -/
def rf_cutL (f : mm_A) (mo te : Int32) : Nat → Int32 → Int32
  | 0, its => its
  | j + 1, its => rf_cutL f mo te j (if f 2 j = mo ∧ rf_in te (f 3 j) (f 4 j) = true then nI j else its)
def rf_cut (f : mm_A) (n : Nat) (mo te : Int32) : Int32 := rf_cutL f mo te n (-1)
set_option maxHeartbeats 4000000 in
set_option maxRecDepth 100000 in
/-- in(v, low, high) -/
theorem c_X9_in (l : Launch) (G : fw_G) (F : fw_F) (sz : Nat) (v lo hi : Int32) : fw_Si l G F sz yX9_in cX9_in 3 (.boolean) { frames := 0, cells := 0, slots := 0, locals := 0 } [.int v, .int lo, .int hi] (fun r => r = fw_b (rf_in v lo hi)) := by
  refine fw_met (lv := [(0, .int v), (1, .int lo), (2, .int hi)]) (by decide +kernel) (Nat.le_of_ble_eq_true rfl) rfl ?_
  intro A hA p e s m below meth c ls hx hb hml hown hT hr hlk hin hz hsz hw hAn hl
  rw [← hA]
  have hown : s.vm.findClass RX9 = some m.cls := hown
  have C : CallFix p m c cX9_in 3 s _ fw_tb RX9 := ⟨hx, hb, hml, hown, hT⟩
  refine lv_iload_n hx hb dX9_in_0 rfl (lv_at hl 0 rfl) ?_
  refine lv_iload_n hx hb dX9_in_1 rfl (lv_at hl 1 rfl) ?_
  refine lv_icmp_lt (tgt := 14) hx hb dX9_in_2 (by decide) (fun c => ?_) (fun c => ?_)
  · refine lv_iconst (v := (nI 0)) hx hb dX9_in_14 (by decide) ?_
    exact fw_zret hx hb hr (by decide) hlk (Nat.le_of_ble_eq_true rfl) (Nat.le_of_ble_eq_true rfl) hw dX9_in_15 ⟨rfl, by rw [rf_in_f1 c]; rfl⟩
  · refine lv_iload_n hx hb dX9_in_5 rfl (lv_at hl 0 rfl) ?_
    refine lv_iload_n hx hb dX9_in_6 rfl (lv_at hl 2 rfl) ?_
    refine lv_icmp_gt (tgt := 14) hx hb dX9_in_7 (by decide) (fun c2 => ?_) (fun c2 => ?_)
    · refine lv_iconst (v := (nI 0)) hx hb dX9_in_14 (by decide) ?_
      exact fw_zret hx hb hr (by decide) hlk (Nat.le_of_ble_eq_true rfl) (Nat.le_of_ble_eq_true rfl) hw dX9_in_15 ⟨rfl, by rw [rf_in_f2 c2]; rfl⟩
    · refine lv_iconst (v := (nI 1)) hx hb dX9_in_10 (by decide) ?_
      refine lv_goto (tgt := 15) hx hb dX9_in_11 (by decide) ?_
      exact fw_zret hx hb hr (by decide) hlk (Nat.le_of_ble_eq_true rfl) (Nat.le_of_ble_eq_true rfl) hw dX9_in_15 ⟨rfl, by rw [rf_in_t.mpr ⟨Int32.not_lt.mp c, Int32.not_lt.mp c2⟩]; rfl⟩
set_option maxHeartbeats 4000000 in
set_option maxRecDepth 100000 in
theorem c_X9_thrown (l : Launch) (G : fw_G) (F : fw_F) (sz y : Nat) (ad : Nat → Nat) (sc : mm_S) (f : mm_A) (hW : mm_W G F y ad sc f) : mm_Ci l G F sz y ad yX9_thrown cX9_thrown 1 (.int) { frames := 0, cells := 0, slots := 0, locals := 0 } [] (fun r sc1 f1 => sc1 = sc ∧ f1 = f ∧ r = sc 0) := by
  refine fw_met (lv := [(0, .ref y)]) (by decide +kernel) (Nat.le_of_ble_eq_true rfl) rfl ?_
  intro A hA p e s m below meth c ls hx hb hml hown hT hr hlk hin hz hsz hw hAn hl
  rw [← hA]
  have hown : s.vm.findClass RX9 = some m.cls := hown
  have C : CallFix p m c cX9_thrown 1 s _ fw_tb RX9 := ⟨hx, hb, hml, hown, hT⟩
  have hm : mm_M G A s F y ad sc f F s.heap [] := ⟨hw, hW, mm_keep.rf⟩
  refine lv_aload_n hx hb dX9_thrown_0 rfl (lv_at hl 0 rfl) ?_
  refine mm_get hx hb hT hown hz hm 0 (by decide) wd_735 rfl (v := .int (sc 0)) rfl dX9_thrown_1 ?_
  exact mm_iret hx hb hr hlk (Nat.le_of_ble_eq_true rfl) (Nat.le_of_ble_eq_true rfl) hm dX9_thrown_4 (⟨rfl, rfl, rfl⟩)
set_option maxHeartbeats 4000000 in
set_option maxRecDepth 100000 in
theorem c_X9_isTrain (l : Launch) (G : fw_G) (F : fw_F) (sz y : Nat) (ad : Nat → Nat) (sc : mm_S) (f : mm_A) (nT : Nat) (t : Int32) (hW : mm_W G F y ad sc f) (e7 : sc 7 = nI nT) : mm_Ci l G F sz y ad yX9_isTrain cX9_isTrain 2 (.boolean) { frames := 1, cells := 0, slots := 0, locals := 22 } [.int t] (fun r sc1 f1 => sc1 = va_up sc 0 (fw_b (!rf_ix t nT)) ∧ f1 = f ∧ r = fw_b (rf_ix t nT)) := by
  refine fw_met (lv := [(0, .ref y), (1, .int t)]) (by decide +kernel) (Nat.le_of_ble_eq_true rfl) rfl ?_
  intro A hA p e s m below meth c ls hx hb hml hown hT hr hlk hin hz hsz hw hAn hl
  rw [← hA]
  have hown : s.vm.findClass RX9 = some m.cls := hown
  have C : CallFix p m c cX9_isTrain 2 s _ fw_tb RX9 := ⟨hx, hb, hml, hown, hT⟩
  have hm : mm_M G A s F y ad sc f F s.heap [] := ⟨hw, hW, mm_keep.rf⟩
  refine lv_aload_n hx hb dX9_isTrain_0 rfl (lv_at hl 0 rfl) ?_
  refine lv_iload_n hx hb dX9_isTrain_1 rfl (lv_at hl 1 rfl) ?_
  refine lv_iconst (v := (nI 0)) hx hb dX9_isTrain_2 (by decide) ?_
  refine lv_aload_n hx hb dX9_isTrain_3 rfl (lv_at hl 0 rfl) ?_
  refine mm_get hx hb hT hown hz hm 7 (by decide) wd_742 rfl (v := .int (sc 7)) rfl dX9_isTrain_4 ?_
  refine fw_top (e7) ?_
  refine lv_iconst (v := (nI 1)) hx hb dX9_isTrain_7 (by decide) ?_
  refine lv_isub hx hb dX9_isTrain_8 ?_
  refine mm_calls (As := [.int t, .int (nI 0), .int ((nI nT) - (nI 1))]) (rest := [.ref y]) C hz hm (c_X9_in l G _ _ t (nI 0) (nI nT - nI 1)) wd_821 ySX9_in ⟨Nat.le_of_ble_eq_true rfl, Nat.le_of_ble_eq_true rfl⟩ rfl hl.1 rfl (Nat.le_of_ble_eq_true rfl) dX9_isTrain_9 ⟨Nat.le_of_ble_eq_true rfl, Nat.le_of_ble_eq_true rfl⟩ (fun r H locs hm hp => ?_)
  refine W.widen (k := 0) (n := 0) (Nat.le_of_ble_eq_true rfl) (Nat.le_of_ble_eq_true rfl) ?_
  subst hp
  refine lv_if_eq (tgt := 19) hx hb dX9_isTrain_12 (by decide) (fun c => ?_) (fun c => ?_)
  · have c := fw_b0 c
    refine lv_iconst (v := (nI 1)) hx hb dX9_isTrain_19 (by decide) ?_
    refine mm_put hx hb hT hown hz hm 0 (by decide) wd_735 dX9_isTrain_20 (fun F1 H locs hm => ?_)
    refine lv_aload_n hx hb dX9_isTrain_23 rfl (lv_at hl 0 rfl) ?_
    refine mm_get hx hb hT hown hz hm 0 (by decide) wd_735 rfl (v := .int (nI 1)) rfl dX9_isTrain_24 ?_
    refine lv_if_ne (tgt := 34) hx hb dX9_isTrain_27 (by decide) (fun c2 => ?_) (fun c2 => ?_)
    · have c2 : ¬ 1 = 0 := fun h9 => c2 ((nI_eq (a := 1) (b := 0) (by omega) (by omega)).mpr h9)
      refine lv_iconst (v := (nI 0)) hx hb dX9_isTrain_34 (by decide) ?_
      exact mm_zret hx hb hr (by decide) hlk (Nat.le_of_ble_eq_true rfl) (Nat.le_of_ble_eq_true rfl) hm dX9_isTrain_35 (⟨by rw [show rf_ix t nT = false from c]; rfl, rfl, by rw [show rf_ix t nT = false from c]; rfl⟩)
    · have c2 := (nI_eq (a := 1) (b := 0) (by omega) (by omega)).mp c2
      refine lv_iconst (v := (nI 1)) hx hb dX9_isTrain_30 (by decide) ?_
      refine lv_goto (tgt := 35) hx hb dX9_isTrain_31 (by decide) ?_
      exact absurd c2 (by decide)
  · have c := fw_b1 c
    refine lv_iconst (v := (nI 0)) hx hb dX9_isTrain_15 (by decide) ?_
    refine lv_goto (tgt := 20) hx hb dX9_isTrain_16 (by decide) ?_
    refine mm_put hx hb hT hown hz hm 0 (by decide) wd_735 dX9_isTrain_20 (fun F1 H locs hm => ?_)
    refine lv_aload_n hx hb dX9_isTrain_23 rfl (lv_at hl 0 rfl) ?_
    refine mm_get hx hb hT hown hz hm 0 (by decide) wd_735 rfl (v := .int (nI 0)) rfl dX9_isTrain_24 ?_
    refine lv_if_ne (tgt := 34) hx hb dX9_isTrain_27 (by decide) (fun c2 => ?_) (fun c2 => ?_)
    · have c2 : ¬ 0 = 0 := fun h9 => c2 ((nI_eq (a := 0) (b := 0) (by omega) (by omega)).mpr h9)
      refine lv_iconst (v := (nI 0)) hx hb dX9_isTrain_34 (by decide) ?_
      exact absurd c2 (by decide)
    · have c2 := (nI_eq (a := 0) (b := 0) (by omega) (by omega)).mp c2
      refine lv_iconst (v := (nI 1)) hx hb dX9_isTrain_30 (by decide) ?_
      refine lv_goto (tgt := 35) hx hb dX9_isTrain_31 (by decide) ?_
      exact mm_zret hx hb hr (by decide) hlk (Nat.le_of_ble_eq_true rfl) (Nat.le_of_ble_eq_true rfl) hm dX9_isTrain_35 (⟨by rw [show rf_ix t nT = true from c]; rfl, rfl, by rw [show rf_ix t nT = true from c]; rfl⟩)
set_option maxHeartbeats 4000000 in
set_option maxRecDepth 100000 in
theorem c_X9_isOrder (l : Launch) (G : fw_G) (F : fw_F) (sz y : Nat) (ad : Nat → Nat) (sc : mm_S) (f : mm_A) (nO : Nat) (t : Int32) (hW : mm_W G F y ad sc f) (e7 : sc 11 = nI nO) : mm_Ci l G F sz y ad yX9_isOrder cX9_isOrder 2 (.boolean) { frames := 1, cells := 0, slots := 0, locals := 22 } [.int t] (fun r sc1 f1 => sc1 = va_up sc 0 (fw_b (!rf_ix t nO)) ∧ f1 = f ∧ r = fw_b (rf_ix t nO)) := by
  refine fw_met (lv := [(0, .ref y), (1, .int t)]) (by decide +kernel) (Nat.le_of_ble_eq_true rfl) rfl ?_
  intro A hA p e s m below meth c ls hx hb hml hown hT hr hlk hin hz hsz hw hAn hl
  rw [← hA]
  have hown : s.vm.findClass RX9 = some m.cls := hown
  have C : CallFix p m c cX9_isOrder 2 s _ fw_tb RX9 := ⟨hx, hb, hml, hown, hT⟩
  have hm : mm_M G A s F y ad sc f F s.heap [] := ⟨hw, hW, mm_keep.rf⟩
  refine lv_aload_n hx hb dX9_isOrder_0 rfl (lv_at hl 0 rfl) ?_
  refine lv_iload_n hx hb dX9_isOrder_1 rfl (lv_at hl 1 rfl) ?_
  refine lv_iconst (v := (nI 0)) hx hb dX9_isOrder_2 (by decide) ?_
  refine lv_aload_n hx hb dX9_isOrder_3 rfl (lv_at hl 0 rfl) ?_
  refine mm_get hx hb hT hown hz hm 11 (by decide) wd_746 rfl (v := .int (sc 11)) rfl dX9_isOrder_4 ?_
  refine fw_top (e7) ?_
  refine lv_iconst (v := (nI 1)) hx hb dX9_isOrder_7 (by decide) ?_
  refine lv_isub hx hb dX9_isOrder_8 ?_
  refine mm_calls (As := [.int t, .int (nI 0), .int ((nI nO) - (nI 1))]) (rest := [.ref y]) C hz hm (c_X9_in l G _ _ t (nI 0) (nI nO - nI 1)) wd_821 ySX9_in ⟨Nat.le_of_ble_eq_true rfl, Nat.le_of_ble_eq_true rfl⟩ rfl hl.1 rfl (Nat.le_of_ble_eq_true rfl) dX9_isOrder_9 ⟨Nat.le_of_ble_eq_true rfl, Nat.le_of_ble_eq_true rfl⟩ (fun r H locs hm hp => ?_)
  refine W.widen (k := 0) (n := 0) (Nat.le_of_ble_eq_true rfl) (Nat.le_of_ble_eq_true rfl) ?_
  subst hp
  refine lv_if_eq (tgt := 19) hx hb dX9_isOrder_12 (by decide) (fun c => ?_) (fun c => ?_)
  · have c := fw_b0 c
    refine lv_iconst (v := (nI 1)) hx hb dX9_isOrder_19 (by decide) ?_
    refine mm_put hx hb hT hown hz hm 0 (by decide) wd_735 dX9_isOrder_20 (fun F1 H locs hm => ?_)
    refine lv_aload_n hx hb dX9_isOrder_23 rfl (lv_at hl 0 rfl) ?_
    refine mm_get hx hb hT hown hz hm 0 (by decide) wd_735 rfl (v := .int (nI 1)) rfl dX9_isOrder_24 ?_
    refine lv_if_ne (tgt := 34) hx hb dX9_isOrder_27 (by decide) (fun c2 => ?_) (fun c2 => ?_)
    · have c2 : ¬ 1 = 0 := fun h9 => c2 ((nI_eq (a := 1) (b := 0) (by omega) (by omega)).mpr h9)
      refine lv_iconst (v := (nI 0)) hx hb dX9_isOrder_34 (by decide) ?_
      exact mm_zret hx hb hr (by decide) hlk (Nat.le_of_ble_eq_true rfl) (Nat.le_of_ble_eq_true rfl) hm dX9_isOrder_35 (⟨by rw [show rf_ix t nO = false from c]; rfl, rfl, by rw [show rf_ix t nO = false from c]; rfl⟩)
    · have c2 := (nI_eq (a := 1) (b := 0) (by omega) (by omega)).mp c2
      refine lv_iconst (v := (nI 1)) hx hb dX9_isOrder_30 (by decide) ?_
      refine lv_goto (tgt := 35) hx hb dX9_isOrder_31 (by decide) ?_
      exact absurd c2 (by decide)
  · have c := fw_b1 c
    refine lv_iconst (v := (nI 0)) hx hb dX9_isOrder_15 (by decide) ?_
    refine lv_goto (tgt := 20) hx hb dX9_isOrder_16 (by decide) ?_
    refine mm_put hx hb hT hown hz hm 0 (by decide) wd_735 dX9_isOrder_20 (fun F1 H locs hm => ?_)
    refine lv_aload_n hx hb dX9_isOrder_23 rfl (lv_at hl 0 rfl) ?_
    refine mm_get hx hb hT hown hz hm 0 (by decide) wd_735 rfl (v := .int (nI 0)) rfl dX9_isOrder_24 ?_
    refine lv_if_ne (tgt := 34) hx hb dX9_isOrder_27 (by decide) (fun c2 => ?_) (fun c2 => ?_)
    · have c2 : ¬ 0 = 0 := fun h9 => c2 ((nI_eq (a := 0) (b := 0) (by omega) (by omega)).mpr h9)
      refine lv_iconst (v := (nI 0)) hx hb dX9_isOrder_34 (by decide) ?_
      exact absurd c2 (by decide)
    · have c2 := (nI_eq (a := 0) (b := 0) (by omega) (by omega)).mp c2
      refine lv_iconst (v := (nI 1)) hx hb dX9_isOrder_30 (by decide) ?_
      refine lv_goto (tgt := 35) hx hb dX9_isOrder_31 (by decide) ?_
      exact mm_zret hx hb hr (by decide) hlk (Nat.le_of_ble_eq_true rfl) (Nat.le_of_ble_eq_true rfl) hm dX9_isOrder_35 (⟨by rw [show rf_ix t nO = true from c]; rfl, rfl, by rw [show rf_ix t nO = true from c]; rfl⟩)
set_option maxHeartbeats 4000000 in
set_option maxRecDepth 100000 in
theorem c_X9_isMachine (l : Launch) (G : fw_G) (F : fw_F) (sz y : Nat) (ad : Nat → Nat) (sc : mm_S) (f : mm_A) (t : Int32) (hW : mm_W G F y ad sc f) : mm_Ci l G F sz y ad yX9_isMachine cX9_isMachine 2 (.boolean) { frames := 1, cells := 0, slots := 0, locals := 22 } [.int t] (fun r sc1 f1 => sc1 = va_up sc 0 (fw_b (!rf_in t (nI 0) (nI 2))) ∧ f1 = f ∧ r = fw_b (rf_in t (nI 0) (nI 2))) := by
  refine fw_met (lv := [(0, .ref y), (1, .int t)]) (by decide +kernel) (Nat.le_of_ble_eq_true rfl) rfl ?_
  intro A hA p e s m below meth c ls hx hb hml hown hT hr hlk hin hz hsz hw hAn hl
  rw [← hA]
  have hown : s.vm.findClass RX9 = some m.cls := hown
  have C : CallFix p m c cX9_isMachine 2 s _ fw_tb RX9 := ⟨hx, hb, hml, hown, hT⟩
  have hm : mm_M G A s F y ad sc f F s.heap [] := ⟨hw, hW, mm_keep.rf⟩
  refine lv_aload_n hx hb dX9_isMachine_0 rfl (lv_at hl 0 rfl) ?_
  refine lv_iload_n hx hb dX9_isMachine_1 rfl (lv_at hl 1 rfl) ?_
  refine lv_iconst (v := (nI 0)) hx hb dX9_isMachine_2 (by decide) ?_
  refine lv_iconst (v := (nI 2)) hx hb dX9_isMachine_3 (by decide) ?_
  refine mm_calls (As := [.int t, .int (nI 0), .int (nI 2)]) (rest := [.ref y]) C hz hm (c_X9_in l G _ _ t (nI 0) (nI 2)) wd_821 ySX9_in ⟨Nat.le_of_ble_eq_true rfl, Nat.le_of_ble_eq_true rfl⟩ rfl hl.1 rfl (Nat.le_of_ble_eq_true rfl) dX9_isMachine_4 ⟨Nat.le_of_ble_eq_true rfl, Nat.le_of_ble_eq_true rfl⟩ (fun r H locs hm hp => ?_)
  refine W.widen (k := 0) (n := 0) (Nat.le_of_ble_eq_true rfl) (Nat.le_of_ble_eq_true rfl) ?_
  subst hp
  refine lv_if_eq (tgt := 14) hx hb dX9_isMachine_7 (by decide) (fun c => ?_) (fun c => ?_)
  · have c := fw_b0 c
    refine lv_iconst (v := (nI 1)) hx hb dX9_isMachine_14 (by decide) ?_
    refine mm_put hx hb hT hown hz hm 0 (by decide) wd_735 dX9_isMachine_15 (fun F1 H locs hm => ?_)
    refine lv_aload_n hx hb dX9_isMachine_18 rfl (lv_at hl 0 rfl) ?_
    refine mm_get hx hb hT hown hz hm 0 (by decide) wd_735 rfl (v := .int (nI 1)) rfl dX9_isMachine_19 ?_
    refine lv_if_ne (tgt := 29) hx hb dX9_isMachine_22 (by decide) (fun c2 => ?_) (fun c2 => ?_)
    · have c2 : ¬ 1 = 0 := fun h9 => c2 ((nI_eq (a := 1) (b := 0) (by omega) (by omega)).mpr h9)
      refine lv_iconst (v := (nI 0)) hx hb dX9_isMachine_29 (by decide) ?_
      exact mm_zret hx hb hr (by decide) hlk (Nat.le_of_ble_eq_true rfl) (Nat.le_of_ble_eq_true rfl) hm dX9_isMachine_30 (⟨by rw [show rf_in t (nI 0) (nI 2) = false from c]; rfl, rfl, by rw [show rf_in t (nI 0) (nI 2) = false from c]; rfl⟩)
    · have c2 := (nI_eq (a := 1) (b := 0) (by omega) (by omega)).mp c2
      refine lv_iconst (v := (nI 1)) hx hb dX9_isMachine_25 (by decide) ?_
      refine lv_goto (tgt := 30) hx hb dX9_isMachine_26 (by decide) ?_
      exact absurd c2 (by decide)
  · have c := fw_b1 c
    refine lv_iconst (v := (nI 0)) hx hb dX9_isMachine_10 (by decide) ?_
    refine lv_goto (tgt := 15) hx hb dX9_isMachine_11 (by decide) ?_
    refine mm_put hx hb hT hown hz hm 0 (by decide) wd_735 dX9_isMachine_15 (fun F1 H locs hm => ?_)
    refine lv_aload_n hx hb dX9_isMachine_18 rfl (lv_at hl 0 rfl) ?_
    refine mm_get hx hb hT hown hz hm 0 (by decide) wd_735 rfl (v := .int (nI 0)) rfl dX9_isMachine_19 ?_
    refine lv_if_ne (tgt := 29) hx hb dX9_isMachine_22 (by decide) (fun c2 => ?_) (fun c2 => ?_)
    · have c2 : ¬ 0 = 0 := fun h9 => c2 ((nI_eq (a := 0) (b := 0) (by omega) (by omega)).mpr h9)
      refine lv_iconst (v := (nI 0)) hx hb dX9_isMachine_29 (by decide) ?_
      exact absurd c2 (by decide)
    · have c2 := (nI_eq (a := 0) (b := 0) (by omega) (by omega)).mp c2
      refine lv_iconst (v := (nI 1)) hx hb dX9_isMachine_25 (by decide) ?_
      refine lv_goto (tgt := 30) hx hb dX9_isMachine_26 (by decide) ?_
      exact mm_zret hx hb hr (by decide) hlk (Nat.le_of_ble_eq_true rfl) (Nat.le_of_ble_eq_true rfl) hm dX9_isMachine_30 (⟨by rw [show rf_in t (nI 0) (nI 2) = true from c]; rfl, rfl, by rw [show rf_in t (nI 0) (nI 2) = true from c]; rfl⟩)
set_option maxHeartbeats 4000000 in
set_option maxRecDepth 100000 in
theorem c_X9_cutter (l : Launch) (G : fw_G) (F : fw_F) (sz y : Nat) (ad : Nat → Nat) (sc : mm_S) (f : mm_A) (nC : Nat) (mo te : Int32) (hW : mm_W G F y ad sc f) (e1 : sc 1 = nI nC) (hC : nC ≤ 10) : mm_Ci l G F sz y ad yX9_cutter cX9_cutter 5 (.int) { frames := 1, cells := 0, slots := 0, locals := 22 } [.int mo, .int te] (fun r sc1 f1 => sc1 = sc ∧ f1 = f ∧ r = rf_cut f nC mo te) := by
  refine fw_met (lv := [(0, .ref y), (1, .int mo), (2, .int te)]) (by decide +kernel) (Nat.le_of_ble_eq_true rfl) rfl ?_
  intro A hA p e s m below meth c ls hx hb hml hown hT hr hlk hin hz hsz hw hAn hl
  rw [← hA]
  have hown : s.vm.findClass RX9 = some m.cls := hown
  have C : CallFix p m c cX9_cutter 5 s _ fw_tb RX9 := ⟨hx, hb, hml, hown, hT⟩
  have hm : mm_M G A s F y ad sc f F s.heap [] := ⟨hw, hW, mm_keep.rf⟩
  refine lv_iconst (v := (-1)) hx hb dX9_cutter_0 (by decide) ?_
  refine lv_istore_n (lv' := [(3, .int (-1)), (0, .ref y), (1, .int mo), (2, .int te)]) hx hb dX9_cutter_1 rfl hl (by decide) rfl (fun ls hl => ?_)
  refine lv_aload_n hx hb dX9_cutter_2 rfl (lv_at hl 1 rfl) ?_
  refine mm_get hx hb hT hown hz hm 1 (by decide) wd_736 rfl (v := .int (sc 1)) rfl dX9_cutter_3 ?_
  refine fw_top (e1) ?_
  refine lv_iconst (v := (nI 1)) hx hb dX9_cutter_6 (by decide) ?_
  refine lv_isub hx hb dX9_cutter_7 ?_
  refine lv_istore (lv' := [(4, .int ((nI nC) - (nI 1))), (3, .int (-1)), (0, .ref y), (1, .int mo), (2, .int te)]) hx hb dX9_cutter_8 hl (by decide) rfl (fun ls hl => ?_)
  suffices hlp : ∀ (j : Nat) (its : Int32), j ≤ nC → rf_cutL f mo te j its = rf_cut f nC mo te → ∀ (H : Heap) (locs : List Loc) (ls : Array Slot), mm_M G A s F y ad sc f F H locs → lv_has ls 5 [(4, .int (nI j - nI 1)), (3, .int its), (0, .ref y), (1, .int mo), (2, .int te)] → W p l e { frames := 1, cells := 0, slots := 0, locals := 22 } s m ([.ref y, .int mo, .int te] : List Value).toArray below meth c H locs 0 0 (MQ below (va_Qi (mm_post G y ad F (fun r sc1 f1 => sc1 = sc ∧ f1 = f ∧ r = rf_cut f nC mo te)) (fw_B G A) A) ([.ref y, .int mo, .int te] : List Value).toArray s 0 0 A) (F0 m 10 ls []) by
    exact hlp nC (-1) (Nat.le_refl _) rfl _ _ _ hm (lv_sub hl [0, 1, 2, 3, 4] rfl)
  intro j
  induction j with
  | zero =>
    intro its hj hi H locs ls hm hl
    refine lv_iload hx hb dX9_cutter_10 (lv_at hl 0 rfl) ?_
    refine lv_if_lt (tgt := 60) hx hb dX9_cutter_12 (by decide) (fun c => ?_) (fun c => ?_)
    · refine lv_iload_n hx hb dX9_cutter_60 rfl (lv_at hl 1 rfl) ?_
      exact mm_iret hx hb hr hlk (Nat.le_of_ble_eq_true rfl) (Nat.le_of_ble_eq_true rfl) hm dX9_cutter_61 (⟨rfl, rfl, hi⟩)
    · exact absurd (by decide) c
  | succ j ih =>
    intro its hj hi H locs ls hm hl
    rw [pk_sub (a := j + 1) (b := 1) (by omega), Nat.add_sub_cancel] at hl
    refine lv_iload hx hb dX9_cutter_10 (lv_at hl 0 rfl) ?_
    refine lv_if_lt (tgt := 60) hx hb dX9_cutter_12 (by decide) (fun c => ?_) (fun c => ?_)
    · have c := (nI_ltI (a := j) (b := 0) (by omega) (by omega)).mp c
      exact absurd c (Nat.not_lt_zero _)
    · have c : ¬ j < 0 := fun h9 => c ((nI_ltI (a := j) (b := 0) (by omega) (by omega)).mpr h9)
      refine lv_aload_n hx hb dX9_cutter_15 rfl (lv_at hl 2 rfl) ?_
      refine mm_get hx hb hT hown hz hm 2 (by decide) wd_737 rfl (v := .ref (ad 2)) rfl dX9_cutter_16 ?_
      refine lv_iload hx hb dX9_cutter_19 (lv_at hl 0 rfl) ?_
      refine mm_ald hx hb hz hm 2 (j) (by decide) rfl (show j < 10 by omega) dX9_cutter_21 ?_
      refine lv_iload_n hx hb dX9_cutter_22 rfl (lv_at hl 3 rfl) ?_
      refine lv_icmp_ne (tgt := 52) hx hb dX9_cutter_23 (by decide) (fun c2 => ?_) (fun c2 => ?_)
      · refine lv_iload_n hx hb dX9_cutter_52 rfl (lv_at hl 1 rfl) ?_
        refine lv_istore_n (lv' := [(3, .int its), (4, .int (nI j)), (0, .ref y), (1, .int mo), (2, .int te)]) hx hb dX9_cutter_53 rfl hl (by decide) rfl (fun ls hl => ?_)
        refine lv_iinc (v := (nI j - nI 1)) (lv' := [(4, .int (nI j - nI 1)), (3, .int its), (0, .ref y), (1, .int mo), (2, .int te)]) hx hb dX9_cutter_54 hl (k := 1) rfl (fw_m1 _) (by decide) rfl (fun ls hl => ?_)
        refine lv_goto (tgt := 10) hx hb dX9_cutter_57 (by decide) ?_
        exact ih its (by omega) (by rw [← hi, rf_cutL, if_neg (fun h => c2 h.1)]) _ _ _ hm (lv_sub hl [0, 1, 2, 3, 4] rfl)
      · refine lv_iload_n hx hb dX9_cutter_26 rfl (lv_at hl 4 rfl) ?_
        refine lv_aload_n hx hb dX9_cutter_27 rfl (lv_at hl 2 rfl) ?_
        refine mm_get hx hb hT hown hz hm 3 (by decide) wd_738 rfl (v := .ref (ad 3)) rfl dX9_cutter_28 ?_
        refine lv_iload hx hb dX9_cutter_31 (lv_at hl 0 rfl) ?_
        refine mm_ald hx hb hz hm 3 (j) (by decide) rfl (show j < 10 by omega) dX9_cutter_33 ?_
        refine lv_aload_n hx hb dX9_cutter_34 rfl (lv_at hl 2 rfl) ?_
        refine mm_get hx hb hT hown hz hm 4 (by decide) wd_739 rfl (v := .ref (ad 4)) rfl dX9_cutter_35 ?_
        refine lv_iload hx hb dX9_cutter_38 (lv_at hl 0 rfl) ?_
        refine mm_ald hx hb hz hm 4 (j) (by decide) rfl (show j < 10 by omega) dX9_cutter_40 ?_
        refine mm_calls (As := [.int te, .int (f 3 j), .int (f 4 j)]) (rest := []) C hz hm (c_X9_in l G _ _ te (f 3 j) (f 4 j)) wd_821 ySX9_in ⟨Nat.le_of_ble_eq_true rfl, Nat.le_of_ble_eq_true rfl⟩ rfl hl.1 rfl (Nat.le_of_ble_eq_true rfl) dX9_cutter_41 ⟨Nat.le_of_ble_eq_true rfl, Nat.le_of_ble_eq_true rfl⟩ (fun r H locs hm hp => ?_)
        refine W.widen (k := 0) (n := 0) (Nat.le_of_ble_eq_true rfl) (Nat.le_of_ble_eq_true rfl) ?_
        subst hp
        refine lv_if_eq (tgt := 52) hx hb dX9_cutter_44 (by decide) (fun c3 => ?_) (fun c3 => ?_)
        · have c3 := fw_b0 c3
          refine lv_iload_n hx hb dX9_cutter_52 rfl (lv_at hl 1 rfl) ?_
          refine lv_istore_n (lv' := [(3, .int its), (4, .int (nI j)), (0, .ref y), (1, .int mo), (2, .int te)]) hx hb dX9_cutter_53 rfl hl (by decide) rfl (fun ls hl => ?_)
          refine lv_iinc (v := (nI j - nI 1)) (lv' := [(4, .int (nI j - nI 1)), (3, .int its), (0, .ref y), (1, .int mo), (2, .int te)]) hx hb dX9_cutter_54 hl (k := 1) rfl (fw_m1 _) (by decide) rfl (fun ls hl => ?_)
          refine lv_goto (tgt := 10) hx hb dX9_cutter_57 (by decide) ?_
          exact ih its (by omega) (by rw [← hi, rf_cutL, if_neg (fun h => by rw [c3] at h; cases h.2)]) _ _ _ hm (lv_sub hl [0, 1, 2, 3, 4] rfl)
        · have c3 := fw_b1 c3
          refine lv_iload hx hb dX9_cutter_47 (lv_at hl 0 rfl) ?_
          refine lv_goto (tgt := 53) hx hb dX9_cutter_49 (by decide) ?_
          refine lv_istore_n (lv' := [(3, .int (nI j)), (4, .int (nI j)), (0, .ref y), (1, .int mo), (2, .int te)]) hx hb dX9_cutter_53 rfl hl (by decide) rfl (fun ls hl => ?_)
          refine lv_iinc (v := (nI j - nI 1)) (lv' := [(4, .int (nI j - nI 1)), (3, .int (nI j)), (0, .ref y), (1, .int mo), (2, .int te)]) hx hb dX9_cutter_54 hl (k := 1) rfl (fw_m1 _) (by decide) rfl (fun ls hl => ?_)
          refine lv_goto (tgt := 10) hx hb dX9_cutter_57 (by decide) ?_
          exact ih (nI j) (by omega) (by rw [← hi, rf_cutL, if_pos ⟨c2, c3⟩]) _ _ _ hm (lv_sub hl [0, 1, 2, 3, 4] rfl)
