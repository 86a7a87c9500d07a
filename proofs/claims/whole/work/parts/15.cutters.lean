/-! The reference's methods: cutters, drafts, answers of one place. -/
def rf_okG (mo te : Int32) : Bool := rf_in mo (nI 1) (nI 4) && rf_in te (nI 8) (nI 60)
def rf_okC (mo le mx : Int32) : Bool := rf_in mo (nI 1) (nI 4) && rf_in le (nI 8) (nI 60) && rf_in mx le (nI 60)
def rf_okS (mo a b : Int32) : Bool := rf_in mo (nI 1) (nI 4) && rf_in a (nI 8) (nI 60) && rf_in b (nI 8) (nI 60)
theorem rf_ix_t {t : Int32} {n : Nat} (hn : n ≤ 100) (h : rf_ix t n = true) : ∃ j, j < n ∧ t = nI j := by
  obtain ⟨h1, h2⟩ := rf_in_t.mp h
  obtain ⟨j, hj, rfl⟩ := nI_of (x := t) (Int32.not_lt.mpr h1)
  cases n with
  | zero =>
    exfalso
    rw [Int32.le_iff_toInt_le, nI_toInt hj] at h2
    have : (nI 0 - nI 1).toInt = -1 := by decide
    omega
  | succ n =>
    rw [pk_sub (a := n + 1) (b := 1) (by omega), nI_leI (by omega) (by omega)] at h2
    exact ⟨j, by omega, rfl⟩
set_option maxHeartbeats 4000000 in
set_option maxRecDepth 100000 in
theorem c_X9_cutterFor (l : Launch) (G : fw_G) (F : fw_F) (sz y : Nat) (ad : Nat → Nat) (sc : mm_S) (f : mm_A) (nC : Nat) (mo te : Int32) (hW : mm_W G F y ad sc f) (e1 : sc 1 = nI nC) (hC : nC ≤ 10) : mm_Ci l G F sz y ad yX9_cutterFor cX9_cutterFor 3 (.int) { frames := 2, cells := 0, slots := 0, locals := 46 } [.int mo, .int te] (fun r sc1 f1 => f1 = f ∧ (rf_okG mo te = false → sc1 = va_up sc 0 (nI 1)) ∧ (rf_okG mo te = true → sc1 = va_up sc 0 (nI 0) ∧ r = rf_cut f nC mo te)) := by
  refine fw_met (lv := [(0, .ref y), (1, .int mo), (2, .int te)]) (by decide +kernel) (Nat.le_of_ble_eq_true rfl) rfl ?_
  intro A hA p e s m below meth c ls hx hb hml hown hT hr hlk hin hz hsz hw hAn hl
  rw [← hA]
  have hown : s.vm.findClass RX9 = some m.cls := hown
  have C : CallFix p m c cX9_cutterFor 3 s _ fw_tb RX9 := ⟨hx, hb, hml, hown, hT⟩
  have hm : mm_M G A s F y ad sc f F s.heap [] := ⟨hw, hW, mm_keep.rf⟩
  refine lv_aload_n hx hb dX9_cutterFor_0 rfl (lv_at hl 0 rfl) ?_
  refine lv_iload_n hx hb dX9_cutterFor_1 rfl (lv_at hl 1 rfl) ?_
  refine lv_iconst (v := (nI 1)) hx hb dX9_cutterFor_2 (by decide) ?_
  refine lv_iconst (v := (nI 4)) hx hb dX9_cutterFor_3 (by decide) ?_
  refine mm_calls (As := [.int mo, .int (nI 1), .int (nI 4)]) (rest := [.ref y]) C hz hm (c_X9_in l G _ _ mo (nI 1) (nI 4)) wd_821 ySX9_in ⟨Nat.le_of_ble_eq_true rfl, Nat.le_of_ble_eq_true rfl⟩ rfl hl.1 rfl (Nat.le_of_ble_eq_true rfl) dX9_cutterFor_4 ⟨Nat.le_of_ble_eq_true rfl, Nat.le_of_ble_eq_true rfl⟩ (fun r H locs hm hp => ?_)
  refine W.widen (k := 0) (n := 0) (Nat.le_of_ble_eq_true rfl) (Nat.le_of_ble_eq_true rfl) ?_
  subst hp
  refine lv_if_eq (tgt := 25) hx hb dX9_cutterFor_7 (by decide) (fun c0 => ?_) (fun c0 => ?_)
  · have c0 := fw_b0 c0
    refine lv_iconst (v := (nI 1)) hx hb dX9_cutterFor_25 (by decide) ?_
    refine mm_put hx hb hT hown hz hm 0 (by decide) wd_735 dX9_cutterFor_26 (fun F1 H locs hm => ?_)
    refine lv_aload_n hx hb dX9_cutterFor_29 rfl (lv_at hl 0 rfl) ?_
    refine mm_get hx hb hT hown hz hm 0 (by decide) wd_735 rfl (v := .int (nI 1)) rfl dX9_cutterFor_30 ?_
    refine lv_if_le (tgt := 40) hx hb dX9_cutterFor_33 (by decide) (fun cx => absurd cx (by decide)) (fun cx => ?_)
    refine lv_iconst (v := (nI 0)) hx hb dX9_cutterFor_36 (by decide) ?_
    refine lv_goto (tgt := 46) hx hb dX9_cutterFor_37 (by decide) ?_
    exact mm_iret hx hb hr hlk (Nat.le_of_ble_eq_true rfl) (Nat.le_of_ble_eq_true rfl) hm dX9_cutterFor_46 (by refine ⟨rfl, fun _ => rfl, fun h => ?_⟩; simp [rf_okG, c0] at h)
  · have c0 := fw_b1 c0
    refine lv_iload_n hx hb dX9_cutterFor_10 rfl (lv_at hl 2 rfl) ?_
    refine lv_bipush (v := (nI 8)) hx hb dX9_cutterFor_11 (by decide) ?_
    refine lv_bipush (v := (nI 60)) hx hb dX9_cutterFor_13 (by decide) ?_
    refine mm_calls (As := [.int te, .int (nI 8), .int (nI 60)]) (rest := [.ref y]) C hz hm (c_X9_in l G _ _ te (nI 8) (nI 60)) wd_821 ySX9_in ⟨Nat.le_of_ble_eq_true rfl, Nat.le_of_ble_eq_true rfl⟩ rfl hl.1 rfl (Nat.le_of_ble_eq_true rfl) dX9_cutterFor_15 ⟨Nat.le_of_ble_eq_true rfl, Nat.le_of_ble_eq_true rfl⟩ (fun r H locs hm hp => ?_)
    refine W.widen (k := 0) (n := 0) (Nat.le_of_ble_eq_true rfl) (Nat.le_of_ble_eq_true rfl) ?_
    subst hp
    refine lv_if_eq (tgt := 25) hx hb dX9_cutterFor_18 (by decide) (fun c1 => ?_) (fun c1 => ?_)
    · have c1 := fw_b0 c1
      refine lv_iconst (v := (nI 1)) hx hb dX9_cutterFor_25 (by decide) ?_
      refine mm_put hx hb hT hown hz hm 0 (by decide) wd_735 dX9_cutterFor_26 (fun F1 H locs hm => ?_)
      refine lv_aload_n hx hb dX9_cutterFor_29 rfl (lv_at hl 0 rfl) ?_
      refine mm_get hx hb hT hown hz hm 0 (by decide) wd_735 rfl (v := .int (nI 1)) rfl dX9_cutterFor_30 ?_
      refine lv_if_le (tgt := 40) hx hb dX9_cutterFor_33 (by decide) (fun cx => absurd cx (by decide)) (fun cx => ?_)
      refine lv_iconst (v := (nI 0)) hx hb dX9_cutterFor_36 (by decide) ?_
      refine lv_goto (tgt := 46) hx hb dX9_cutterFor_37 (by decide) ?_
      exact mm_iret hx hb hr hlk (Nat.le_of_ble_eq_true rfl) (Nat.le_of_ble_eq_true rfl) hm dX9_cutterFor_46 (by refine ⟨rfl, fun _ => rfl, fun h => ?_⟩; simp [rf_okG, c0, c1] at h)
    · have c1 := fw_b1 c1
      refine lv_iconst (v := (nI 0)) hx hb dX9_cutterFor_21 (by decide) ?_
      refine lv_goto (tgt := 26) hx hb dX9_cutterFor_22 (by decide) ?_
      refine mm_put hx hb hT hown hz hm 0 (by decide) wd_735 dX9_cutterFor_26 (fun F1 H locs hm => ?_)
      refine lv_aload_n hx hb dX9_cutterFor_29 rfl (lv_at hl 0 rfl) ?_
      refine mm_get hx hb hT hown hz hm 0 (by decide) wd_735 rfl (v := .int (nI 0)) rfl dX9_cutterFor_30 ?_
      refine lv_if_le (tgt := 40) hx hb dX9_cutterFor_33 (by decide) (fun cx => ?_) (fun cx => absurd cx (by decide))
      refine lv_aload_n hx hb dX9_cutterFor_40 rfl (lv_at hl 0 rfl) ?_
      refine lv_iload_n hx hb dX9_cutterFor_41 rfl (lv_at hl 1 rfl) ?_
      refine lv_iload_n hx hb dX9_cutterFor_42 rfl (lv_at hl 2 rfl) ?_
      refine mm_calli (As := [.int mo, .int te]) (rest := []) C hz hm (c_X9_cutter l G _ _ y ad _ _ nC mo te hm.2.1 e1 hC) wd_828 yVX9_cutter ⟨Nat.le_of_ble_eq_true rfl, Nat.le_of_ble_eq_true rfl⟩ rfl hl.1 rfl (Nat.le_of_ble_eq_true rfl) dX9_cutterFor_43 ⟨Nat.le_of_ble_eq_true rfl, Nat.le_of_ble_eq_true rfl⟩ (fun r sc1 f1 F1 H locs hm hp => ?_)
      refine W.widen (k := 0) (n := 0) (Nat.le_of_ble_eq_true rfl) (Nat.le_of_ble_eq_true rfl) ?_
      obtain ⟨h7, h8, h9⟩ := hp
      rw [h7, h8] at hm
      subst h9
      exact mm_iret hx hb hr hlk (Nat.le_of_ble_eq_true rfl) (Nat.le_of_ble_eq_true rfl) hm dX9_cutterFor_46 (by refine ⟨rfl, fun h => ?_, fun _ => ⟨rfl, rfl⟩⟩; simp [rf_okG, c0, c1] at h)
set_option maxHeartbeats 4000000 in
set_option maxRecDepth 100000 in
theorem c_X9_addCutter (l : Launch) (G : fw_G) (F : fw_F) (sz y : Nat) (ad : Nat → Nat) (sc : mm_S) (f : mm_A) (nC : Nat) (mo le mx : Int32) (hW : mm_W G F y ad sc f) (e1 : sc 1 = nI nC) (hC : nC ≤ 10) : mm_Ci l G F sz y ad yX9_addCutter cX9_addCutter 5 (.int) { frames := 1, cells := 0, slots := 0, locals := 22 } [.int mo, .int le, .int mx] (fun r sc1 f1 => (rf_okC mo le mx = false → f1 = f ∧ sc1 = va_up sc 0 (nI 1)) ∧ (rf_okC mo le mx = true → nC = 10 → f1 = f ∧ sc1 = va_up sc 0 (nI 2)) ∧ (rf_okC mo le mx = true → nC < 10 → f1 = va_up (va_up (va_up f 2 (upd (f 2) nC mo)) 3 (upd (f 3) nC le)) 4 (upd (f 4) nC mx) ∧ sc1 = va_up (va_up sc 0 (nI 0)) 1 (nI (nC + 1)) ∧ r = nI nC)) := by
  refine fw_met (lv := [(0, .ref y), (1, .int mo), (2, .int le), (3, .int mx)]) (by decide +kernel) (Nat.le_of_ble_eq_true rfl) rfl ?_
  intro A hA p e s m below meth c ls hx hb hml hown hT hr hlk hin hz hsz hw hAn hl
  rw [← hA]
  have hown : s.vm.findClass RX9 = some m.cls := hown
  have C : CallFix p m c cX9_addCutter 5 s _ fw_tb RX9 := ⟨hx, hb, hml, hown, hT⟩
  have hm : mm_M G A s F y ad sc f F s.heap [] := ⟨hw, hW, mm_keep.rf⟩
  refine lv_iload_n hx hb dX9_addCutter_0 rfl (lv_at hl 1 rfl) ?_
  refine lv_iconst (v := (nI 1)) hx hb dX9_addCutter_1 (by decide) ?_
  refine lv_iconst (v := (nI 4)) hx hb dX9_addCutter_2 (by decide) ?_
  refine mm_calls (As := [.int mo, .int (nI 1), .int (nI 4)]) (rest := []) C hz hm (c_X9_in l G _ _ mo (nI 1) (nI 4)) wd_821 ySX9_in ⟨Nat.le_of_ble_eq_true rfl, Nat.le_of_ble_eq_true rfl⟩ rfl hl.1 rfl (Nat.le_of_ble_eq_true rfl) dX9_addCutter_3 ⟨Nat.le_of_ble_eq_true rfl, Nat.le_of_ble_eq_true rfl⟩ (fun r H locs hm hp => ?_)
  refine W.widen (k := 0) (n := 0) (Nat.le_of_ble_eq_true rfl) (Nat.le_of_ble_eq_true rfl) ?_
  subst hp
  refine lv_if_eq (tgt := 34) hx hb dX9_addCutter_6 (by decide) (fun c0 => ?_) (fun c0 => ?_)
  · have c0 := fw_b0 c0
    refine lv_iconst (v := (nI 0)) hx hb dX9_addCutter_34 (by decide) ?_
    refine lv_istore (lv' := [(4, .int (nI 0)), (0, .ref y), (1, .int mo), (2, .int le), (3, .int mx)]) hx hb dX9_addCutter_35 hl (by decide) rfl (fun ls hl => ?_)
    refine lv_aload_n hx hb dX9_addCutter_37 rfl (lv_at hl 1 rfl) ?_
    refine lv_iload hx hb dX9_addCutter_38 (lv_at hl 0 rfl) ?_
    refine lv_if_ne (tgt := 47) hx hb dX9_addCutter_40 (by decide) (fun cx => absurd cx (by decide)) (fun cx => ?_)
    refine lv_iconst (v := (nI 1)) hx hb dX9_addCutter_43 (by decide) ?_
    refine lv_goto (tgt := 61) hx hb dX9_addCutter_44 (by decide) ?_
    refine mm_put hx hb hT hown hz hm 0 (by decide) wd_735 dX9_addCutter_61 (fun F1 H locs hm => ?_)
    refine lv_aload_n hx hb dX9_addCutter_64 rfl (lv_at hl 1 rfl) ?_
    refine mm_get hx hb hT hown hz hm 0 (by decide) wd_735 rfl (v := .int (nI 1)) rfl dX9_addCutter_65 ?_
    refine lv_if_le (tgt := 73) hx hb dX9_addCutter_68 (by decide) (fun cx => absurd cx (by decide)) (fun cx => ?_)
    refine lv_iconst (v := (nI 0)) hx hb dX9_addCutter_71 (by decide) ?_
    exact mm_iret hx hb hr hlk (Nat.le_of_ble_eq_true rfl) (Nat.le_of_ble_eq_true rfl) hm dX9_addCutter_72 (by refine ⟨fun _ => ⟨rfl, rfl⟩, fun h => ?_, fun h => ?_⟩ <;> simp [rf_okC, c0] at h)
  · have c0 := fw_b1 c0
    refine lv_iload_n hx hb dX9_addCutter_9 rfl (lv_at hl 2 rfl) ?_
    refine lv_bipush (v := (nI 8)) hx hb dX9_addCutter_10 (by decide) ?_
    refine lv_bipush (v := (nI 60)) hx hb dX9_addCutter_12 (by decide) ?_
    refine mm_calls (As := [.int le, .int (nI 8), .int (nI 60)]) (rest := []) C hz hm (c_X9_in l G _ _ le (nI 8) (nI 60)) wd_821 ySX9_in ⟨Nat.le_of_ble_eq_true rfl, Nat.le_of_ble_eq_true rfl⟩ rfl hl.1 rfl (Nat.le_of_ble_eq_true rfl) dX9_addCutter_14 ⟨Nat.le_of_ble_eq_true rfl, Nat.le_of_ble_eq_true rfl⟩ (fun r H locs hm hp => ?_)
    refine W.widen (k := 0) (n := 0) (Nat.le_of_ble_eq_true rfl) (Nat.le_of_ble_eq_true rfl) ?_
    subst hp
    refine lv_if_eq (tgt := 34) hx hb dX9_addCutter_17 (by decide) (fun c1 => ?_) (fun c1 => ?_)
    · have c1 := fw_b0 c1
      refine lv_iconst (v := (nI 0)) hx hb dX9_addCutter_34 (by decide) ?_
      refine lv_istore (lv' := [(4, .int (nI 0)), (0, .ref y), (1, .int mo), (2, .int le), (3, .int mx)]) hx hb dX9_addCutter_35 hl (by decide) rfl (fun ls hl => ?_)
      refine lv_aload_n hx hb dX9_addCutter_37 rfl (lv_at hl 1 rfl) ?_
      refine lv_iload hx hb dX9_addCutter_38 (lv_at hl 0 rfl) ?_
      refine lv_if_ne (tgt := 47) hx hb dX9_addCutter_40 (by decide) (fun cx => absurd cx (by decide)) (fun cx => ?_)
      refine lv_iconst (v := (nI 1)) hx hb dX9_addCutter_43 (by decide) ?_
      refine lv_goto (tgt := 61) hx hb dX9_addCutter_44 (by decide) ?_
      refine mm_put hx hb hT hown hz hm 0 (by decide) wd_735 dX9_addCutter_61 (fun F1 H locs hm => ?_)
      refine lv_aload_n hx hb dX9_addCutter_64 rfl (lv_at hl 1 rfl) ?_
      refine mm_get hx hb hT hown hz hm 0 (by decide) wd_735 rfl (v := .int (nI 1)) rfl dX9_addCutter_65 ?_
      refine lv_if_le (tgt := 73) hx hb dX9_addCutter_68 (by decide) (fun cx => absurd cx (by decide)) (fun cx => ?_)
      refine lv_iconst (v := (nI 0)) hx hb dX9_addCutter_71 (by decide) ?_
      exact mm_iret hx hb hr hlk (Nat.le_of_ble_eq_true rfl) (Nat.le_of_ble_eq_true rfl) hm dX9_addCutter_72 (by refine ⟨fun _ => ⟨rfl, rfl⟩, fun h => ?_, fun h => ?_⟩ <;> simp [rf_okC, c0, c1] at h)
    · have c1 := fw_b1 c1
      refine lv_iload_n hx hb dX9_addCutter_20 rfl (lv_at hl 3 rfl) ?_
      refine lv_iload_n hx hb dX9_addCutter_21 rfl (lv_at hl 2 rfl) ?_
      refine lv_bipush (v := (nI 60)) hx hb dX9_addCutter_22 (by decide) ?_
      refine mm_calls (As := [.int mx, .int le, .int (nI 60)]) (rest := []) C hz hm (c_X9_in l G _ _ mx le (nI 60)) wd_821 ySX9_in ⟨Nat.le_of_ble_eq_true rfl, Nat.le_of_ble_eq_true rfl⟩ rfl hl.1 rfl (Nat.le_of_ble_eq_true rfl) dX9_addCutter_24 ⟨Nat.le_of_ble_eq_true rfl, Nat.le_of_ble_eq_true rfl⟩ (fun r H locs hm hp => ?_)
      refine W.widen (k := 0) (n := 0) (Nat.le_of_ble_eq_true rfl) (Nat.le_of_ble_eq_true rfl) ?_
      subst hp
      refine lv_if_eq (tgt := 34) hx hb dX9_addCutter_27 (by decide) (fun c2 => ?_) (fun c2 => ?_)
      · have c2 := fw_b0 c2
        refine lv_iconst (v := (nI 0)) hx hb dX9_addCutter_34 (by decide) ?_
        refine lv_istore (lv' := [(4, .int (nI 0)), (0, .ref y), (1, .int mo), (2, .int le), (3, .int mx)]) hx hb dX9_addCutter_35 hl (by decide) rfl (fun ls hl => ?_)
        refine lv_aload_n hx hb dX9_addCutter_37 rfl (lv_at hl 1 rfl) ?_
        refine lv_iload hx hb dX9_addCutter_38 (lv_at hl 0 rfl) ?_
        refine lv_if_ne (tgt := 47) hx hb dX9_addCutter_40 (by decide) (fun cx => absurd cx (by decide)) (fun cx => ?_)
        refine lv_iconst (v := (nI 1)) hx hb dX9_addCutter_43 (by decide) ?_
        refine lv_goto (tgt := 61) hx hb dX9_addCutter_44 (by decide) ?_
        refine mm_put hx hb hT hown hz hm 0 (by decide) wd_735 dX9_addCutter_61 (fun F1 H locs hm => ?_)
        refine lv_aload_n hx hb dX9_addCutter_64 rfl (lv_at hl 1 rfl) ?_
        refine mm_get hx hb hT hown hz hm 0 (by decide) wd_735 rfl (v := .int (nI 1)) rfl dX9_addCutter_65 ?_
        refine lv_if_le (tgt := 73) hx hb dX9_addCutter_68 (by decide) (fun cx => absurd cx (by decide)) (fun cx => ?_)
        refine lv_iconst (v := (nI 0)) hx hb dX9_addCutter_71 (by decide) ?_
        exact mm_iret hx hb hr hlk (Nat.le_of_ble_eq_true rfl) (Nat.le_of_ble_eq_true rfl) hm dX9_addCutter_72 (by refine ⟨fun _ => ⟨rfl, rfl⟩, fun h => ?_, fun h => ?_⟩ <;> simp [rf_okC, c0, c1, c2] at h)
      · have c2 := fw_b1 c2
        refine lv_iconst (v := (nI 1)) hx hb dX9_addCutter_30 (by decide) ?_
        refine lv_goto (tgt := 35) hx hb dX9_addCutter_31 (by decide) ?_
        refine lv_istore (lv' := [(4, .int (nI 1)), (0, .ref y), (1, .int mo), (2, .int le), (3, .int mx)]) hx hb dX9_addCutter_35 hl (by decide) rfl (fun ls hl => ?_)
        refine lv_aload_n hx hb dX9_addCutter_37 rfl (lv_at hl 1 rfl) ?_
        refine lv_iload hx hb dX9_addCutter_38 (lv_at hl 0 rfl) ?_
        refine lv_if_ne (tgt := 47) hx hb dX9_addCutter_40 (by decide) (fun cx => ?_) (fun cx => absurd cx (by decide))
        refine lv_aload_n hx hb dX9_addCutter_47 rfl (lv_at hl 1 rfl) ?_
        refine mm_get hx hb hT hown hz hm 1 (by decide) wd_736 rfl (v := .int (sc 1)) rfl dX9_addCutter_48 ?_
        refine fw_top (e1) ?_
        refine lv_bipush (v := (nI 10)) hx hb dX9_addCutter_51 (by decide) ?_
        refine lv_icmp_ne (tgt := 60) hx hb dX9_addCutter_53 (by decide) (fun d => ?_) (fun d => ?_)
        · have d : ¬ nC = 10 := fun h9 => d ((nI_eq (a := nC) (b := 10) (by omega) (by omega)).mpr h9)
          have hd : nC < 10 := by omega
          refine lv_iconst (v := (nI 0)) hx hb dX9_addCutter_60 (by decide) ?_
          refine mm_put hx hb hT hown hz hm 0 (by decide) wd_735 dX9_addCutter_61 (fun F1 H locs hm => ?_)
          refine lv_aload_n hx hb dX9_addCutter_64 rfl (lv_at hl 1 rfl) ?_
          refine mm_get hx hb hT hown hz hm 0 (by decide) wd_735 rfl (v := .int (nI 0)) rfl dX9_addCutter_65 ?_
          refine lv_if_le (tgt := 73) hx hb dX9_addCutter_68 (by decide) (fun cx => ?_) (fun cx => absurd cx (by decide))
          refine lv_aload_n hx hb dX9_addCutter_73 rfl (lv_at hl 1 rfl) ?_
          refine mm_get hx hb hT hown hz hm 2 (by decide) wd_737 rfl (v := .ref (ad 2)) rfl dX9_addCutter_74 ?_
          refine lv_aload_n hx hb dX9_addCutter_77 rfl (lv_at hl 1 rfl) ?_
          refine mm_get hx hb hT hown hz hm 1 (by decide) wd_736 rfl (v := .int (sc 1)) rfl dX9_addCutter_78 ?_
          refine fw_top (e1) ?_
          refine lv_iload_n hx hb dX9_addCutter_81 rfl (lv_at hl 2 rfl) ?_
          refine mm_ast hx hb hz hm 2 (nC) (by decide) rfl (show nC < 10 by omega) dX9_addCutter_82 (fun F1 H locs hm => ?_)
          refine lv_aload_n hx hb dX9_addCutter_83 rfl (lv_at hl 1 rfl) ?_
          refine mm_get hx hb hT hown hz hm 3 (by decide) wd_738 rfl (v := .ref (ad 3)) rfl dX9_addCutter_84 ?_
          refine lv_aload_n hx hb dX9_addCutter_87 rfl (lv_at hl 1 rfl) ?_
          refine mm_get hx hb hT hown hz hm 1 (by decide) wd_736 rfl (v := .int (sc 1)) rfl dX9_addCutter_88 ?_
          refine fw_top (e1) ?_
          refine lv_iload_n hx hb dX9_addCutter_91 rfl (lv_at hl 3 rfl) ?_
          refine mm_ast hx hb hz hm 3 (nC) (by decide) rfl (show nC < 10 by omega) dX9_addCutter_92 (fun F1 H locs hm => ?_)
          refine lv_aload_n hx hb dX9_addCutter_93 rfl (lv_at hl 1 rfl) ?_
          refine mm_get hx hb hT hown hz hm 4 (by decide) wd_739 rfl (v := .ref (ad 4)) rfl dX9_addCutter_94 ?_
          refine lv_aload_n hx hb dX9_addCutter_97 rfl (lv_at hl 1 rfl) ?_
          refine mm_get hx hb hT hown hz hm 1 (by decide) wd_736 rfl (v := .int (sc 1)) rfl dX9_addCutter_98 ?_
          refine fw_top (e1) ?_
          refine lv_iload_n hx hb dX9_addCutter_101 rfl (lv_at hl 4 rfl) ?_
          refine mm_ast hx hb hz hm 4 (nC) (by decide) rfl (show nC < 10 by omega) dX9_addCutter_102 (fun F1 H locs hm => ?_)
          refine lv_aload_n hx hb dX9_addCutter_103 rfl (lv_at hl 1 rfl) ?_
          refine lv_dup hx hb dX9_addCutter_104 rfl ?_
          refine mm_get hx hb hT hown hz hm 1 (by decide) wd_736 rfl (v := .int (sc 1)) rfl dX9_addCutter_105 ?_
          refine fw_top (e1) ?_
          refine lv_iconst (v := (nI 1)) hx hb dX9_addCutter_108 (by decide) ?_
          refine lv_iadd hx hb dX9_addCutter_109 ?_
          refine fw_top (nI_add _ _) ?_
          refine mm_put hx hb hT hown hz hm 1 (by decide) wd_736 dX9_addCutter_110 (fun F1 H locs hm => ?_)
          refine lv_aload_n hx hb dX9_addCutter_113 rfl (lv_at hl 1 rfl) ?_
          refine mm_get hx hb hT hown hz hm 1 (by decide) wd_736 rfl (v := .int (nI (nC + 1))) rfl dX9_addCutter_114 ?_
          refine lv_iconst (v := (nI 1)) hx hb dX9_addCutter_117 (by decide) ?_
          refine lv_isub hx hb dX9_addCutter_118 ?_
          refine fw_top (pk_sub (by omega)) ?_
          exact mm_iret hx hb hr hlk (Nat.le_of_ble_eq_true rfl) (Nat.le_of_ble_eq_true rfl) hm dX9_addCutter_119 (⟨fun h => by simp [rf_okC, c0, c1, c2] at h, fun _ h => absurd h d, fun _ _ => ⟨rfl, rfl, by rw [Nat.add_sub_cancel]⟩⟩)
        · have d := (nI_eq (a := nC) (b := 10) (by omega) (by omega)).mp d
          refine lv_iconst (v := (nI 2)) hx hb dX9_addCutter_56 (by decide) ?_
          refine lv_goto (tgt := 61) hx hb dX9_addCutter_57 (by decide) ?_
          refine mm_put hx hb hT hown hz hm 0 (by decide) wd_735 dX9_addCutter_61 (fun F1 H locs hm => ?_)
          refine lv_aload_n hx hb dX9_addCutter_64 rfl (lv_at hl 1 rfl) ?_
          refine mm_get hx hb hT hown hz hm 0 (by decide) wd_735 rfl (v := .int (nI 2)) rfl dX9_addCutter_65 ?_
          refine lv_if_le (tgt := 73) hx hb dX9_addCutter_68 (by decide) (fun cx => absurd cx (by decide)) (fun cx => ?_)
          refine lv_iconst (v := (nI 0)) hx hb dX9_addCutter_71 (by decide) ?_
          exact mm_iret hx hb hr hlk (Nat.le_of_ble_eq_true rfl) (Nat.le_of_ble_eq_true rfl) hm dX9_addCutter_72 (by refine ⟨fun h => ?_, fun _ _ => ⟨rfl, rfl⟩, fun _ h => absurd d (by omega)⟩; simp [rf_okC, c0, c1, c2] at h)
set_option maxHeartbeats 4000000 in
set_option maxRecDepth 100000 in
theorem c_X9_stage (l : Launch) (G : fw_G) (F : fw_F) (sz y : Nat) (ad : Nat → Nat) (sc : mm_S) (f : mm_A) (nD : Nat) (mo a b : Int32) (hW : mm_W G F y ad sc f) (e5 : sc 5 = nI nD) (hD : nD ≤ 4) : mm_Ci l G F sz y ad yX9_stage cX9_stage 5 (.int) { frames := 1, cells := 0, slots := 0, locals := 22 } [.int mo, .int a, .int b] (fun r sc1 f1 => (rf_okS mo a b = false → f1 = f ∧ sc1 = va_up sc 0 (nI 1)) ∧ (rf_okS mo a b = true → nD = 4 → f1 = f ∧ sc1 = va_up sc 0 (nI 2)) ∧ (rf_okS mo a b = true → nD < 4 → f1 = va_up f 6 (upd (upd (upd (f 6) (3 * nD) mo) (3 * nD + 1) a) (3 * nD + 2) b) ∧ sc1 = va_up (va_up sc 0 (nI 0)) 5 (nI (nD + 1)) ∧ r = rf_dist f1 (nD + 1))) := by
  refine fw_met (lv := [(0, .ref y), (1, .int mo), (2, .int a), (3, .int b)]) (by decide +kernel) (Nat.le_of_ble_eq_true rfl) rfl ?_
  intro A hA p e s m below meth c ls hx hb hml hown hT hr hlk hin hz hsz hw hAn hl
  rw [← hA]
  have hown : s.vm.findClass RX9 = some m.cls := hown
  have C : CallFix p m c cX9_stage 5 s _ fw_tb RX9 := ⟨hx, hb, hml, hown, hT⟩
  have hm : mm_M G A s F y ad sc f F s.heap [] := ⟨hw, hW, mm_keep.rf⟩
  refine lv_iload_n hx hb dX9_stage_0 rfl (lv_at hl 1 rfl) ?_
  refine lv_iconst (v := (nI 1)) hx hb dX9_stage_1 (by decide) ?_
  refine lv_iconst (v := (nI 4)) hx hb dX9_stage_2 (by decide) ?_
  refine mm_calls (As := [.int mo, .int (nI 1), .int (nI 4)]) (rest := []) C hz hm (c_X9_in l G _ _ mo (nI 1) (nI 4)) wd_821 ySX9_in ⟨Nat.le_of_ble_eq_true rfl, Nat.le_of_ble_eq_true rfl⟩ rfl hl.1 rfl (Nat.le_of_ble_eq_true rfl) dX9_stage_3 ⟨Nat.le_of_ble_eq_true rfl, Nat.le_of_ble_eq_true rfl⟩ (fun r H locs hm hp => ?_)
  refine W.widen (k := 0) (n := 0) (Nat.le_of_ble_eq_true rfl) (Nat.le_of_ble_eq_true rfl) ?_
  subst hp
  refine lv_if_eq (tgt := 35) hx hb dX9_stage_6 (by decide) (fun c0 => ?_) (fun c0 => ?_)
  · have c0 := fw_b0 c0
    refine lv_iconst (v := (nI 0)) hx hb dX9_stage_35 (by decide) ?_
    refine lv_istore (lv' := [(4, .int (nI 0)), (0, .ref y), (1, .int mo), (2, .int a), (3, .int b)]) hx hb dX9_stage_36 hl (by decide) rfl (fun ls hl => ?_)
    refine lv_aload_n hx hb dX9_stage_38 rfl (lv_at hl 1 rfl) ?_
    refine lv_iload hx hb dX9_stage_39 (lv_at hl 0 rfl) ?_
    refine lv_if_ne (tgt := 48) hx hb dX9_stage_41 (by decide) (fun cx => absurd cx (by decide)) (fun cx => ?_)
    refine lv_iconst (v := (nI 1)) hx hb dX9_stage_44 (by decide) ?_
    refine lv_goto (tgt := 61) hx hb dX9_stage_45 (by decide) ?_
    refine mm_put hx hb hT hown hz hm 0 (by decide) wd_735 dX9_stage_61 (fun F1 H locs hm => ?_)
    refine lv_aload_n hx hb dX9_stage_64 rfl (lv_at hl 1 rfl) ?_
    refine mm_get hx hb hT hown hz hm 0 (by decide) wd_735 rfl (v := .int (nI 1)) rfl dX9_stage_65 ?_
    refine lv_if_le (tgt := 73) hx hb dX9_stage_68 (by decide) (fun cx => absurd cx (by decide)) (fun cx => ?_)
    refine lv_iconst (v := (nI 0)) hx hb dX9_stage_71 (by decide) ?_
    exact mm_iret hx hb hr hlk (Nat.le_of_ble_eq_true rfl) (Nat.le_of_ble_eq_true rfl) hm dX9_stage_72 (by refine ⟨fun _ => ⟨rfl, rfl⟩, fun h => ?_, fun h => ?_⟩ <;> simp [rf_okS, c0] at h)
  · have c0 := fw_b1 c0
    refine lv_iload_n hx hb dX9_stage_9 rfl (lv_at hl 2 rfl) ?_
    refine lv_bipush (v := (nI 8)) hx hb dX9_stage_10 (by decide) ?_
    refine lv_bipush (v := (nI 60)) hx hb dX9_stage_12 (by decide) ?_
    refine mm_calls (As := [.int a, .int (nI 8), .int (nI 60)]) (rest := []) C hz hm (c_X9_in l G _ _ a (nI 8) (nI 60)) wd_821 ySX9_in ⟨Nat.le_of_ble_eq_true rfl, Nat.le_of_ble_eq_true rfl⟩ rfl hl.1 rfl (Nat.le_of_ble_eq_true rfl) dX9_stage_14 ⟨Nat.le_of_ble_eq_true rfl, Nat.le_of_ble_eq_true rfl⟩ (fun r H locs hm hp => ?_)
    refine W.widen (k := 0) (n := 0) (Nat.le_of_ble_eq_true rfl) (Nat.le_of_ble_eq_true rfl) ?_
    subst hp
    refine lv_if_eq (tgt := 35) hx hb dX9_stage_17 (by decide) (fun c1 => ?_) (fun c1 => ?_)
    · have c1 := fw_b0 c1
      refine lv_iconst (v := (nI 0)) hx hb dX9_stage_35 (by decide) ?_
      refine lv_istore (lv' := [(4, .int (nI 0)), (0, .ref y), (1, .int mo), (2, .int a), (3, .int b)]) hx hb dX9_stage_36 hl (by decide) rfl (fun ls hl => ?_)
      refine lv_aload_n hx hb dX9_stage_38 rfl (lv_at hl 1 rfl) ?_
      refine lv_iload hx hb dX9_stage_39 (lv_at hl 0 rfl) ?_
      refine lv_if_ne (tgt := 48) hx hb dX9_stage_41 (by decide) (fun cx => absurd cx (by decide)) (fun cx => ?_)
      refine lv_iconst (v := (nI 1)) hx hb dX9_stage_44 (by decide) ?_
      refine lv_goto (tgt := 61) hx hb dX9_stage_45 (by decide) ?_
      refine mm_put hx hb hT hown hz hm 0 (by decide) wd_735 dX9_stage_61 (fun F1 H locs hm => ?_)
      refine lv_aload_n hx hb dX9_stage_64 rfl (lv_at hl 1 rfl) ?_
      refine mm_get hx hb hT hown hz hm 0 (by decide) wd_735 rfl (v := .int (nI 1)) rfl dX9_stage_65 ?_
      refine lv_if_le (tgt := 73) hx hb dX9_stage_68 (by decide) (fun cx => absurd cx (by decide)) (fun cx => ?_)
      refine lv_iconst (v := (nI 0)) hx hb dX9_stage_71 (by decide) ?_
      exact mm_iret hx hb hr hlk (Nat.le_of_ble_eq_true rfl) (Nat.le_of_ble_eq_true rfl) hm dX9_stage_72 (by refine ⟨fun _ => ⟨rfl, rfl⟩, fun h => ?_, fun h => ?_⟩ <;> simp [rf_okS, c0, c1] at h)
    · have c1 := fw_b1 c1
      refine lv_iload_n hx hb dX9_stage_20 rfl (lv_at hl 3 rfl) ?_
      refine lv_bipush (v := (nI 8)) hx hb dX9_stage_21 (by decide) ?_
      refine lv_bipush (v := (nI 60)) hx hb dX9_stage_23 (by decide) ?_
      refine mm_calls (As := [.int b, .int (nI 8), .int (nI 60)]) (rest := []) C hz hm (c_X9_in l G _ _ b (nI 8) (nI 60)) wd_821 ySX9_in ⟨Nat.le_of_ble_eq_true rfl, Nat.le_of_ble_eq_true rfl⟩ rfl hl.1 rfl (Nat.le_of_ble_eq_true rfl) dX9_stage_25 ⟨Nat.le_of_ble_eq_true rfl, Nat.le_of_ble_eq_true rfl⟩ (fun r H locs hm hp => ?_)
      refine W.widen (k := 0) (n := 0) (Nat.le_of_ble_eq_true rfl) (Nat.le_of_ble_eq_true rfl) ?_
      subst hp
      refine lv_if_eq (tgt := 35) hx hb dX9_stage_28 (by decide) (fun c2 => ?_) (fun c2 => ?_)
      · have c2 := fw_b0 c2
        refine lv_iconst (v := (nI 0)) hx hb dX9_stage_35 (by decide) ?_
        refine lv_istore (lv' := [(4, .int (nI 0)), (0, .ref y), (1, .int mo), (2, .int a), (3, .int b)]) hx hb dX9_stage_36 hl (by decide) rfl (fun ls hl => ?_)
        refine lv_aload_n hx hb dX9_stage_38 rfl (lv_at hl 1 rfl) ?_
        refine lv_iload hx hb dX9_stage_39 (lv_at hl 0 rfl) ?_
        refine lv_if_ne (tgt := 48) hx hb dX9_stage_41 (by decide) (fun cx => absurd cx (by decide)) (fun cx => ?_)
        refine lv_iconst (v := (nI 1)) hx hb dX9_stage_44 (by decide) ?_
        refine lv_goto (tgt := 61) hx hb dX9_stage_45 (by decide) ?_
        refine mm_put hx hb hT hown hz hm 0 (by decide) wd_735 dX9_stage_61 (fun F1 H locs hm => ?_)
        refine lv_aload_n hx hb dX9_stage_64 rfl (lv_at hl 1 rfl) ?_
        refine mm_get hx hb hT hown hz hm 0 (by decide) wd_735 rfl (v := .int (nI 1)) rfl dX9_stage_65 ?_
        refine lv_if_le (tgt := 73) hx hb dX9_stage_68 (by decide) (fun cx => absurd cx (by decide)) (fun cx => ?_)
        refine lv_iconst (v := (nI 0)) hx hb dX9_stage_71 (by decide) ?_
        exact mm_iret hx hb hr hlk (Nat.le_of_ble_eq_true rfl) (Nat.le_of_ble_eq_true rfl) hm dX9_stage_72 (by refine ⟨fun _ => ⟨rfl, rfl⟩, fun h => ?_, fun h => ?_⟩ <;> simp [rf_okS, c0, c1, c2] at h)
      · have c2 := fw_b1 c2
        refine lv_iconst (v := (nI 1)) hx hb dX9_stage_31 (by decide) ?_
        refine lv_goto (tgt := 36) hx hb dX9_stage_32 (by decide) ?_
        refine lv_istore (lv' := [(4, .int (nI 1)), (0, .ref y), (1, .int mo), (2, .int a), (3, .int b)]) hx hb dX9_stage_36 hl (by decide) rfl (fun ls hl => ?_)
        refine lv_aload_n hx hb dX9_stage_38 rfl (lv_at hl 1 rfl) ?_
        refine lv_iload hx hb dX9_stage_39 (lv_at hl 0 rfl) ?_
        refine lv_if_ne (tgt := 48) hx hb dX9_stage_41 (by decide) (fun cx => ?_) (fun cx => absurd cx (by decide))
        refine lv_aload_n hx hb dX9_stage_48 rfl (lv_at hl 1 rfl) ?_
        refine mm_get hx hb hT hown hz hm 5 (by decide) wd_740 rfl (v := .int (sc 5)) rfl dX9_stage_49 ?_
        refine fw_top (e5) ?_
        refine lv_iconst (v := (nI 4)) hx hb dX9_stage_52 (by decide) ?_
        refine lv_icmp_ne (tgt := 60) hx hb dX9_stage_53 (by decide) (fun d => ?_) (fun d => ?_)
        · have d : ¬ nD = 4 := fun h9 => d ((nI_eq (a := nD) (b := 4) (by omega) (by omega)).mpr h9)
          have hd : nD < 4 := by omega
          refine lv_iconst (v := (nI 0)) hx hb dX9_stage_60 (by decide) ?_
          refine mm_put hx hb hT hown hz hm 0 (by decide) wd_735 dX9_stage_61 (fun F1 H locs hm => ?_)
          refine lv_aload_n hx hb dX9_stage_64 rfl (lv_at hl 1 rfl) ?_
          refine mm_get hx hb hT hown hz hm 0 (by decide) wd_735 rfl (v := .int (nI 0)) rfl dX9_stage_65 ?_
          refine lv_if_le (tgt := 73) hx hb dX9_stage_68 (by decide) (fun cx => ?_) (fun cx => absurd cx (by decide))
          refine lv_aload_n hx hb dX9_stage_73 rfl (lv_at hl 1 rfl) ?_
          refine mm_get hx hb hT hown hz hm 6 (by decide) wd_741 rfl (v := .ref (ad 6)) rfl dX9_stage_74 ?_
          refine lv_iconst (v := (nI 3)) hx hb dX9_stage_77 (by decide) ?_
          refine lv_aload_n hx hb dX9_stage_78 rfl (lv_at hl 1 rfl) ?_
          refine mm_get hx hb hT hown hz hm 5 (by decide) wd_740 rfl (v := .int (sc 5)) rfl dX9_stage_79 ?_
          refine fw_top (e5) ?_
          refine lv_imul hx hb dX9_stage_82 ?_
          refine fw_top (pk_mul _ _) ?_
          refine lv_iload_n hx hb dX9_stage_83 rfl (lv_at hl 2 rfl) ?_
          refine mm_ast hx hb hz hm 6 (3 * nD) (by decide) rfl (show 3 * nD < 12 by omega) dX9_stage_84 (fun F1 H locs hm => ?_)
          refine lv_aload_n hx hb dX9_stage_85 rfl (lv_at hl 1 rfl) ?_
          refine mm_get hx hb hT hown hz hm 6 (by decide) wd_741 rfl (v := .ref (ad 6)) rfl dX9_stage_86 ?_
          refine lv_iconst (v := (nI 3)) hx hb dX9_stage_89 (by decide) ?_
          refine lv_aload_n hx hb dX9_stage_90 rfl (lv_at hl 1 rfl) ?_
          refine mm_get hx hb hT hown hz hm 5 (by decide) wd_740 rfl (v := .int (sc 5)) rfl dX9_stage_91 ?_
          refine fw_top (e5) ?_
          refine lv_imul hx hb dX9_stage_94 ?_
          refine fw_top (pk_mul _ _) ?_
          refine lv_iconst (v := (nI 1)) hx hb dX9_stage_95 (by decide) ?_
          refine lv_iadd hx hb dX9_stage_96 ?_
          refine fw_top (nI_add _ _) ?_
          refine lv_iload_n hx hb dX9_stage_97 rfl (lv_at hl 3 rfl) ?_
          refine mm_ast hx hb hz hm 6 ((3 * nD) + 1) (by decide) rfl (show (3 * nD) + 1 < 12 by omega) dX9_stage_98 (fun F1 H locs hm => ?_)
          refine lv_aload_n hx hb dX9_stage_99 rfl (lv_at hl 1 rfl) ?_
          refine mm_get hx hb hT hown hz hm 6 (by decide) wd_741 rfl (v := .ref (ad 6)) rfl dX9_stage_100 ?_
          refine lv_iconst (v := (nI 3)) hx hb dX9_stage_103 (by decide) ?_
          refine lv_aload_n hx hb dX9_stage_104 rfl (lv_at hl 1 rfl) ?_
          refine mm_get hx hb hT hown hz hm 5 (by decide) wd_740 rfl (v := .int (sc 5)) rfl dX9_stage_105 ?_
          refine fw_top (e5) ?_
          refine lv_imul hx hb dX9_stage_108 ?_
          refine fw_top (pk_mul _ _) ?_
          refine lv_iconst (v := (nI 2)) hx hb dX9_stage_109 (by decide) ?_
          refine lv_iadd hx hb dX9_stage_110 ?_
          refine fw_top (nI_add _ _) ?_
          refine lv_iload_n hx hb dX9_stage_111 rfl (lv_at hl 4 rfl) ?_
          refine mm_ast hx hb hz hm 6 ((3 * nD) + 2) (by decide) rfl (show (3 * nD) + 2 < 12 by omega) dX9_stage_112 (fun F1 H locs hm => ?_)
          refine lv_aload_n hx hb dX9_stage_113 rfl (lv_at hl 1 rfl) ?_
          refine lv_dup hx hb dX9_stage_114 rfl ?_
          refine mm_get hx hb hT hown hz hm 5 (by decide) wd_740 rfl (v := .int (sc 5)) rfl dX9_stage_115 ?_
          refine fw_top (e5) ?_
          refine lv_iconst (v := (nI 1)) hx hb dX9_stage_118 (by decide) ?_
          refine lv_iadd hx hb dX9_stage_119 ?_
          refine fw_top (nI_add _ _) ?_
          refine mm_put hx hb hT hown hz hm 5 (by decide) wd_740 dX9_stage_120 (fun F1 H locs hm => ?_)
          refine lv_aload_n hx hb dX9_stage_123 rfl (lv_at hl 1 rfl) ?_
          have hmf : mm_M G A s F y ad (va_up (va_up sc 0 (nI 0)) 5 (nI (nD + 1))) (va_up f 6 (upd (upd (upd (f 6) (3 * nD) mo) (3 * nD + 1) a) (3 * nD + 2) b)) F1 H locs := by
            refine Eq.mp (congrArg (fun z => mm_M G A s F y ad _ z F1 H locs) ?_) hm
            funext k; by_cases hk : k = 6 <;> simp [va_up, hk]
          have hm := hmf
          refine mm_calli (As := []) (rest := []) C hz hm (c_X9_draftDistance l G _ _ y ad _ _ (nD + 1) hm.2.1 rfl (by omega)) wd_836 yVX9_draftDistance ⟨Nat.le_of_ble_eq_true rfl, Nat.le_of_ble_eq_true rfl⟩ rfl hl.1 rfl (Nat.le_of_ble_eq_true rfl) dX9_stage_124 ⟨Nat.le_of_ble_eq_true rfl, Nat.le_of_ble_eq_true rfl⟩ (fun r sc1 f1 F1 H locs hm hp => ?_)
          refine W.widen (k := 0) (n := 0) (Nat.le_of_ble_eq_true rfl) (Nat.le_of_ble_eq_true rfl) ?_
          obtain ⟨h7, h8, h9⟩ := hp
          rw [h7, h8] at hm
          exact mm_iret hx hb hr hlk (Nat.le_of_ble_eq_true rfl) (Nat.le_of_ble_eq_true rfl) hm dX9_stage_127 (by refine ⟨fun h => ?_, fun _ h => absurd h d, fun _ _ => ⟨rfl, rfl, h9⟩⟩; simp [rf_okS, c0, c1, c2] at h)
        · have d := (nI_eq (a := nD) (b := 4) (by omega) (by omega)).mp d
          refine lv_iconst (v := (nI 2)) hx hb dX9_stage_56 (by decide) ?_
          refine lv_goto (tgt := 61) hx hb dX9_stage_57 (by decide) ?_
          refine mm_put hx hb hT hown hz hm 0 (by decide) wd_735 dX9_stage_61 (fun F1 H locs hm => ?_)
          refine lv_aload_n hx hb dX9_stage_64 rfl (lv_at hl 1 rfl) ?_
          refine mm_get hx hb hT hown hz hm 0 (by decide) wd_735 rfl (v := .int (nI 2)) rfl dX9_stage_65 ?_
          refine lv_if_le (tgt := 73) hx hb dX9_stage_68 (by decide) (fun cx => absurd cx (by decide)) (fun cx => ?_)
          refine lv_iconst (v := (nI 0)) hx hb dX9_stage_71 (by decide) ?_
          exact mm_iret hx hb hr hlk (Nat.le_of_ble_eq_true rfl) (Nat.le_of_ble_eq_true rfl) hm dX9_stage_72 (by refine ⟨fun h => ?_, fun _ _ => ⟨rfl, rfl⟩, fun _ h => absurd d (by omega)⟩; simp [rf_okS, c0, c1, c2] at h)
theorem rf_in_of {t : Int32} {n j : Nat} (hn : n ≤ 100) (hj : j < n) (h : t = nI j) : rf_ix t n = true := by
  subst h
  refine rf_in_t.mpr ⟨nI_le (Nat.zero_le _) (by omega), ?_⟩
  rw [pk_sub (by omega)]
  exact nI_le (by omega) (by omega)
theorem nI_j {a b : Nat} (ha : a ≤ 1000) (hb : b ≤ 1000) (h : nI a = nI b) : a = b := (nI_eq (by omega) (by omega)).mp h
set_option maxHeartbeats 4000000 in
set_option maxRecDepth 100000 in
theorem c_X9_doneAt (l : Launch) (G : fw_G) (F : fw_F) (sz y : Nat) (ad : Nat → Nat) (sc : mm_S) (f : mm_A) (nO : Nat) (t : Int32) (hW : mm_W G F y ad sc f) (e7 : sc 11 = nI nO) (hn : nO ≤ 12) : mm_Ci l G F sz y ad yX9_doneAt cX9_doneAt 2 (.int) { frames := 2, cells := 0, slots := 0, locals := 43 } [.int t] (fun r sc1 f1 => f1 = f ∧ sc1 = va_up sc 0 (fw_b (!rf_ix t nO)) ∧ (∀ j, j < nO → t = nI j → r = f 13 j)) := by
  refine fw_met (lv := [(0, .ref y), (1, .int t)]) (by decide +kernel) (Nat.le_of_ble_eq_true rfl) rfl ?_
  intro A hA p e s m below meth c ls hx hb hml hown hT hr hlk hin hz hsz hw hAn hl
  rw [← hA]
  have hown : s.vm.findClass RX9 = some m.cls := hown
  have C : CallFix p m c cX9_doneAt 2 s _ fw_tb RX9 := ⟨hx, hb, hml, hown, hT⟩
  have hm : mm_M G A s F y ad sc f F s.heap [] := ⟨hw, hW, mm_keep.rf⟩
  refine lv_aload_n hx hb dX9_doneAt_0 rfl (lv_at hl 0 rfl) ?_
  refine lv_iload_n hx hb dX9_doneAt_1 rfl (lv_at hl 1 rfl) ?_
  refine mm_calli (As := [.int t]) (rest := []) C hz hm (c_X9_isOrder l G _ _ y ad _ _ nO t hm.2.1 e7) wd_933 yVX9_isOrder ⟨Nat.le_of_ble_eq_true rfl, Nat.le_of_ble_eq_true rfl⟩ rfl hl.1 rfl (Nat.le_of_ble_eq_true rfl) dX9_doneAt_2 ⟨Nat.le_of_ble_eq_true rfl, Nat.le_of_ble_eq_true rfl⟩ (fun r sc1 f1 F1 H locs hm hp => ?_)
  refine W.widen (k := 0) (n := 0) (Nat.le_of_ble_eq_true rfl) (Nat.le_of_ble_eq_true rfl) ?_
  obtain ⟨h7, h8, h9⟩ := hp
  rw [h7, h8] at hm
  subst h9
  refine lv_if_eq (tgt := 17) hx hb dX9_doneAt_5 (by decide) (fun c => ?_) (fun c => ?_)
  · have c := fw_b0 c
    refine lv_iconst (v := (nI 0)) hx hb dX9_doneAt_17 (by decide) ?_
    exact mm_iret hx hb hr hlk (Nat.le_of_ble_eq_true rfl) (Nat.le_of_ble_eq_true rfl) hm dX9_doneAt_18 (⟨rfl, rfl, fun j h1 h2 => absurd (rf_in_of (by omega) h1 h2) (by rw [c]; decide)⟩)
  · have c := fw_b1 c
    obtain ⟨j, hj, rfl⟩ : ∃ j, j < nO ∧ t = nI j := rf_ix_t (by omega) c
    refine lv_aload_n hx hb dX9_doneAt_8 rfl (lv_at hl 0 rfl) ?_
    refine mm_get hx hb hT hown hz hm 13 (by decide) wd_748 rfl (v := .ref (ad 13)) rfl dX9_doneAt_9 ?_
    refine lv_iload_n hx hb dX9_doneAt_12 rfl (lv_at hl 1 rfl) ?_
    refine mm_ald hx hb hz hm 13 (j) (by decide) rfl (show j < 12 by omega) dX9_doneAt_13 ?_
    refine lv_goto (tgt := 18) hx hb dX9_doneAt_14 (by decide) ?_
    exact mm_iret hx hb hr hlk (Nat.le_of_ble_eq_true rfl) (Nat.le_of_ble_eq_true rfl) hm dX9_doneAt_18 (⟨rfl, rfl, fun i h1 h2 => by rw [nI_j (by omega) (by omega) h2]⟩)
set_option maxHeartbeats 4000000 in
set_option maxRecDepth 100000 in
theorem c_X9_claims (l : Launch) (G : fw_G) (F : fw_F) (sz y : Nat) (ad : Nat → Nat) (sc : mm_S) (f : mm_A) (nT : Nat) (t : Int32) (hW : mm_W G F y ad sc f) (e7 : sc 7 = nI nT) (hn : nT ≤ 8) : mm_Ci l G F sz y ad yX9_claims cX9_claims 2 (.int) { frames := 2, cells := 0, slots := 0, locals := 43 } [.int t] (fun r sc1 f1 => f1 = f ∧ sc1 = va_up sc 0 (fw_b (!rf_ix t nT)) ∧ (∀ j, j < nT → t = nI j → r = f 10 j)) := by
  refine fw_met (lv := [(0, .ref y), (1, .int t)]) (by decide +kernel) (Nat.le_of_ble_eq_true rfl) rfl ?_
  intro A hA p e s m below meth c ls hx hb hml hown hT hr hlk hin hz hsz hw hAn hl
  rw [← hA]
  have hown : s.vm.findClass RX9 = some m.cls := hown
  have C : CallFix p m c cX9_claims 2 s _ fw_tb RX9 := ⟨hx, hb, hml, hown, hT⟩
  have hm : mm_M G A s F y ad sc f F s.heap [] := ⟨hw, hW, mm_keep.rf⟩
  refine lv_aload_n hx hb dX9_claims_0 rfl (lv_at hl 0 rfl) ?_
  refine lv_iload_n hx hb dX9_claims_1 rfl (lv_at hl 1 rfl) ?_
  refine mm_calli (As := [.int t]) (rest := []) C hz hm (c_X9_isTrain l G _ _ y ad _ _ nT t hm.2.1 e7) wd_852 yVX9_isTrain ⟨Nat.le_of_ble_eq_true rfl, Nat.le_of_ble_eq_true rfl⟩ rfl hl.1 rfl (Nat.le_of_ble_eq_true rfl) dX9_claims_2 ⟨Nat.le_of_ble_eq_true rfl, Nat.le_of_ble_eq_true rfl⟩ (fun r sc1 f1 F1 H locs hm hp => ?_)
  refine W.widen (k := 0) (n := 0) (Nat.le_of_ble_eq_true rfl) (Nat.le_of_ble_eq_true rfl) ?_
  obtain ⟨h7, h8, h9⟩ := hp
  rw [h7, h8] at hm
  subst h9
  refine lv_if_eq (tgt := 17) hx hb dX9_claims_5 (by decide) (fun c => ?_) (fun c => ?_)
  · have c := fw_b0 c
    refine lv_iconst (v := (nI 0)) hx hb dX9_claims_17 (by decide) ?_
    exact mm_iret hx hb hr hlk (Nat.le_of_ble_eq_true rfl) (Nat.le_of_ble_eq_true rfl) hm dX9_claims_18 (⟨rfl, rfl, fun j h1 h2 => absurd (rf_in_of (by omega) h1 h2) (by rw [c]; decide)⟩)
  · have c := fw_b1 c
    obtain ⟨j, hj, rfl⟩ : ∃ j, j < nT ∧ t = nI j := rf_ix_t (by omega) c
    refine lv_aload_n hx hb dX9_claims_8 rfl (lv_at hl 0 rfl) ?_
    refine mm_get hx hb hT hown hz hm 10 (by decide) wd_745 rfl (v := .ref (ad 10)) rfl dX9_claims_9 ?_
    refine lv_iload_n hx hb dX9_claims_12 rfl (lv_at hl 1 rfl) ?_
    refine mm_ald hx hb hz hm 10 (j) (by decide) rfl (show j < 8 by omega) dX9_claims_13 ?_
    refine lv_goto (tgt := 18) hx hb dX9_claims_14 (by decide) ?_
    exact mm_iret hx hb hr hlk (Nat.le_of_ble_eq_true rfl) (Nat.le_of_ble_eq_true rfl) hm dX9_claims_18 (⟨rfl, rfl, fun i h1 h2 => by rw [nI_j (by omega) (by omega) h2]⟩)
