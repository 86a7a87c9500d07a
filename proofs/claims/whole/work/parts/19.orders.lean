/-! The reference's methods: orders, trains, designs. -/
theorem rf_cutL_cong {f g : mm_A} {mo te : Int32} (h2 : f 2 = g 2) (h3 : f 3 = g 3) (h4 : f 4 = g 4) : ∀ (j : Nat) (its : Int32), rf_cutL f mo te j its = rf_cutL g mo te j its
  | 0, _ => rfl
  | j + 1, its => by rw [rf_cutL, rf_cutL, h2, h3, h4]; exact rf_cutL_cong h2 h3 h4 j _
theorem rf_cut_cong {f g : mm_A} {mo te : Int32} {n : Nat} (h2 : f 2 = g 2) (h3 : f 3 = g 3) (h4 : f 4 = g 4) : rf_cut f n mo te = rf_cut g n mo te := rf_cutL_cong h2 h3 h4 n _
def rf_addJ (f : mm_A) (nJ nC : Nat) (o mo te : Int32) : mm_A := va_up (va_up (va_up (va_up f 17 (upd (f 17) nJ o)) 18 (upd (f 18) nJ (rf_cut f nC mo te))) 19 (upd (f 19) nJ te)) 20 (upd (f 20) nJ (-1))
def rf_ordJ (f : mm_A) (nC nJ nO t : Nat) : Nat → mm_A
  | 0 => f
  | k + 1 => rf_addJ (rf_addJ (rf_ordJ f nC nJ nO t k) (nJ + 2 * k) nC (nI nO) (f 9 (12 * t + 3 * k)) (f 9 (12 * t + 3 * k + 1))) (nJ + 2 * k + 1) nC (nI nO) (f 9 (12 * t + 3 * k)) (f 9 (12 * t + 3 * k + 2))
theorem rf_ordJ_s (f : mm_A) (nC nJ nO t k : Nat) : rf_ordJ f nC nJ nO t (k + 1) = rf_addJ (rf_addJ (rf_ordJ f nC nJ nO t k) (nJ + 2 * k) nC (nI nO) (f 9 (12 * t + 3 * k)) (f 9 (12 * t + 3 * k + 1))) (nJ + 2 * k + 1) nC (nI nO) (f 9 (12 * t + 3 * k)) (f 9 (12 * t + 3 * k + 2)) := rfl
theorem rf_ordJ_9 (f : mm_A) (nC nJ nO t : Nat) : ∀ k, rf_ordJ f nC nJ nO t k 9 = f 9 ∧ rf_ordJ f nC nJ nO t k 8 = f 8 ∧ rf_ordJ f nC nJ nO t k 12 = f 12 ∧ rf_ordJ f nC nJ nO t k 13 = f 13
  | 0 => ⟨rfl, rfl, rfl, rfl⟩
  | k + 1 => rf_ordJ_9 f nC nJ nO t k
def rf_cans (f : mm_A) (nC : Nat) (b : Bool) : Nat → Bool
  | 0 => b
  | k + 1 => rf_cans f nC b k && !(decide (rf_cut f nC (f 6 (3 * k)) (f 6 (3 * k + 1)) = -1)) && !(decide (rf_cut f nC (f 6 (3 * k)) (f 6 (3 * k + 2)) = -1))
theorem rf_cans_s (f : mm_A) (nC : Nat) (b : Bool) (k : Nat) : rf_cans f nC b (k + 1) = (rf_cans f nC b k && !(decide (rf_cut f nC (f 6 (3 * k)) (f 6 (3 * k + 1)) = -1)) && !(decide (rf_cut f nC (f 6 (3 * k)) (f 6 (3 * k + 2)) = -1))) := rfl
theorem rf_cans_t {f : mm_A} {nC : Nat} {b : Bool} : ∀ {k : Nat}, rf_cans f nC b k = true → b = true
  | 0, h => h
  | k + 1, h => by
    rw [rf_cans_s, Bool.and_eq_true, Bool.and_eq_true] at h
    exact rf_cans_t h.1.1
def rf_can0 (f : mm_A) (nD nT : Nat) (ds : Int32) : Bool := decide (0 < nD) && decide (ds = rf_dist f nD) && decide (nT < 8)
def rf_copy (f : mm_A) (nT : Nat) : Nat → Nat → Int32
  | 0 => f 9
  | k + 1 => upd (rf_copy f nT k) (12 * nT + k) (f 6 k)
def rf_lk (f : mm_A) (nC : Nat) (mo te : Int32) : Nat := if rf_cut f nC mo te = -1 then 1 else 0
theorem rf_lk_b {f : mm_A} {nC : Nat} {mo te : Int32} : fw_b (decide (rf_cut f nC mo te = -1)) = nI (rf_lk f nC mo te) := by
  unfold rf_lk
  by_cases h : rf_cut f nC mo te = -1
  · rw [decide_eq_true h, if_pos h]; rfl
  · rw [decide_eq_false h, if_neg h]; rfl
theorem rf_lk_le (f : mm_A) (nC : Nat) (mo te : Int32) : rf_lk f nC mo te ≤ 1 := by unfold rf_lk; split <;> omega
def rf_news (f : mm_A) (nC : Nat) (mo x1 x2 x3 x4 : Int32) : Nat := rf_lk f nC mo x1 + (if x2 = x1 then 0 else rf_lk f nC mo x2) + (if x3 = x1 ∨ x3 = x2 then 0 else rf_lk f nC mo x3) + (if x4 = x1 ∨ x4 = x2 ∨ x4 = x3 then 0 else rf_lk f nC mo x4)
def rf_ln (f : mm_A) (nC : Nat) (mo : Int32) (ab be : Nat) : Nat → Int32
  | 0 => -1
  | k + 1 => if (8 + k / 13 % 13) * (8 + k / 2197) * be = (8 + k % 13) * (8 + k / 169 % 13) * ab then
      (if rf_ln f nC mo ab be k = -1 ∨ nI (rf_news f nC mo (nI (8 + k % 13)) (nI (8 + k / 13 % 13)) (nI (8 + k / 169 % 13)) (nI (8 + k / 2197))) < rf_ln f nC mo ab be k then nI (rf_news f nC mo (nI (8 + k % 13)) (nI (8 + k / 13 % 13)) (nI (8 + k / 169 % 13)) (nI (8 + k / 2197))) else rf_ln f nC mo ab be k) else rf_ln f nC mo ab be k
theorem rf_ln_s (f : mm_A) (nC : Nat) (mo : Int32) (ab be k : Nat) : rf_ln f nC mo ab be (k + 1) = if (8 + k / 13 % 13) * (8 + k / 2197) * be = (8 + k % 13) * (8 + k / 169 % 13) * ab then
      (if rf_ln f nC mo ab be k = -1 ∨ nI (rf_news f nC mo (nI (8 + k % 13)) (nI (8 + k / 13 % 13)) (nI (8 + k / 169 % 13)) (nI (8 + k / 2197))) < rf_ln f nC mo ab be k then nI (rf_news f nC mo (nI (8 + k % 13)) (nI (8 + k / 13 % 13)) (nI (8 + k / 169 % 13)) (nI (8 + k / 2197))) else rf_ln f nC mo ab be k) else rf_ln f nC mo ab be k := rfl
def rf_okL (mo ab be : Int32) : Bool := rf_in mo (nI 1) (nI 4) && rf_in ab (nI 1) (nI 400) && rf_in be (nI 1) (nI 400)
set_option maxHeartbeats 4000000 in
set_option maxRecDepth 100000 in
theorem c_X9_wear (l : Launch) (G : fw_G) (F : fw_F) (sz y : Nat) (ad : Nat → Nat) (sc : mm_S) (f : mm_A) (nO nT : Nat) (o q : Int32) (hW : mm_W G F y ad sc f) (e11 : sc 11 = nI nO) (hO : nO ≤ 12) (hn : nT ≤ 8) (htok : ∀ j, j < nT → rf_tok f j) (hot : ∀ j, j < nO → f 12 j = nI (rf_ot f j) ∧ rf_ot f j < nT) : mm_Ci l G F sz y ad yX9_wear cX9_wear 3 (.int) { frames := 2, cells := 0, slots := 0, locals := 43 } [.int o, .int q] (fun r sc1 f1 => f1 = f ∧ (rf_ix o nO = false → sc1 = va_up sc 0 (nI 1)) ∧ (∀ j, j < nO → o = nI j → (rf_ix q (rf_sm f (rf_ot f j)) = false → sc1 = va_up sc 0 (nI 1)) ∧ ∀ i, i < rf_sm f (rf_ot f j) → q = nI i → sc1 = va_up sc 0 (nI 0) ∧ r = f 15 (4 * j + i))) := by
  refine fw_met (lv := [(0, .ref y), (1, .int o), (2, .int q)]) (by decide +kernel) (Nat.le_of_ble_eq_true rfl) rfl ?_
  intro A hA p e s m below meth c ls hx hb hml hown hT hr hlk hin hz hsz hw hAn hl
  rw [← hA]
  have hown : s.vm.findClass RX9 = some m.cls := hown
  have C : CallFix p m c cX9_wear 3 s _ fw_tb RX9 := ⟨hx, hb, hml, hown, hT⟩
  have hm : mm_M G A s F y ad sc f F s.heap [] := ⟨hw, hW, mm_keep.rf⟩
  refine lv_aload_n hx hb dX9_wear_0 rfl (lv_at hl 0 rfl) ?_
  refine lv_aload_n hx hb dX9_wear_1 rfl (lv_at hl 0 rfl) ?_
  refine lv_iload_n hx hb dX9_wear_2 rfl (lv_at hl 1 rfl) ?_
  refine mm_calli (As := [.int o]) (rest := [.ref y]) C hz hm (c_X9_isOrder l G _ _ y ad _ _ nO o hm.2.1 e11) wd_933 yVX9_isOrder ⟨Nat.le_of_ble_eq_true rfl, Nat.le_of_ble_eq_true rfl⟩ rfl hl.1 rfl (Nat.le_of_ble_eq_true rfl) dX9_wear_3 ⟨Nat.le_of_ble_eq_true rfl, Nat.le_of_ble_eq_true rfl⟩ (fun r sc1 f1 F1 H locs hm hp => ?_)
  refine W.widen (k := 0) (n := 0) (Nat.le_of_ble_eq_true rfl) (Nat.le_of_ble_eq_true rfl) ?_
  obtain ⟨h7, h8, h9⟩ := hp
  rw [h7, h8] at hm
  subst h9
  refine lv_if_eq (tgt := 34) hx hb dX9_wear_6 (by decide) (fun h1 => ?_) (fun h1 => ?_)
  · have h1 := fw_b0 h1
    refine lv_iconst (v := (nI 1)) hx hb dX9_wear_34 (by decide) ?_
    refine mm_put hx hb hT hown hz hm 0 (by decide) wd_735 dX9_wear_35 (fun F1 H locs hm => ?_)
    refine lv_aload_n hx hb dX9_wear_38 rfl (lv_at hl 0 rfl) ?_
    refine mm_get hx hb hT hown hz hm 0 (by decide) wd_735 rfl (v := .int (nI 1)) rfl dX9_wear_39 ?_
    refine lv_if_le (tgt := 49) hx hb dX9_wear_42 (by decide) (fun cx => absurd cx (by decide)) (fun cx => ?_)
    refine lv_iconst (v := (nI 0)) hx hb dX9_wear_45 (by decide) ?_
    refine lv_goto (tgt := 59) hx hb dX9_wear_46 (by decide) ?_
    exact mm_iret hx hb hr hlk (Nat.le_of_ble_eq_true rfl) (Nat.le_of_ble_eq_true rfl) hm dX9_wear_59 (⟨rfl, fun _ => bx_uu _ _ _ _, fun j g1 g2 => absurd (rf_in_of (by omega) g1 g2) (by rw [h1]; decide)⟩)
  · have h1 := fw_b1 h1
    obtain ⟨j, hj, rfl⟩ := rf_ix_t (by omega) h1
    obtain ⟨h2, h3⟩ := hot j hj
    have h4 := htok _ h3
    have h5 := h4.2.2.1
    refine lv_iload_n hx hb dX9_wear_9 rfl (lv_at hl 2 rfl) ?_
    refine lv_iconst (v := (nI 0)) hx hb dX9_wear_10 (by decide) ?_
    refine lv_aload_n hx hb dX9_wear_11 rfl (lv_at hl 0 rfl) ?_
    refine mm_get hx hb hT hown hz hm 8 (by decide) wd_743 rfl (v := .ref (ad 8)) rfl dX9_wear_12 ?_
    refine lv_aload_n hx hb dX9_wear_15 rfl (lv_at hl 0 rfl) ?_
    refine mm_get hx hb hT hown hz hm 12 (by decide) wd_747 rfl (v := .ref (ad 12)) rfl dX9_wear_16 ?_
    refine lv_iload_n hx hb dX9_wear_19 rfl (lv_at hl 1 rfl) ?_
    refine mm_ald hx hb hz hm 12 (j) (by decide) rfl (show j < 12 by omega) dX9_wear_20 ?_
    refine fw_top (x' := (nI (rf_ot f j))) (h2) ?_
    refine mm_ald hx hb hz hm 8 (rf_ot f j) (by decide) rfl (show rf_ot f j < 8 by omega) dX9_wear_21 ?_
    refine fw_top (x' := (nI (rf_sm f (rf_ot f j)))) (h4.1) ?_
    refine lv_iconst (v := (nI 1)) hx hb dX9_wear_22 (by decide) ?_
    refine lv_isub hx hb dX9_wear_23 ?_
    refine mm_calls (As := [.int q, .int (nI 0), .int ((nI (rf_sm f (rf_ot f j))) - (nI 1))]) (rest := [.ref y]) C hz hm (c_X9_in l G _ _ q (nI 0) (nI (rf_sm f (rf_ot f j)) - nI 1)) wd_821 ySX9_in ⟨Nat.le_of_ble_eq_true rfl, Nat.le_of_ble_eq_true rfl⟩ rfl hl.1 rfl (Nat.le_of_ble_eq_true rfl) dX9_wear_24 ⟨Nat.le_of_ble_eq_true rfl, Nat.le_of_ble_eq_true rfl⟩ (fun r H locs hm hp => ?_)
    refine W.widen (k := 0) (n := 0) (Nat.le_of_ble_eq_true rfl) (Nat.le_of_ble_eq_true rfl) ?_
    subst hp
    refine lv_if_eq (tgt := 34) hx hb dX9_wear_27 (by decide) (fun d => ?_) (fun d => ?_)
    · have d := fw_b0 d
      refine lv_iconst (v := (nI 1)) hx hb dX9_wear_34 (by decide) ?_
      refine mm_put hx hb hT hown hz hm 0 (by decide) wd_735 dX9_wear_35 (fun F1 H locs hm => ?_)
      refine lv_aload_n hx hb dX9_wear_38 rfl (lv_at hl 0 rfl) ?_
      refine mm_get hx hb hT hown hz hm 0 (by decide) wd_735 rfl (v := .int (nI 1)) rfl dX9_wear_39 ?_
      refine lv_if_le (tgt := 49) hx hb dX9_wear_42 (by decide) (fun cx => absurd cx (by decide)) (fun cx => ?_)
      refine lv_iconst (v := (nI 0)) hx hb dX9_wear_45 (by decide) ?_
      refine lv_goto (tgt := 59) hx hb dX9_wear_46 (by decide) ?_
      exact mm_iret hx hb hr hlk (Nat.le_of_ble_eq_true rfl) (Nat.le_of_ble_eq_true rfl) hm dX9_wear_59 (⟨rfl, fun _ => bx_uu _ _ _ _, fun i g1 g2 => by obtain rfl := nI_j (by omega) (by omega) g2; exact ⟨fun _ => bx_uu _ _ _ _, fun i g3 g4 => absurd (rf_in_of (by omega) g3 g4) (by rw [show rf_ix q (rf_sm f (rf_ot f j)) = false from d]; decide)⟩⟩)
    · have d := fw_b1 d
      obtain ⟨i, hi, rfl⟩ := rf_ix_t (by omega) (show rf_ix q (rf_sm f (rf_ot f j)) = true from d)
      refine lv_iconst (v := (nI 0)) hx hb dX9_wear_30 (by decide) ?_
      refine lv_goto (tgt := 35) hx hb dX9_wear_31 (by decide) ?_
      refine mm_put hx hb hT hown hz hm 0 (by decide) wd_735 dX9_wear_35 (fun F1 H locs hm => ?_)
      refine lv_aload_n hx hb dX9_wear_38 rfl (lv_at hl 0 rfl) ?_
      refine mm_get hx hb hT hown hz hm 0 (by decide) wd_735 rfl (v := .int (nI 0)) rfl dX9_wear_39 ?_
      refine lv_if_le (tgt := 49) hx hb dX9_wear_42 (by decide) (fun cx => ?_) (fun cx => absurd cx (by decide))
      refine lv_aload_n hx hb dX9_wear_49 rfl (lv_at hl 0 rfl) ?_
      refine mm_get hx hb hT hown hz hm 15 (by decide) wd_750 rfl (v := .ref (ad 15)) rfl dX9_wear_50 ?_
      refine lv_iconst (v := (nI 4)) hx hb dX9_wear_53 (by decide) ?_
      refine lv_iload_n hx hb dX9_wear_54 rfl (lv_at hl 1 rfl) ?_
      refine lv_imul hx hb dX9_wear_55 ?_
      refine fw_top (pk_mul _ _) ?_
      refine lv_iload_n hx hb dX9_wear_56 rfl (lv_at hl 2 rfl) ?_
      refine lv_iadd hx hb dX9_wear_57 ?_
      refine fw_top (nI_add _ _) ?_
      refine mm_ald hx hb hz hm 15 ((4 * j) + i) (by decide) rfl (show (4 * j) + i < 48 by omega) dX9_wear_58 ?_
      exact mm_iret hx hb hr hlk (Nat.le_of_ble_eq_true rfl) (Nat.le_of_ble_eq_true rfl) hm dX9_wear_59 (⟨rfl, fun h => absurd h (by rw [h1]; decide), fun i1 g1 g2 => by obtain rfl := nI_j (by omega) (by omega) g2; exact ⟨fun h => absurd h (by rw [show rf_ix (nI i) (rf_sm f (rf_ot f j)) = true from d]; decide), fun i2 g3 g4 => by obtain rfl := nI_j (by omega) (by omega) g4; exact ⟨bx_uu _ _ _ _, rfl⟩⟩⟩)
set_option maxHeartbeats 4000000 in
set_option maxRecDepth 100000 in
theorem c_X9_waits (l : Launch) (G : fw_G) (F : fw_F) (sz y : Nat) (ad : Nat → Nat) (sc : mm_S) (f : mm_A) (nJ nC : Nat) (o mo te : Int32) (hW : mm_W G F y ad sc f) (e16 : sc 16 = nI nJ) (hJ : nJ < 96) (e1 : sc 1 = nI nC) (hC : nC ≤ 10) : mm_Cv l G F sz y ad yX9_waits cX9_waits 4 { frames := 2, cells := 0, slots := 0, locals := 46 } [.int o, .int mo, .int te] (fun sc1 f1 => sc1 = va_up sc 16 (nI (nJ + 1)) ∧ f1 = rf_addJ f nJ nC o mo te) := by
  refine fw_met (lv := [(0, .ref y), (1, .int o), (2, .int mo), (3, .int te)]) (by decide +kernel) (Nat.le_of_ble_eq_true rfl) rfl ?_
  intro A hA p e s m below meth c ls hx hb hml hown hT hr hlk hin hz hsz hw hAn hl
  rw [← hA]
  have hown : s.vm.findClass RX9 = some m.cls := hown
  have C : CallFix p m c cX9_waits 4 s _ fw_tb RX9 := ⟨hx, hb, hml, hown, hT⟩
  have hm : mm_M G A s F y ad sc f F s.heap [] := ⟨hw, hW, mm_keep.rf⟩
  refine lv_aload_n hx hb dX9_waits_0 rfl (lv_at hl 0 rfl) ?_
  refine mm_get hx hb hT hown hz hm 17 (by decide) wd_752 rfl (v := .ref (ad 17)) rfl dX9_waits_1 ?_
  refine lv_aload_n hx hb dX9_waits_4 rfl (lv_at hl 0 rfl) ?_
  refine mm_get hx hb hT hown hz hm 16 (by decide) wd_751 rfl (v := .int (sc 16)) rfl dX9_waits_5 ?_
  refine fw_top (e16) ?_
  refine lv_iload_n hx hb dX9_waits_8 rfl (lv_at hl 1 rfl) ?_
  refine mm_ast hx hb hz hm 17 (nJ) (by decide) rfl (show nJ < 96 by omega) dX9_waits_9 (fun F1 H locs hm => ?_)
  refine lv_aload_n hx hb dX9_waits_10 rfl (lv_at hl 0 rfl) ?_
  refine mm_get hx hb hT hown hz hm 18 (by decide) wd_753 rfl (v := .ref (ad 18)) rfl dX9_waits_11 ?_
  refine lv_aload_n hx hb dX9_waits_14 rfl (lv_at hl 0 rfl) ?_
  refine mm_get hx hb hT hown hz hm 16 (by decide) wd_751 rfl (v := .int (sc 16)) rfl dX9_waits_15 ?_
  refine fw_top (e16) ?_
  refine lv_aload_n hx hb dX9_waits_18 rfl (lv_at hl 0 rfl) ?_
  refine lv_iload_n hx hb dX9_waits_19 rfl (lv_at hl 2 rfl) ?_
  refine lv_iload_n hx hb dX9_waits_20 rfl (lv_at hl 3 rfl) ?_
  refine mm_calli (As := [.int mo, .int te]) (rest := [.int (nI nJ), .ref (ad 18)]) C hz hm (c_X9_cutter l G _ _ y ad _ _ nC mo te hm.2.1 e1 hC) wd_828 yVX9_cutter ⟨Nat.le_of_ble_eq_true rfl, Nat.le_of_ble_eq_true rfl⟩ rfl hl.1 rfl (Nat.le_of_ble_eq_true rfl) dX9_waits_21 ⟨Nat.le_of_ble_eq_true rfl, Nat.le_of_ble_eq_true rfl⟩ (fun r sc1 f1 F1 H locs hm hp => ?_)
  refine W.widen (k := 0) (n := 0) (Nat.le_of_ble_eq_true rfl) (Nat.le_of_ble_eq_true rfl) ?_
  obtain ⟨h7, h8, h9⟩ := hp
  rw [h7, h8] at hm
  subst h9
  refine fw_top (x' := (rf_cut f nC mo te)) (rf_cut_cong rfl rfl rfl) ?_
  refine mm_ast hx hb hz hm 18 (nJ) (by decide) rfl (show nJ < 96 by omega) dX9_waits_24 (fun F1 H locs hm => ?_)
  refine lv_aload_n hx hb dX9_waits_25 rfl (lv_at hl 0 rfl) ?_
  refine mm_get hx hb hT hown hz hm 19 (by decide) wd_754 rfl (v := .ref (ad 19)) rfl dX9_waits_26 ?_
  refine lv_aload_n hx hb dX9_waits_29 rfl (lv_at hl 0 rfl) ?_
  refine mm_get hx hb hT hown hz hm 16 (by decide) wd_751 rfl (v := .int (sc 16)) rfl dX9_waits_30 ?_
  refine fw_top (e16) ?_
  refine lv_iload_n hx hb dX9_waits_33 rfl (lv_at hl 3 rfl) ?_
  refine mm_ast hx hb hz hm 19 (nJ) (by decide) rfl (show nJ < 96 by omega) dX9_waits_34 (fun F1 H locs hm => ?_)
  refine lv_aload_n hx hb dX9_waits_35 rfl (lv_at hl 0 rfl) ?_
  refine mm_get hx hb hT hown hz hm 20 (by decide) wd_755 rfl (v := .ref (ad 20)) rfl dX9_waits_36 ?_
  refine lv_aload_n hx hb dX9_waits_39 rfl (lv_at hl 0 rfl) ?_
  refine mm_get hx hb hT hown hz hm 16 (by decide) wd_751 rfl (v := .int (sc 16)) rfl dX9_waits_40 ?_
  refine fw_top (e16) ?_
  refine lv_iconst (v := (-1)) hx hb dX9_waits_43 (by decide) ?_
  refine mm_ast hx hb hz hm 20 (nJ) (by decide) rfl (show nJ < 96 by omega) dX9_waits_44 (fun F1 H locs hm => ?_)
  refine lv_aload_n hx hb dX9_waits_45 rfl (lv_at hl 0 rfl) ?_
  refine lv_dup hx hb dX9_waits_46 rfl ?_
  refine mm_get hx hb hT hown hz hm 16 (by decide) wd_751 rfl (v := .int (sc 16)) rfl dX9_waits_47 ?_
  refine fw_top (e16) ?_
  refine lv_iconst (v := (nI 1)) hx hb dX9_waits_50 (by decide) ?_
  refine lv_iadd hx hb dX9_waits_51 ?_
  refine fw_top (nI_add _ _) ?_
  refine mm_put hx hb hT hown hz hm 16 (by decide) wd_751 dX9_waits_52 (fun F1 H locs hm => ?_)
  exact mm_vret hx hb hr hlk (Nat.le_of_ble_eq_true rfl) (Nat.le_of_ble_eq_true rfl) hm dX9_waits_55 (⟨rfl, rfl⟩)
set_option maxHeartbeats 4000000 in
set_option maxRecDepth 100000 in
theorem c_X9_order (l : Launch) (G : fw_G) (F : fw_F) (sz y : Nat) (ad : Nat → Nat) (sc : mm_S) (f : mm_A) (nC nT nO nJ : Nat) (t : Int32) (hW : mm_W G F y ad sc f) (e7 : sc 7 = nI nT) (hn : nT ≤ 8) (htok : ∀ j, j < nT → rf_tok f j) (e11 : sc 11 = nI nO) (hO : nO ≤ 12) (e16 : sc 16 = nI nJ) (hJ : nJ ≤ 8 * nO) (e1 : sc 1 = nI nC) (hC : nC ≤ 10) : mm_Ci l G F sz y ad yX9_order cX9_order 4 (.int) { frames := 3, cells := 0, slots := 0, locals := 69 } [.int t] (fun r sc1 f1 => (rf_ix t nT = false → f1 = f ∧ sc1 = va_up sc 0 (nI 1)) ∧ (rf_ix t nT = true → nO = 12 → f1 = f ∧ sc1 = va_up sc 0 (nI 2)) ∧ (∀ j, j < nT → t = nI j → nO < 12 → sc1 = va_up (va_up (va_up sc 0 (nI 0)) 16 (nI (nJ + 2 * rf_sm f j))) 11 (nI (nO + 1)) ∧ f1 = va_up (va_up (rf_ordJ f nC nJ nO j (rf_sm f j)) 12 (upd (f 12) nO (nI j))) 13 (upd (f 13) nO (-1)) ∧ r = nI nO)) := by
  refine fw_met (lv := [(0, .ref y), (1, .int t)]) (by decide +kernel) (Nat.le_of_ble_eq_true rfl) rfl ?_
  intro A hA p e s m below meth c ls hx hb hml hown hT hr hlk hin hz hsz hw hAn hl
  rw [← hA]
  have hown : s.vm.findClass RX9 = some m.cls := hown
  have C : CallFix p m c cX9_order 4 s _ fw_tb RX9 := ⟨hx, hb, hml, hown, hT⟩
  have hm : mm_M G A s F y ad sc f F s.heap [] := ⟨hw, hW, mm_keep.rf⟩
  refine lv_aload_n hx hb dX9_order_0 rfl (lv_at hl 0 rfl) ?_
  refine lv_aload_n hx hb dX9_order_1 rfl (lv_at hl 0 rfl) ?_
  refine lv_iload_n hx hb dX9_order_2 rfl (lv_at hl 1 rfl) ?_
  refine mm_calli (As := [.int t]) (rest := [.ref y]) C hz hm (c_X9_isTrain l G _ _ y ad _ _ nT t hm.2.1 e7) wd_852 yVX9_isTrain ⟨Nat.le_of_ble_eq_true rfl, Nat.le_of_ble_eq_true rfl⟩ rfl hl.1 rfl (Nat.le_of_ble_eq_true rfl) dX9_order_3 ⟨Nat.le_of_ble_eq_true rfl, Nat.le_of_ble_eq_true rfl⟩ (fun r sc1 f1 F1 H locs hm hp => ?_)
  refine W.widen (k := 0) (n := 0) (Nat.le_of_ble_eq_true rfl) (Nat.le_of_ble_eq_true rfl) ?_
  obtain ⟨h7, h8, h9⟩ := hp
  rw [h7, h8] at hm
  subst h9
  refine lv_if_ne (tgt := 13) hx hb dX9_order_6 (by decide) (fun h1 => ?_) (fun h1 => ?_)
  · have h1 := fw_b1 h1
    refine lv_aload_n hx hb dX9_order_13 rfl (lv_at hl 0 rfl) ?_
    refine mm_get hx hb hT hown hz hm 11 (by decide) wd_746 rfl (v := .int (sc 11)) rfl dX9_order_14 ?_
    refine fw_top (e11) ?_
    refine lv_bipush (v := (nI 12)) hx hb dX9_order_17 (by decide) ?_
    refine lv_icmp_ne (tgt := 26) hx hb dX9_order_19 (by decide) (fun d => ?_) (fun d => ?_)
    · have d : ¬ nO = 12 := fun h9 => d ((nI_eq (a := nO) (b := 12) (by omega) (by omega)).mpr h9)
      obtain ⟨j, hj, rfl⟩ := rf_ix_t (by omega) h1
      have h4 := htok j hj
      have h5 := h4.2.2.1
      refine lv_iconst (v := (nI 0)) hx hb dX9_order_26 (by decide) ?_
      refine mm_put hx hb hT hown hz hm 0 (by decide) wd_735 dX9_order_27 (fun F1 H locs hm => ?_)
      refine lv_aload_n hx hb dX9_order_30 rfl (lv_at hl 0 rfl) ?_
      refine mm_get hx hb hT hown hz hm 0 (by decide) wd_735 rfl (v := .int (nI 0)) rfl dX9_order_31 ?_
      refine lv_if_le (tgt := 39) hx hb dX9_order_34 (by decide) (fun cx => ?_) (fun cx => absurd cx (by decide))
      refine lv_iconst (v := (nI 0)) hx hb dX9_order_39 (by decide) ?_
      refine lv_istore_n (lv' := [(2, .int (nI 0)), (0, .ref y), (1, .int (nI j))]) hx hb dX9_order_40 rfl hl (by decide) rfl (fun ls hl => ?_)
      rw [bx_uu, show va_up sc 0 (nI 0) = va_up (va_up sc 0 (nI 0)) 16 (nI (nJ + 2 * 0)) from (va_up_same (f := va_up sc 0 (nI 0)) (k := 16) (v := nI (nJ + 2 * 0)) e16).symm] at hm
      suffices hlp : ∀ (d k : Nat), k + d = rf_sm f j →  ∀ (F1 : fw_F) (H : Heap) (locs : List Loc) (ls : Array Slot), mm_M G A s F y ad (va_up (va_up sc 0 (nI 0)) 16 (nI (nJ + 2 * k))) (rf_ordJ f nC nJ nO j k) F1 H locs → lv_has ls 4 [(2, .int (nI k)), (0, .ref y), (1, .int (nI j))] → W p l e { frames := 3, cells := 0, slots := 0, locals := 69 } s m ([.ref y, .int (nI j)] : List Value).toArray below meth c H locs 0 0 (MQ below (va_Qi (mm_post G y ad F (fun r sc1 f1 => (rf_ix (nI j) nT = false → f1 = f ∧ sc1 = va_up sc 0 (nI 1)) ∧ (rf_ix (nI j) nT = true → nO = 12 → f1 = f ∧ sc1 = va_up sc 0 (nI 2)) ∧ (∀ i, i < nT → nI j = nI i → nO < 12 → sc1 = va_up (va_up (va_up sc 0 (nI 0)) 16 (nI (nJ + 2 * rf_sm f i))) 11 (nI (nO + 1)) ∧ f1 = va_up (va_up (rf_ordJ f nC nJ nO i (rf_sm f i)) 12 (upd (f 12) nO (nI i))) 13 (upd (f 13) nO (-1)) ∧ r = nI nO))) (fw_B G A) A) ([.ref y, .int (nI j)] : List Value).toArray s 0 0 A) (F0 m 41 ls []) by
        exact hlp (rf_sm f j) 0  (Nat.zero_add _)  _ _ _ _ hm (lv_sub hl [0, 1, 2] rfl)
      intro d
      induction d with
      | zero =>
        intro k  hk  F1 H locs ls hm hl
        obtain ⟨o9, o8, o12, o13⟩ := rf_ordJ_9 f nC nJ nO j k
        have hkk : k = rf_sm f j := by omega
        refine lv_iload_n hx hb dX9_order_41 rfl (lv_at hl 0 rfl) ?_
        refine lv_aload_n hx hb dX9_order_42 rfl (lv_at hl 1 rfl) ?_
        refine mm_get hx hb hT hown hz hm 8 (by decide) wd_743 rfl (v := .ref (ad 8)) rfl dX9_order_43 ?_
        refine lv_iload_n hx hb dX9_order_46 rfl (lv_at hl 2 rfl) ?_
        refine mm_ald hx hb hz hm 8 (j) (by decide) rfl (show j < 8 by omega) dX9_order_47 ?_
        refine fw_top (x' := (nI (rf_sm f j))) (by rw [o8]; exact h4.1) ?_
        refine lv_icmp_ge (tgt := 110) hx hb dX9_order_48 (by decide) (fun g => ?_) (fun g => ?_)
        · have g := (nI_leI (a := rf_sm f j) (b := k) (by omega) (by omega)).mp g
          have hd12 : nO < 12 := by omega
          refine lv_aload_n hx hb dX9_order_110 rfl (lv_at hl 1 rfl) ?_
          refine mm_get hx hb hT hown hz hm 12 (by decide) wd_747 rfl (v := .ref (ad 12)) rfl dX9_order_111 ?_
          refine lv_aload_n hx hb dX9_order_114 rfl (lv_at hl 1 rfl) ?_
          refine mm_get hx hb hT hown hz hm 11 (by decide) wd_746 rfl (v := .int ((va_up (va_up sc 0 (nI 0)) 16 (nI (nJ + 2 * k))) 11)) rfl dX9_order_115 ?_
          refine fw_top (e11) ?_
          refine lv_iload_n hx hb dX9_order_118 rfl (lv_at hl 2 rfl) ?_
          refine mm_ast hx hb hz hm 12 (nO) (by decide) rfl (show nO < 12 by omega) dX9_order_119 (fun F1 H locs hm => ?_)
          refine lv_aload_n hx hb dX9_order_120 rfl (lv_at hl 1 rfl) ?_
          refine mm_get hx hb hT hown hz hm 13 (by decide) wd_748 rfl (v := .ref (ad 13)) rfl dX9_order_121 ?_
          refine lv_aload_n hx hb dX9_order_124 rfl (lv_at hl 1 rfl) ?_
          refine mm_get hx hb hT hown hz hm 11 (by decide) wd_746 rfl (v := .int ((va_up (va_up sc 0 (nI 0)) 16 (nI (nJ + 2 * k))) 11)) rfl dX9_order_125 ?_
          refine fw_top (e11) ?_
          refine lv_iconst (v := (-1)) hx hb dX9_order_128 (by decide) ?_
          refine mm_ast hx hb hz hm 13 (nO) (by decide) rfl (show nO < 12 by omega) dX9_order_129 (fun F1 H locs hm => ?_)
          refine lv_aload_n hx hb dX9_order_130 rfl (lv_at hl 1 rfl) ?_
          refine lv_dup hx hb dX9_order_131 rfl ?_
          refine mm_get hx hb hT hown hz hm 11 (by decide) wd_746 rfl (v := .int ((va_up (va_up sc 0 (nI 0)) 16 (nI (nJ + 2 * k))) 11)) rfl dX9_order_132 ?_
          refine fw_top (e11) ?_
          refine lv_iconst (v := (nI 1)) hx hb dX9_order_135 (by decide) ?_
          refine lv_iadd hx hb dX9_order_136 ?_
          refine fw_top (nI_add _ _) ?_
          refine mm_put hx hb hT hown hz hm 11 (by decide) wd_746 dX9_order_137 (fun F1 H locs hm => ?_)
          refine lv_aload_n hx hb dX9_order_140 rfl (lv_at hl 1 rfl) ?_
          refine mm_get hx hb hT hown hz hm 11 (by decide) wd_746 rfl (v := .int (nI (nO + 1))) rfl dX9_order_141 ?_
          refine lv_iconst (v := (nI 1)) hx hb dX9_order_144 (by decide) ?_
          refine lv_isub hx hb dX9_order_145 ?_
          refine fw_top (pk_sub (by omega)) ?_
          exact mm_iret hx hb hr hlk (Nat.le_of_ble_eq_true rfl) (Nat.le_of_ble_eq_true rfl) hm dX9_order_146 (⟨fun h => absurd h (by rw [h1]; decide), fun _ h => absurd h d, fun i g1 g2 _ => by obtain rfl := nI_j (by omega) (by omega) g2; subst hkk; exact ⟨rfl, by rw [← o12, ← o13]; rfl, by rw [Nat.add_sub_cancel]⟩⟩)
        · have g : ¬ (rf_sm f j) ≤ k := fun h9 => g ((nI_leI (a := rf_sm f j) (b := k) (by omega) (by omega)).mpr h9)
          omega
      | succ d ih =>
        intro k  hk  F1 H locs ls hm hl
        obtain ⟨o9, o8, o12, o13⟩ := rf_ordJ_9 f nC nJ nO j k
        refine lv_iload_n hx hb dX9_order_41 rfl (lv_at hl 0 rfl) ?_
        refine lv_aload_n hx hb dX9_order_42 rfl (lv_at hl 1 rfl) ?_
        refine mm_get hx hb hT hown hz hm 8 (by decide) wd_743 rfl (v := .ref (ad 8)) rfl dX9_order_43 ?_
        refine lv_iload_n hx hb dX9_order_46 rfl (lv_at hl 2 rfl) ?_
        refine mm_ald hx hb hz hm 8 (j) (by decide) rfl (show j < 8 by omega) dX9_order_47 ?_
        refine fw_top (x' := (nI (rf_sm f j))) (by rw [o8]; exact h4.1) ?_
        refine lv_icmp_ge (tgt := 110) hx hb dX9_order_48 (by decide) (fun g => ?_) (fun g => ?_)
        · have g := (nI_leI (a := rf_sm f j) (b := k) (by omega) (by omega)).mp g
          omega
        · have g : ¬ (rf_sm f j) ≤ k := fun h9 => g ((nI_leI (a := rf_sm f j) (b := k) (by omega) (by omega)).mpr h9)
          have hkk : k < rf_sm f j := by omega
          have hd12 : nO < 12 := by omega
          refine lv_bipush (v := (nI 12)) hx hb dX9_order_51 (by decide) ?_
          refine lv_iload_n hx hb dX9_order_53 rfl (lv_at hl 2 rfl) ?_
          refine lv_imul hx hb dX9_order_54 ?_
          refine fw_top (pk_mul _ _) ?_
          refine lv_iconst (v := (nI 3)) hx hb dX9_order_55 (by decide) ?_
          refine lv_iload_n hx hb dX9_order_56 rfl (lv_at hl 0 rfl) ?_
          refine lv_imul hx hb dX9_order_57 ?_
          refine fw_top (pk_mul _ _) ?_
          refine lv_iadd hx hb dX9_order_58 ?_
          refine fw_top (nI_add _ _) ?_
          refine lv_istore_n (lv' := [(3, .int (nI ((12 * j) + (3 * k)))), (2, .int (nI k)), (0, .ref y), (1, .int (nI j))]) hx hb dX9_order_59 rfl hl (by decide) rfl (fun ls hl => ?_)
          refine lv_aload_n hx hb dX9_order_60 rfl (lv_at hl 2 rfl) ?_
          refine lv_aload_n hx hb dX9_order_61 rfl (lv_at hl 2 rfl) ?_
          refine mm_get hx hb hT hown hz hm 11 (by decide) wd_746 rfl (v := .int ((va_up (va_up sc 0 (nI 0)) 16 (nI (nJ + 2 * k))) 11)) rfl dX9_order_62 ?_
          refine fw_top (e11) ?_
          refine lv_aload_n hx hb dX9_order_65 rfl (lv_at hl 2 rfl) ?_
          refine mm_get hx hb hT hown hz hm 9 (by decide) wd_744 rfl (v := .ref (ad 9)) rfl dX9_order_66 ?_
          refine lv_iload_n hx hb dX9_order_69 rfl (lv_at hl 0 rfl) ?_
          refine mm_ald hx hb hz hm 9 ((12 * j) + (3 * k)) (by decide) rfl (show (12 * j) + (3 * k) < 96 by omega) dX9_order_70 ?_
          refine fw_top (x' := (f 9 (12 * j + 3 * k))) (by show rf_ordJ f nC nJ nO j k 9 _ = _; rw [o9]) ?_
          refine lv_aload_n hx hb dX9_order_71 rfl (lv_at hl 2 rfl) ?_
          refine mm_get hx hb hT hown hz hm 9 (by decide) wd_744 rfl (v := .ref (ad 9)) rfl dX9_order_72 ?_
          refine lv_iload_n hx hb dX9_order_75 rfl (lv_at hl 0 rfl) ?_
          refine lv_iconst (v := (nI 1)) hx hb dX9_order_76 (by decide) ?_
          refine lv_iadd hx hb dX9_order_77 ?_
          refine fw_top (nI_add _ _) ?_
          refine mm_ald hx hb hz hm 9 (((12 * j) + (3 * k)) + 1) (by decide) rfl (show ((12 * j) + (3 * k)) + 1 < 96 by omega) dX9_order_78 ?_
          refine fw_top (x' := (f 9 (12 * j + 3 * k + 1))) (by show rf_ordJ f nC nJ nO j k 9 _ = _; rw [o9]) ?_
          refine mm_callv (As := [.int (nI nO), .int (f 9 (12 * j + 3 * k)), .int (f 9 (12 * j + 3 * k + 1))]) (rest := []) C hz hm (c_X9_waits l G _ _ y ad _ _ (nJ + 2 * k) nC (nI nO) (f 9 (12 * j + 3 * k)) (f 9 (12 * j + 3 * k + 1)) hm.2.1 rfl (by omega) e1 hC) wd_881 yVX9_waits ⟨Nat.le_of_ble_eq_true rfl, Nat.le_of_ble_eq_true rfl⟩ rfl hl.1 rfl (Nat.le_of_ble_eq_true rfl) dX9_order_79 ⟨Nat.le_of_ble_eq_true rfl, Nat.le_of_ble_eq_true rfl⟩ (fun sc1 f1 F1 H locs hm hp => ?_)
          refine W.widen (k := 0) (n := 0) (Nat.le_of_ble_eq_true rfl) (Nat.le_of_ble_eq_true rfl) ?_
          obtain ⟨h7, h8⟩ := hp
          rw [h7, h8, bx_uu] at hm
          refine lv_aload_n hx hb dX9_order_82 rfl (lv_at hl 2 rfl) ?_
          refine lv_aload_n hx hb dX9_order_83 rfl (lv_at hl 2 rfl) ?_
          refine mm_get hx hb hT hown hz hm 11 (by decide) wd_746 rfl (v := .int ((va_up (va_up sc 0 (nI 0)) 16 (nI (nJ + 2 * k + 1))) 11)) rfl dX9_order_84 ?_
          refine fw_top (e11) ?_
          refine lv_aload_n hx hb dX9_order_87 rfl (lv_at hl 2 rfl) ?_
          refine mm_get hx hb hT hown hz hm 9 (by decide) wd_744 rfl (v := .ref (ad 9)) rfl dX9_order_88 ?_
          refine lv_iload_n hx hb dX9_order_91 rfl (lv_at hl 0 rfl) ?_
          refine mm_ald hx hb hz hm 9 ((12 * j) + (3 * k)) (by decide) rfl (show (12 * j) + (3 * k) < 96 by omega) dX9_order_92 ?_
          refine fw_top (x' := (f 9 (12 * j + 3 * k))) (by show rf_ordJ f nC nJ nO j k 9 _ = _; rw [o9]) ?_
          refine lv_aload_n hx hb dX9_order_93 rfl (lv_at hl 2 rfl) ?_
          refine mm_get hx hb hT hown hz hm 9 (by decide) wd_744 rfl (v := .ref (ad 9)) rfl dX9_order_94 ?_
          refine lv_iload_n hx hb dX9_order_97 rfl (lv_at hl 0 rfl) ?_
          refine lv_iconst (v := (nI 2)) hx hb dX9_order_98 (by decide) ?_
          refine lv_iadd hx hb dX9_order_99 ?_
          refine fw_top (nI_add _ _) ?_
          refine mm_ald hx hb hz hm 9 (((12 * j) + (3 * k)) + 2) (by decide) rfl (show ((12 * j) + (3 * k)) + 2 < 96 by omega) dX9_order_100 ?_
          refine fw_top (x' := (f 9 (12 * j + 3 * k + 2))) (by show rf_ordJ f nC nJ nO j k 9 _ = _; rw [o9]) ?_
          refine mm_callv (As := [.int (nI nO), .int (f 9 (12 * j + 3 * k)), .int (f 9 (12 * j + 3 * k + 2))]) (rest := []) C hz hm (c_X9_waits l G _ _ y ad _ _ (nJ + 2 * k + 1) nC (nI nO) (f 9 (12 * j + 3 * k)) (f 9 (12 * j + 3 * k + 2)) hm.2.1 rfl (by omega) e1 hC) wd_881 yVX9_waits ⟨Nat.le_of_ble_eq_true rfl, Nat.le_of_ble_eq_true rfl⟩ rfl hl.1 rfl (Nat.le_of_ble_eq_true rfl) dX9_order_101 ⟨Nat.le_of_ble_eq_true rfl, Nat.le_of_ble_eq_true rfl⟩ (fun sc1 f1 F1 H locs hm hp => ?_)
          refine W.widen (k := 0) (n := 0) (Nat.le_of_ble_eq_true rfl) (Nat.le_of_ble_eq_true rfl) ?_
          obtain ⟨h7, h8⟩ := hp
          rw [h7, h8, bx_uu] at hm
          rw [show nJ + 2 * k + 1 + 1 = nJ + 2 * (k + 1) by omega, ← rf_ordJ_s] at hm
          refine lv_iinc (v := (nI (k + 1))) (lv' := [(2, .int (nI (k + 1))), (3, .int (nI ((12 * j) + (3 * k)))), (0, .ref y), (1, .int (nI j))]) hx hb dX9_order_104 hl (k := 1) rfl (nI_1 _) (by decide) rfl (fun ls hl => ?_)
          refine lv_goto (tgt := 41) hx hb dX9_order_107 (by decide) ?_
          exact ih (k + 1)  (by omega)  _ _ _ _ hm (lv_sub hl [0, 2, 3] rfl)
    · have d := (nI_eq (a := nO) (b := 12) (by omega) (by omega)).mp d
      refine lv_iconst (v := (nI 2)) hx hb dX9_order_22 (by decide) ?_
      refine lv_goto (tgt := 27) hx hb dX9_order_23 (by decide) ?_
      refine mm_put hx hb hT hown hz hm 0 (by decide) wd_735 dX9_order_27 (fun F1 H locs hm => ?_)
      refine lv_aload_n hx hb dX9_order_30 rfl (lv_at hl 0 rfl) ?_
      refine mm_get hx hb hT hown hz hm 0 (by decide) wd_735 rfl (v := .int (nI 2)) rfl dX9_order_31 ?_
      refine lv_if_le (tgt := 39) hx hb dX9_order_34 (by decide) (fun cx => absurd cx (by decide)) (fun cx => ?_)
      refine lv_iconst (v := (nI 0)) hx hb dX9_order_37 (by decide) ?_
      exact mm_iret hx hb hr hlk (Nat.le_of_ble_eq_true rfl) (Nat.le_of_ble_eq_true rfl) hm dX9_order_38 (⟨fun h => absurd h (by rw [h1]; decide), fun _ _ => ⟨rfl, bx_uu _ _ _ _⟩, fun i g1 g2 g3 => absurd g3 (by omega)⟩)
  · have h1 := fw_b0 h1
    refine lv_iconst (v := (nI 1)) hx hb dX9_order_9 (by decide) ?_
    refine lv_goto (tgt := 27) hx hb dX9_order_10 (by decide) ?_
    refine mm_put hx hb hT hown hz hm 0 (by decide) wd_735 dX9_order_27 (fun F1 H locs hm => ?_)
    refine lv_aload_n hx hb dX9_order_30 rfl (lv_at hl 0 rfl) ?_
    refine mm_get hx hb hT hown hz hm 0 (by decide) wd_735 rfl (v := .int (nI 1)) rfl dX9_order_31 ?_
    refine lv_if_le (tgt := 39) hx hb dX9_order_34 (by decide) (fun cx => absurd cx (by decide)) (fun cx => ?_)
    refine lv_iconst (v := (nI 0)) hx hb dX9_order_37 (by decide) ?_
    exact mm_iret hx hb hr hlk (Nat.le_of_ble_eq_true rfl) (Nat.le_of_ble_eq_true rfl) hm dX9_order_38 (⟨fun _ => ⟨rfl, bx_uu _ _ _ _⟩, fun h => absurd h (by rw [h1]; decide), fun i g1 g2 => absurd (rf_in_of (by omega) g1 g2) (by rw [h1]; decide)⟩)
set_option maxHeartbeats 4000000 in
set_option maxRecDepth 100000 in
theorem c_X9_make (l : Launch) (G : fw_G) (F : fw_F) (sz y : Nat) (ad : Nat → Nat) (sc : mm_S) (f : mm_A) (nC nD nT : Nat) (ds : Int32) (hW : mm_W G F y ad sc f) (e7 : sc 7 = nI nT) (hn : nT ≤ 8) (e5 : sc 5 = nI nD) (hD : nD ≤ 4) (e1 : sc 1 = nI nC) (hC : nC ≤ 10) : mm_Ci l G F sz y ad yX9_make cX9_make 4 (.int) { frames := 2, cells := 0, slots := 0, locals := 46 } [.int ds] (fun r sc1 f1 => (rf_cans f nC (rf_can0 f nD nT ds) nD = false → f1 = f ∧ sc1 = va_up sc 0 (nI 1)) ∧ (rf_cans f nC (rf_can0 f nD nT ds) nD = true → sc1 = va_up (va_up (va_up sc 0 (nI 0)) 5 (nI 0)) 7 (nI (nT + 1)) ∧ f1 = va_up (va_up f 9 (rf_copy f nT (3 * nD))) 8 (upd (f 8) nT (nI nD)) ∧ r = nI nT)) := by
  refine fw_met (lv := [(0, .ref y), (1, .int ds)]) (by decide +kernel) (Nat.le_of_ble_eq_true rfl) rfl ?_
  intro A hA p e s m below meth c ls hx hb hml hown hT hr hlk hin hz hsz hw hAn hl
  rw [← hA]
  have hown : s.vm.findClass RX9 = some m.cls := hown
  have C : CallFix p m c cX9_make 4 s _ fw_tb RX9 := ⟨hx, hb, hml, hown, hT⟩
  have hm : mm_M G A s F y ad sc f F s.heap [] := ⟨hw, hW, mm_keep.rf⟩
  have hJ : ∀ (F1 : fw_F) (H : Heap) (locs : List Loc) (ls : Array Slot), mm_M G A s F y ad sc f F1 H locs → lv_has ls 4 [(2, .int (fw_b (rf_can0 f nD nT ds))), (0, .ref y), (1, .int ds)] → W p l e { frames := 2, cells := 0, slots := 0, locals := 46 } s m ([.ref y, .int ds] : List Value).toArray below meth c H locs 0 0 (MQ below (va_Qi (mm_post G y ad F (fun r sc1 f1 => (rf_cans f nC (rf_can0 f nD nT ds) nD = false → f1 = f ∧ sc1 = va_up sc 0 (nI 1)) ∧ (rf_cans f nC (rf_can0 f nD nT ds) nD = true → sc1 = va_up (va_up (va_up sc 0 (nI 0)) 5 (nI 0)) 7 (nI (nT + 1)) ∧ f1 = va_up (va_up f 9 (rf_copy f nT (3 * nD))) 8 (upd (f 8) nT (nI nD)) ∧ r = nI nT))) (fw_B G A) A) ([.ref y, .int ds] : List Value).toArray s 0 0 A) (F0 m 30 ls []) := by
    intro F1 H locs ls hm hl
    refine lv_iconst (v := (nI 0)) hx hb dX9_make_30 (by decide) ?_
    refine lv_istore_n (lv' := [(3, .int (nI 0)), (2, .int (fw_b (rf_can0 f nD nT ds))), (0, .ref y), (1, .int ds)]) hx hb dX9_make_31 rfl hl (by decide) rfl (fun ls hl => ?_)
    suffices hlp : ∀ (d k : Nat), k + d = nD →  ∀ (F1 : fw_F) (H : Heap) (locs : List Loc) (ls : Array Slot), mm_M G A s F y ad sc f F1 H locs → lv_has ls 4 [(3, .int (nI k)), (2, .int (fw_b (rf_cans f nC (rf_can0 f nD nT ds) k))), (0, .ref y), (1, .int ds)] → W p l e { frames := 2, cells := 0, slots := 0, locals := 46 } s m ([.ref y, .int ds] : List Value).toArray below meth c H locs 0 0 (MQ below (va_Qi (mm_post G y ad F (fun r sc1 f1 => (rf_cans f nC (rf_can0 f nD nT ds) nD = false → f1 = f ∧ sc1 = va_up sc 0 (nI 1)) ∧ (rf_cans f nC (rf_can0 f nD nT ds) nD = true → sc1 = va_up (va_up (va_up sc 0 (nI 0)) 5 (nI 0)) 7 (nI (nT + 1)) ∧ f1 = va_up (va_up f 9 (rf_copy f nT (3 * nD))) 8 (upd (f 8) nT (nI nD)) ∧ r = nI nT))) (fw_B G A) A) ([.ref y, .int ds] : List Value).toArray s 0 0 A) (F0 m 32 ls []) by
      exact hlp nD 0  (Nat.zero_add _)  _ _ _ _ hm (lv_sub hl [0, 1, 2, 3] rfl)
    intro d
    induction d with
    | zero =>
      intro k  hk  F1 H locs ls hm hl
      obtain rfl : k = nD := by omega
      refine lv_iload_n hx hb dX9_make_32 rfl (lv_at hl 0 rfl) ?_
      refine lv_aload_n hx hb dX9_make_33 rfl (lv_at hl 2 rfl) ?_
      refine mm_get hx hb hT hown hz hm 5 (by decide) wd_740 rfl (v := .int (sc 5)) rfl dX9_make_34 ?_
      refine fw_top (e5) ?_
      refine lv_icmp_ge (tgt := 108) hx hb dX9_make_37 (by decide) (fun g => ?_) (fun g => ?_)
      · have g := (nI_leI (a := k) (b := k) (by omega) (by omega)).mp g
        refine lv_aload_n hx hb dX9_make_108 rfl (lv_at hl 2 rfl) ?_
        refine lv_iload_n hx hb dX9_make_109 rfl (lv_at hl 1 rfl) ?_
        refine lv_if_eq (tgt := 117) hx hb dX9_make_110 (by decide) (fun hc => ?_) (fun hc => ?_)
        · have hc := fw_b0 hc
          refine lv_iconst (v := (nI 1)) hx hb dX9_make_117 (by decide) ?_
          refine mm_put hx hb hT hown hz hm 0 (by decide) wd_735 dX9_make_118 (fun F1 H locs hm => ?_)
          refine lv_aload_n hx hb dX9_make_121 rfl (lv_at hl 2 rfl) ?_
          refine mm_get hx hb hT hown hz hm 0 (by decide) wd_735 rfl (v := .int (nI 1)) rfl dX9_make_122 ?_
          refine lv_if_le (tgt := 130) hx hb dX9_make_125 (by decide) (fun cx => absurd cx (by decide)) (fun cx => ?_)
          refine lv_iconst (v := (nI 0)) hx hb dX9_make_128 (by decide) ?_
          exact mm_iret hx hb hr hlk (Nat.le_of_ble_eq_true rfl) (Nat.le_of_ble_eq_true rfl) hm dX9_make_129 (⟨fun _ => ⟨rfl, rfl⟩, fun h => absurd h (by rw [hc]; decide)⟩)
        · have hc := fw_b1 hc
          have hc8 : nT < 8 := by have h := rf_cans_t hc; simp [rf_can0] at h; exact h.2
          refine lv_iconst (v := (nI 0)) hx hb dX9_make_113 (by decide) ?_
          refine lv_goto (tgt := 118) hx hb dX9_make_114 (by decide) ?_
          refine mm_put hx hb hT hown hz hm 0 (by decide) wd_735 dX9_make_118 (fun F1 H locs hm => ?_)
          refine lv_aload_n hx hb dX9_make_121 rfl (lv_at hl 2 rfl) ?_
          refine mm_get hx hb hT hown hz hm 0 (by decide) wd_735 rfl (v := .int (nI 0)) rfl dX9_make_122 ?_
          refine lv_if_le (tgt := 130) hx hb dX9_make_125 (by decide) (fun cx => ?_) (fun cx => absurd cx (by decide))
          refine lv_iconst (v := (nI 0)) hx hb dX9_make_130 (by decide) ?_
          refine lv_istore_n (lv' := [(3, .int (nI 0)), (2, .int (fw_b (rf_cans f nC (rf_can0 f k nT ds) k))), (0, .ref y), (1, .int ds)]) hx hb dX9_make_131 rfl hl (by decide) rfl (fun ls hl => ?_)
          have hm := Eq.mp (congrArg (fun z => mm_M G A s F y ad (va_up sc 0 (nI 0)) z F1 H locs) (show f = va_up f 9 (rf_copy f nT 0) from (va_up_same rfl).symm)) hm
          suffices hlp : ∀ (d i : Nat), i + d = 3 * k →  ∀ (F1 : fw_F) (H : Heap) (locs : List Loc) (ls : Array Slot), mm_M G A s F y ad (va_up sc 0 (nI 0)) (va_up f 9 (rf_copy f nT i)) F1 H locs → lv_has ls 4 [(3, .int (nI i)), (0, .ref y), (1, .int ds)] → W p l e { frames := 2, cells := 0, slots := 0, locals := 46 } s m ([.ref y, .int ds] : List Value).toArray below meth c H locs 0 0 (MQ below (va_Qi (mm_post G y ad F (fun r sc1 f1 => (rf_cans f nC (rf_can0 f k nT ds) k = false → f1 = f ∧ sc1 = va_up sc 0 (nI 1)) ∧ (rf_cans f nC (rf_can0 f k nT ds) k = true → sc1 = va_up (va_up (va_up sc 0 (nI 0)) 5 (nI 0)) 7 (nI (nT + 1)) ∧ f1 = va_up (va_up f 9 (rf_copy f nT (3 * k))) 8 (upd (f 8) nT (nI k)) ∧ r = nI nT))) (fw_B G A) A) ([.ref y, .int ds] : List Value).toArray s 0 0 A) (F0 m 132 ls []) by
            exact hlp (3 * k) 0  (Nat.zero_add _)  _ _ _ _ hm (lv_sub hl [0, 2, 3] rfl)
          intro d
          induction d with
          | zero =>
            intro i  hk  F1 H locs ls hm hl
            obtain rfl : i = 3 * k := by omega
            refine lv_iload_n hx hb dX9_make_132 rfl (lv_at hl 0 rfl) ?_
            refine lv_iconst (v := (nI 3)) hx hb dX9_make_133 (by decide) ?_
            refine lv_aload_n hx hb dX9_make_134 rfl (lv_at hl 1 rfl) ?_
            refine mm_get hx hb hT hown hz hm 5 (by decide) wd_740 rfl (v := .int ((va_up sc 0 (nI 0)) 5)) rfl dX9_make_135 ?_
            refine fw_top (e5) ?_
            refine lv_imul hx hb dX9_make_138 ?_
            refine fw_top (pk_mul _ _) ?_
            refine lv_icmp_ge (tgt := 168) hx hb dX9_make_139 (by decide) (fun g => ?_) (fun g => ?_)
            · have g := (nI_leI (a := 3 * k) (b := 3 * k) (by omega) (by omega)).mp g
              refine lv_aload_n hx hb dX9_make_168 rfl (lv_at hl 1 rfl) ?_
              refine mm_get hx hb hT hown hz hm 8 (by decide) wd_743 rfl (v := .ref (ad 8)) rfl dX9_make_169 ?_
              refine lv_aload_n hx hb dX9_make_172 rfl (lv_at hl 1 rfl) ?_
              refine mm_get hx hb hT hown hz hm 7 (by decide) wd_742 rfl (v := .int ((va_up sc 0 (nI 0)) 7)) rfl dX9_make_173 ?_
              refine fw_top (e7) ?_
              refine lv_aload_n hx hb dX9_make_176 rfl (lv_at hl 1 rfl) ?_
              refine mm_get hx hb hT hown hz hm 5 (by decide) wd_740 rfl (v := .int ((va_up sc 0 (nI 0)) 5)) rfl dX9_make_177 ?_
              refine fw_top (e5) ?_
              refine mm_ast hx hb hz hm 8 (nT) (by decide) rfl (show nT < 8 by omega) dX9_make_180 (fun F1 H locs hm => ?_)
              refine lv_aload_n hx hb dX9_make_181 rfl (lv_at hl 1 rfl) ?_
              refine lv_iconst (v := (nI 0)) hx hb dX9_make_182 (by decide) ?_
              refine mm_put hx hb hT hown hz hm 5 (by decide) wd_740 dX9_make_183 (fun F1 H locs hm => ?_)
              refine lv_aload_n hx hb dX9_make_186 rfl (lv_at hl 1 rfl) ?_
              refine lv_dup hx hb dX9_make_187 rfl ?_
              refine mm_get hx hb hT hown hz hm 7 (by decide) wd_742 rfl (v := .int ((va_up sc 0 (nI 0)) 7)) rfl dX9_make_188 ?_
              refine fw_top (e7) ?_
              refine lv_iconst (v := (nI 1)) hx hb dX9_make_191 (by decide) ?_
              refine lv_iadd hx hb dX9_make_192 ?_
              refine fw_top (nI_add _ _) ?_
              refine mm_put hx hb hT hown hz hm 7 (by decide) wd_742 dX9_make_193 (fun F1 H locs hm => ?_)
              refine lv_aload_n hx hb dX9_make_196 rfl (lv_at hl 1 rfl) ?_
              refine mm_get hx hb hT hown hz hm 7 (by decide) wd_742 rfl (v := .int (nI (nT + 1))) rfl dX9_make_197 ?_
              refine lv_iconst (v := (nI 1)) hx hb dX9_make_200 (by decide) ?_
              refine lv_isub hx hb dX9_make_201 ?_
              refine fw_top (pk_sub (by omega)) ?_
              exact mm_iret hx hb hr hlk (Nat.le_of_ble_eq_true rfl) (Nat.le_of_ble_eq_true rfl) hm dX9_make_202 (⟨fun h => absurd h (by rw [hc]; decide), fun _ => ⟨rfl, rfl, by rw [Nat.add_sub_cancel]⟩⟩)
            · have g : ¬ (3 * k) ≤ (3 * k) := fun h9 => g ((nI_leI (a := 3 * k) (b := 3 * k) (by omega) (by omega)).mpr h9)
              omega
          | succ d ih =>
            intro i  hk  F1 H locs ls hm hl
            refine lv_iload_n hx hb dX9_make_132 rfl (lv_at hl 0 rfl) ?_
            refine lv_iconst (v := (nI 3)) hx hb dX9_make_133 (by decide) ?_
            refine lv_aload_n hx hb dX9_make_134 rfl (lv_at hl 1 rfl) ?_
            refine mm_get hx hb hT hown hz hm 5 (by decide) wd_740 rfl (v := .int ((va_up sc 0 (nI 0)) 5)) rfl dX9_make_135 ?_
            refine fw_top (e5) ?_
            refine lv_imul hx hb dX9_make_138 ?_
            refine fw_top (pk_mul _ _) ?_
            refine lv_icmp_ge (tgt := 168) hx hb dX9_make_139 (by decide) (fun g => ?_) (fun g => ?_)
            · have g := (nI_leI (a := 3 * k) (b := i) (by omega) (by omega)).mp g
              omega
            · have g : ¬ (3 * k) ≤ i := fun h9 => g ((nI_leI (a := 3 * k) (b := i) (by omega) (by omega)).mpr h9)
              refine lv_aload_n hx hb dX9_make_142 rfl (lv_at hl 1 rfl) ?_
              refine mm_get hx hb hT hown hz hm 9 (by decide) wd_744 rfl (v := .ref (ad 9)) rfl dX9_make_143 ?_
              refine lv_bipush (v := (nI 12)) hx hb dX9_make_146 (by decide) ?_
              refine lv_aload_n hx hb dX9_make_148 rfl (lv_at hl 1 rfl) ?_
              refine mm_get hx hb hT hown hz hm 7 (by decide) wd_742 rfl (v := .int ((va_up sc 0 (nI 0)) 7)) rfl dX9_make_149 ?_
              refine fw_top (e7) ?_
              refine lv_imul hx hb dX9_make_152 ?_
              refine fw_top (pk_mul _ _) ?_
              refine lv_iload_n hx hb dX9_make_153 rfl (lv_at hl 0 rfl) ?_
              refine lv_iadd hx hb dX9_make_154 ?_
              refine fw_top (nI_add _ _) ?_
              refine lv_aload_n hx hb dX9_make_155 rfl (lv_at hl 1 rfl) ?_
              refine mm_get hx hb hT hown hz hm 6 (by decide) wd_741 rfl (v := .ref (ad 6)) rfl dX9_make_156 ?_
              refine lv_iload_n hx hb dX9_make_159 rfl (lv_at hl 0 rfl) ?_
              refine mm_ald hx hb hz hm 6 (i) (by decide) rfl (show i < 12 by omega) dX9_make_160 ?_
              refine mm_ast hx hb hz hm 9 ((12 * nT) + i) (by decide) rfl (show (12 * nT) + i < 96 by omega) dX9_make_161 (fun F1 H locs hm => ?_)
              rw [bx_uu] at hm
              refine lv_iinc (v := (nI (i + 1))) (lv' := [(3, .int (nI (i + 1))), (0, .ref y), (1, .int ds)]) hx hb dX9_make_162 hl (k := 0) rfl (nI_1 _) (by decide) rfl (fun ls hl => ?_)
              refine lv_goto (tgt := 132) hx hb dX9_make_165 (by decide) ?_
              exact ih (i + 1)  (by omega)  _ _ _ _ hm (lv_sub hl [0, 1, 2] rfl)
      · have g : ¬ k ≤ k := fun h9 => g ((nI_leI (a := k) (b := k) (by omega) (by omega)).mpr h9)
        omega
    | succ d ih =>
      intro k  hk  F1 H locs ls hm hl
      have hk4 : k < nD := by omega
      refine lv_iload_n hx hb dX9_make_32 rfl (lv_at hl 0 rfl) ?_
      refine lv_aload_n hx hb dX9_make_33 rfl (lv_at hl 2 rfl) ?_
      refine mm_get hx hb hT hown hz hm 5 (by decide) wd_740 rfl (v := .int (sc 5)) rfl dX9_make_34 ?_
      refine fw_top (e5) ?_
      refine lv_icmp_ge (tgt := 108) hx hb dX9_make_37 (by decide) (fun g => ?_) (fun g => ?_)
      · have g := (nI_leI (a := nD) (b := k) (by omega) (by omega)).mp g
        omega
      · have g : ¬ nD ≤ k := fun h9 => g ((nI_leI (a := nD) (b := k) (by omega) (by omega)).mpr h9)
        refine lv_iload_n hx hb dX9_make_40 rfl (lv_at hl 1 rfl) ?_
        refine lv_if_eq (tgt := 100) hx hb dX9_make_41 (by decide) (fun h2 => ?_) (fun h2 => ?_)
        · have h2 := fw_b0 h2
          refine lv_iconst (v := (nI 0)) hx hb dX9_make_100 (by decide) ?_
          refine fw_top (x' := (fw_b (rf_cans f nC (rf_can0 f nD nT ds) (k + 1)))) (by rw [rf_cans_s, h2]; rfl) ?_
          refine lv_istore_n (lv' := [(2, .int (fw_b (rf_cans f nC (rf_can0 f nD nT ds) (k + 1)))), (3, .int (nI k)), (0, .ref y), (1, .int ds)]) hx hb dX9_make_101 rfl hl (by decide) rfl (fun ls hl => ?_)
          refine lv_iinc (v := (nI (k + 1))) (lv' := [(3, .int (nI (k + 1))), (2, .int (fw_b (rf_cans f nC (rf_can0 f nD nT ds) (k + 1)))), (0, .ref y), (1, .int ds)]) hx hb dX9_make_102 hl (k := 1) rfl (nI_1 _) (by decide) rfl (fun ls hl => ?_)
          refine lv_goto (tgt := 32) hx hb dX9_make_105 (by decide) ?_
          exact ih (k + 1)  (by omega)  _ _ _ _ hm (lv_sub hl [0, 1, 2, 3] rfl)
        · have h2 := fw_b1 h2
          refine lv_aload_n hx hb dX9_make_44 rfl (lv_at hl 2 rfl) ?_
          refine lv_aload_n hx hb dX9_make_45 rfl (lv_at hl 2 rfl) ?_
          refine mm_get hx hb hT hown hz hm 6 (by decide) wd_741 rfl (v := .ref (ad 6)) rfl dX9_make_46 ?_
          refine lv_iconst (v := (nI 3)) hx hb dX9_make_49 (by decide) ?_
          refine lv_iload_n hx hb dX9_make_50 rfl (lv_at hl 0 rfl) ?_
          refine lv_imul hx hb dX9_make_51 ?_
          refine fw_top (pk_mul _ _) ?_
          refine mm_ald hx hb hz hm 6 (3 * k) (by decide) rfl (show 3 * k < 12 by omega) dX9_make_52 ?_
          refine lv_aload_n hx hb dX9_make_53 rfl (lv_at hl 2 rfl) ?_
          refine mm_get hx hb hT hown hz hm 6 (by decide) wd_741 rfl (v := .ref (ad 6)) rfl dX9_make_54 ?_
          refine lv_iconst (v := (nI 3)) hx hb dX9_make_57 (by decide) ?_
          refine lv_iload_n hx hb dX9_make_58 rfl (lv_at hl 0 rfl) ?_
          refine lv_imul hx hb dX9_make_59 ?_
          refine fw_top (pk_mul _ _) ?_
          refine lv_iconst (v := (nI 1)) hx hb dX9_make_60 (by decide) ?_
          refine lv_iadd hx hb dX9_make_61 ?_
          refine fw_top (nI_add _ _) ?_
          refine mm_ald hx hb hz hm 6 ((3 * k) + 1) (by decide) rfl (show (3 * k) + 1 < 12 by omega) dX9_make_62 ?_
          refine mm_calli (As := [.int (f 6 (3 * k)), .int (f 6 ((3 * k) + 1))]) (rest := []) C hz hm (c_X9_cutter l G _ _ y ad _ _ nC (f 6 (3 * k)) (f 6 (3 * k + 1)) hm.2.1 e1 hC) wd_828 yVX9_cutter ⟨Nat.le_of_ble_eq_true rfl, Nat.le_of_ble_eq_true rfl⟩ rfl hl.1 rfl (Nat.le_of_ble_eq_true rfl) dX9_make_63 ⟨Nat.le_of_ble_eq_true rfl, Nat.le_of_ble_eq_true rfl⟩ (fun r sc1 f1 F1 H locs hm hp => ?_)
          refine W.widen (k := 0) (n := 0) (Nat.le_of_ble_eq_true rfl) (Nat.le_of_ble_eq_true rfl) ?_
          obtain ⟨h7, h8, h9⟩ := hp
          rw [h7, h8] at hm
          subst h9
          refine lv_iconst (v := (-1)) hx hb dX9_make_66 (by decide) ?_
          refine lv_icmp_eq (tgt := 100) hx hb dX9_make_67 (by decide) (fun h3 => ?_) (fun h3 => ?_)
          · refine lv_iconst (v := (nI 0)) hx hb dX9_make_100 (by decide) ?_
            refine fw_top (x' := (fw_b (rf_cans f nC (rf_can0 f nD nT ds) (k + 1)))) (by rw [rf_cans_s, h2, decide_eq_true h3]; rfl) ?_
            refine lv_istore_n (lv' := [(2, .int (fw_b (rf_cans f nC (rf_can0 f nD nT ds) (k + 1)))), (3, .int (nI k)), (0, .ref y), (1, .int ds)]) hx hb dX9_make_101 rfl hl (by decide) rfl (fun ls hl => ?_)
            refine lv_iinc (v := (nI (k + 1))) (lv' := [(3, .int (nI (k + 1))), (2, .int (fw_b (rf_cans f nC (rf_can0 f nD nT ds) (k + 1)))), (0, .ref y), (1, .int ds)]) hx hb dX9_make_102 hl (k := 1) rfl (nI_1 _) (by decide) rfl (fun ls hl => ?_)
            refine lv_goto (tgt := 32) hx hb dX9_make_105 (by decide) ?_
            exact ih (k + 1)  (by omega)  _ _ _ _ hm (lv_sub hl [0, 1, 2, 3] rfl)
          · refine lv_aload_n hx hb dX9_make_70 rfl (lv_at hl 2 rfl) ?_
            refine lv_aload_n hx hb dX9_make_71 rfl (lv_at hl 2 rfl) ?_
            refine mm_get hx hb hT hown hz hm 6 (by decide) wd_741 rfl (v := .ref (ad 6)) rfl dX9_make_72 ?_
            refine lv_iconst (v := (nI 3)) hx hb dX9_make_75 (by decide) ?_
            refine lv_iload_n hx hb dX9_make_76 rfl (lv_at hl 0 rfl) ?_
            refine lv_imul hx hb dX9_make_77 ?_
            refine fw_top (pk_mul _ _) ?_
            refine mm_ald hx hb hz hm 6 (3 * k) (by decide) rfl (show 3 * k < 12 by omega) dX9_make_78 ?_
            refine lv_aload_n hx hb dX9_make_79 rfl (lv_at hl 2 rfl) ?_
            refine mm_get hx hb hT hown hz hm 6 (by decide) wd_741 rfl (v := .ref (ad 6)) rfl dX9_make_80 ?_
            refine lv_iconst (v := (nI 3)) hx hb dX9_make_83 (by decide) ?_
            refine lv_iload_n hx hb dX9_make_84 rfl (lv_at hl 0 rfl) ?_
            refine lv_imul hx hb dX9_make_85 ?_
            refine fw_top (pk_mul _ _) ?_
            refine lv_iconst (v := (nI 2)) hx hb dX9_make_86 (by decide) ?_
            refine lv_iadd hx hb dX9_make_87 ?_
            refine fw_top (nI_add _ _) ?_
            refine mm_ald hx hb hz hm 6 ((3 * k) + 2) (by decide) rfl (show (3 * k) + 2 < 12 by omega) dX9_make_88 ?_
            refine mm_calli (As := [.int (f 6 (3 * k)), .int (f 6 ((3 * k) + 2))]) (rest := []) C hz hm (c_X9_cutter l G _ _ y ad _ _ nC (f 6 (3 * k)) (f 6 (3 * k + 2)) hm.2.1 e1 hC) wd_828 yVX9_cutter ⟨Nat.le_of_ble_eq_true rfl, Nat.le_of_ble_eq_true rfl⟩ rfl hl.1 rfl (Nat.le_of_ble_eq_true rfl) dX9_make_89 ⟨Nat.le_of_ble_eq_true rfl, Nat.le_of_ble_eq_true rfl⟩ (fun r sc1 f1 F1 H locs hm hp => ?_)
            refine W.widen (k := 0) (n := 0) (Nat.le_of_ble_eq_true rfl) (Nat.le_of_ble_eq_true rfl) ?_
            obtain ⟨h7, h8, h9⟩ := hp
            rw [h7, h8] at hm
            subst h9
            refine lv_iconst (v := (-1)) hx hb dX9_make_92 (by decide) ?_
            refine lv_icmp_eq (tgt := 100) hx hb dX9_make_93 (by decide) (fun h4 => ?_) (fun h4 => ?_)
            · refine lv_iconst (v := (nI 0)) hx hb dX9_make_100 (by decide) ?_
              refine fw_top (x' := (fw_b (rf_cans f nC (rf_can0 f nD nT ds) (k + 1)))) (by rw [rf_cans_s, h2, decide_eq_false h3, decide_eq_true h4]; rfl) ?_
              refine lv_istore_n (lv' := [(2, .int (fw_b (rf_cans f nC (rf_can0 f nD nT ds) (k + 1)))), (3, .int (nI k)), (0, .ref y), (1, .int ds)]) hx hb dX9_make_101 rfl hl (by decide) rfl (fun ls hl => ?_)
              refine lv_iinc (v := (nI (k + 1))) (lv' := [(3, .int (nI (k + 1))), (2, .int (fw_b (rf_cans f nC (rf_can0 f nD nT ds) (k + 1)))), (0, .ref y), (1, .int ds)]) hx hb dX9_make_102 hl (k := 1) rfl (nI_1 _) (by decide) rfl (fun ls hl => ?_)
              refine lv_goto (tgt := 32) hx hb dX9_make_105 (by decide) ?_
              exact ih (k + 1)  (by omega)  _ _ _ _ hm (lv_sub hl [0, 1, 2, 3] rfl)
            · refine lv_iconst (v := (nI 1)) hx hb dX9_make_96 (by decide) ?_
              refine lv_goto (tgt := 101) hx hb dX9_make_97 (by decide) ?_
              refine fw_top (x' := (fw_b (rf_cans f nC (rf_can0 f nD nT ds) (k + 1)))) (by rw [rf_cans_s, h2, decide_eq_false h3, decide_eq_false h4]; rfl) ?_
              refine lv_istore_n (lv' := [(2, .int (fw_b (rf_cans f nC (rf_can0 f nD nT ds) (k + 1)))), (3, .int (nI k)), (0, .ref y), (1, .int ds)]) hx hb dX9_make_101 rfl hl (by decide) rfl (fun ls hl => ?_)
              refine lv_iinc (v := (nI (k + 1))) (lv' := [(3, .int (nI (k + 1))), (2, .int (fw_b (rf_cans f nC (rf_can0 f nD nT ds) (k + 1)))), (0, .ref y), (1, .int ds)]) hx hb dX9_make_102 hl (k := 1) rfl (nI_1 _) (by decide) rfl (fun ls hl => ?_)
              refine lv_goto (tgt := 32) hx hb dX9_make_105 (by decide) ?_
              exact ih (k + 1)  (by omega)  _ _ _ _ hm (lv_sub hl [0, 1, 2, 3] rfl)
  refine lv_aload_n hx hb dX9_make_0 rfl (lv_at hl 0 rfl) ?_
  refine mm_get hx hb hT hown hz hm 5 (by decide) wd_740 rfl (v := .int (sc 5)) rfl dX9_make_1 ?_
  refine fw_top (e5) ?_
  refine lv_if_le (tgt := 28) hx hb dX9_make_4 (by decide) (fun g1 => ?_) (fun g1 => ?_)
  · have g1 := (nI_leI (a := nD) (b := 0) (by omega) (by omega)).mp g1
    refine lv_iconst (v := (nI 0)) hx hb dX9_make_28 (by decide) ?_
    refine fw_top (x' := (fw_b (rf_can0 f nD nT ds))) (by rw [rf_can0, decide_eq_false (show ¬ 0 < nD by omega)]; rfl) ?_
    refine lv_istore_n (lv' := [(2, .int (fw_b (rf_can0 f nD nT ds))), (0, .ref y), (1, .int ds)]) hx hb dX9_make_29 rfl hl (by decide) rfl (fun ls hl => ?_)
    exact hJ _ _ _ _ hm (lv_sub hl [0, 1, 2] rfl)
  · have g1 : ¬ nD ≤ 0 := fun h9 => g1 ((nI_leI (a := nD) (b := 0) (by omega) (by omega)).mpr h9)
    have g1 : 0 < nD := by omega
    refine lv_iload_n hx hb dX9_make_7 rfl (lv_at hl 1 rfl) ?_
    refine lv_aload_n hx hb dX9_make_8 rfl (lv_at hl 0 rfl) ?_
    refine mm_calli (As := []) (rest := [.int ds]) C hz hm (c_X9_draftDistance l G _ _ y ad _ _ nD hm.2.1 e5 hD) wd_836 yVX9_draftDistance ⟨Nat.le_of_ble_eq_true rfl, Nat.le_of_ble_eq_true rfl⟩ rfl hl.1 rfl (Nat.le_of_ble_eq_true rfl) dX9_make_9 ⟨Nat.le_of_ble_eq_true rfl, Nat.le_of_ble_eq_true rfl⟩ (fun r sc1 f1 F1 H locs hm hp => ?_)
    refine W.widen (k := 0) (n := 0) (Nat.le_of_ble_eq_true rfl) (Nat.le_of_ble_eq_true rfl) ?_
    obtain ⟨h7, h8, h9⟩ := hp
    rw [h7, h8] at hm
    subst h9
    refine lv_icmp_ne (tgt := 28) hx hb dX9_make_12 (by decide) (fun g2 => ?_) (fun g2 => ?_)
    · refine lv_iconst (v := (nI 0)) hx hb dX9_make_28 (by decide) ?_
      refine fw_top (x' := (fw_b (rf_can0 f nD nT ds))) (by rw [rf_can0, decide_eq_true g1, decide_eq_false g2]; rfl) ?_
      refine lv_istore_n (lv' := [(2, .int (fw_b (rf_can0 f nD nT ds))), (0, .ref y), (1, .int ds)]) hx hb dX9_make_29 rfl hl (by decide) rfl (fun ls hl => ?_)
      exact hJ _ _ _ _ hm (lv_sub hl [0, 1, 2] rfl)
    · refine lv_aload_n hx hb dX9_make_15 rfl (lv_at hl 0 rfl) ?_
      refine mm_get hx hb hT hown hz hm 7 (by decide) wd_742 rfl (v := .int (sc 7)) rfl dX9_make_16 ?_
      refine fw_top (e7) ?_
      refine lv_bipush (v := (nI 8)) hx hb dX9_make_19 (by decide) ?_
      refine lv_icmp_ge (tgt := 28) hx hb dX9_make_21 (by decide) (fun g3 => ?_) (fun g3 => ?_)
      · have g3 := (nI_leI (a := 8) (b := nT) (by omega) (by omega)).mp g3
        refine lv_iconst (v := (nI 0)) hx hb dX9_make_28 (by decide) ?_
        refine fw_top (x' := (fw_b (rf_can0 f nD nT ds))) (by rw [rf_can0, decide_eq_true g1, decide_eq_true g2, decide_eq_false (show ¬ nT < 8 by omega)]; rfl) ?_
        refine lv_istore_n (lv' := [(2, .int (fw_b (rf_can0 f nD nT ds))), (0, .ref y), (1, .int ds)]) hx hb dX9_make_29 rfl hl (by decide) rfl (fun ls hl => ?_)
        exact hJ _ _ _ _ hm (lv_sub hl [0, 1, 2] rfl)
      · have g3 : ¬ 8 ≤ nT := fun h9 => g3 ((nI_leI (a := 8) (b := nT) (by omega) (by omega)).mpr h9)
        refine lv_iconst (v := (nI 1)) hx hb dX9_make_24 (by decide) ?_
        refine lv_goto (tgt := 29) hx hb dX9_make_25 (by decide) ?_
        refine fw_top (x' := (fw_b (rf_can0 f nD nT ds))) (by rw [rf_can0, decide_eq_true g1, decide_eq_true g2, decide_eq_true (show nT < 8 by omega)]; rfl) ?_
        refine lv_istore_n (lv' := [(2, .int (fw_b (rf_can0 f nD nT ds))), (0, .ref y), (1, .int ds)]) hx hb dX9_make_29 rfl hl (by decide) rfl (fun ls hl => ?_)
        exact hJ _ _ _ _ hm (lv_sub hl [0, 1, 2] rfl)
set_option maxHeartbeats 4000000 in
set_option maxRecDepth 100000 in
theorem c_X9_news (l : Launch) (G : fw_G) (F : fw_F) (sz y : Nat) (ad : Nat → Nat) (sc : mm_S) (f : mm_A) (nC : Nat) (mo x1 x2 x3 x4 : Int32) (hW : mm_W G F y ad sc f) (e1 : sc 1 = nI nC) (hC : nC ≤ 10) : mm_Ci l G F sz y ad yX9_news cX9_news 7 (.int) { frames := 3, cells := 0, slots := 0, locals := 68 } [.int mo, .int x1, .int x2, .int x3, .int x4] (fun r sc1 f1 => sc1 = sc ∧ f1 = f ∧ r = nI (rf_news f nC mo x1 x2 x3 x4)) := by
  refine fw_met (lv := [(0, .ref y), (1, .int mo), (2, .int x1), (3, .int x2), (4, .int x3), (5, .int x4)]) (by decide +kernel) (Nat.le_of_ble_eq_true rfl) rfl ?_
  intro A hA p e s m below meth c ls hx hb hml hown hT hr hlk hin hz hsz hw hAn hl
  rw [← hA]
  have hown : s.vm.findClass RX9 = some m.cls := hown
  have C : CallFix p m c cX9_news 7 s _ fw_tb RX9 := ⟨hx, hb, hml, hown, hT⟩
  have hm : mm_M G A s F y ad sc f F s.heap [] := ⟨hw, hW, mm_keep.rf⟩
  have hJ3 : ∀ (F1 : fw_F) (H : Heap) (locs : List Loc) (ls : Array Slot), mm_M G A s F y ad sc f F1 H locs → lv_has ls 7 [(6, .int (nI (rf_lk f nC mo x1 + (if x2 = x1 then 0 else rf_lk f nC mo x2) + (if x3 = x1 ∨ x3 = x2 then 0 else rf_lk f nC mo x3)))), (0, .ref y), (1, .int mo), (2, .int x1), (3, .int x2), (4, .int x3), (5, .int x4)] → W p l e { frames := 3, cells := 0, slots := 0, locals := 68 } s m ([.ref y, .int mo, .int x1, .int x2, .int x3, .int x4] : List Value).toArray below meth c H locs 0 0 (MQ below (va_Qi (mm_post G y ad F (fun r sc1 f1 => sc1 = sc ∧ f1 = f ∧ r = nI (rf_news f nC mo x1 x2 x3 x4))) (fw_B G A) A) ([.ref y, .int mo, .int x1, .int x2, .int x3, .int x4] : List Value).toArray s 0 0 A) (F0 m 56 ls []) := by
    intro F1 H locs ls hm hl
    refine lv_iload hx hb dX9_news_56 (lv_at hl 0 rfl) ?_
    refine lv_iload hx hb dX9_news_58 (lv_at hl 6 rfl) ?_
    refine lv_iload_n hx hb dX9_news_60 rfl (lv_at hl 3 rfl) ?_
    refine lv_icmp_eq (tgt := 77) hx hb dX9_news_61 (by decide) (fun g1 => ?_) (fun g1 => ?_)
    · refine lv_iconst (v := (nI 0)) hx hb dX9_news_77 (by decide) ?_
      refine lv_goto (tgt := 88) hx hb dX9_news_78 (by decide) ?_
      refine lv_iadd hx hb dX9_news_88 ?_
      refine fw_top (nI_add _ _) ?_
      exact mm_iret hx hb hr hlk (Nat.le_of_ble_eq_true rfl) (Nat.le_of_ble_eq_true rfl) hm dX9_news_89 (⟨rfl, rfl, by rw [rf_news, if_pos (show x4 = x1 ∨ x4 = x2 ∨ x4 = x3 from Or.inl g1)]⟩)
    · refine lv_iload hx hb dX9_news_64 (lv_at hl 6 rfl) ?_
      refine lv_iload_n hx hb dX9_news_66 rfl (lv_at hl 4 rfl) ?_
      refine lv_icmp_eq (tgt := 77) hx hb dX9_news_67 (by decide) (fun g2 => ?_) (fun g2 => ?_)
      · refine lv_iconst (v := (nI 0)) hx hb dX9_news_77 (by decide) ?_
        refine lv_goto (tgt := 88) hx hb dX9_news_78 (by decide) ?_
        refine lv_iadd hx hb dX9_news_88 ?_
        refine fw_top (nI_add _ _) ?_
        exact mm_iret hx hb hr hlk (Nat.le_of_ble_eq_true rfl) (Nat.le_of_ble_eq_true rfl) hm dX9_news_89 (⟨rfl, rfl, by rw [rf_news, if_pos (show x4 = x1 ∨ x4 = x2 ∨ x4 = x3 from Or.inr (Or.inl g2))]⟩)
      · refine lv_iload hx hb dX9_news_70 (lv_at hl 6 rfl) ?_
        refine lv_iload hx hb dX9_news_72 (lv_at hl 5 rfl) ?_
        refine lv_icmp_ne (tgt := 81) hx hb dX9_news_74 (by decide) (fun g3 => ?_) (fun g3 => ?_)
        · refine lv_aload_n hx hb dX9_news_81 rfl (lv_at hl 1 rfl) ?_
          refine lv_iload_n hx hb dX9_news_82 rfl (lv_at hl 2 rfl) ?_
          refine lv_iload hx hb dX9_news_83 (lv_at hl 6 rfl) ?_
          refine mm_calli (As := [.int mo, .int x4]) (rest := [.int (nI (rf_lk f nC mo x1 + (if x2 = x1 then 0 else rf_lk f nC mo x2) + (if x3 = x1 ∨ x3 = x2 then 0 else rf_lk f nC mo x3)))]) C hz hm (c_X9_lacks l G _ _ y ad _ _ nC mo x4 hm.2.1 e1 hC) wd_961 yVX9_lacks ⟨Nat.le_of_ble_eq_true rfl, Nat.le_of_ble_eq_true rfl⟩ rfl hl.1 rfl (Nat.le_of_ble_eq_true rfl) dX9_news_85 ⟨Nat.le_of_ble_eq_true rfl, Nat.le_of_ble_eq_true rfl⟩ (fun r sc1 f1 F1 H locs hm hp => ?_)
          refine W.widen (k := 0) (n := 0) (Nat.le_of_ble_eq_true rfl) (Nat.le_of_ble_eq_true rfl) ?_
          obtain ⟨h7, h8, h9⟩ := hp
          rw [h7, h8] at hm
          subst h9
          refine fw_top (x' := (nI (rf_lk f nC mo x4))) (rf_lk_b) ?_
          refine lv_iadd hx hb dX9_news_88 ?_
          refine fw_top (nI_add _ _) ?_
          exact mm_iret hx hb hr hlk (Nat.le_of_ble_eq_true rfl) (Nat.le_of_ble_eq_true rfl) hm dX9_news_89 (⟨rfl, rfl, by rw [rf_news, if_neg (show ¬ (x4 = x1 ∨ x4 = x2 ∨ x4 = x3) from fun h => h.elim g1 (fun h => h.elim g2 g3))]⟩)
        · refine lv_iconst (v := (nI 0)) hx hb dX9_news_77 (by decide) ?_
          refine lv_goto (tgt := 88) hx hb dX9_news_78 (by decide) ?_
          refine lv_iadd hx hb dX9_news_88 ?_
          refine fw_top (nI_add _ _) ?_
          exact mm_iret hx hb hr hlk (Nat.le_of_ble_eq_true rfl) (Nat.le_of_ble_eq_true rfl) hm dX9_news_89 (⟨rfl, rfl, by rw [rf_news, if_pos (show x4 = x1 ∨ x4 = x2 ∨ x4 = x3 from Or.inr (Or.inr g3))]⟩)
  have hJ2 : ∀ (F1 : fw_F) (H : Heap) (locs : List Loc) (ls : Array Slot), mm_M G A s F y ad sc f F1 H locs → lv_has ls 7 [(6, .int (nI (rf_lk f nC mo x1 + (if x2 = x1 then 0 else rf_lk f nC mo x2)))), (0, .ref y), (1, .int mo), (2, .int x1), (3, .int x2), (4, .int x3), (5, .int x4)] → W p l e { frames := 3, cells := 0, slots := 0, locals := 68 } s m ([.ref y, .int mo, .int x1, .int x2, .int x3, .int x4] : List Value).toArray below meth c H locs 0 0 (MQ below (va_Qi (mm_post G y ad F (fun r sc1 f1 => sc1 = sc ∧ f1 = f ∧ r = nI (rf_news f nC mo x1 x2 x3 x4))) (fw_B G A) A) ([.ref y, .int mo, .int x1, .int x2, .int x3, .int x4] : List Value).toArray s 0 0 A) (F0 m 28 ls []) := by
    intro F1 H locs ls hm hl
    refine lv_iload hx hb dX9_news_28 (lv_at hl 0 rfl) ?_
    refine lv_iload hx hb dX9_news_30 (lv_at hl 5 rfl) ?_
    refine lv_iload_n hx hb dX9_news_32 rfl (lv_at hl 3 rfl) ?_
    refine lv_icmp_eq (tgt := 42) hx hb dX9_news_33 (by decide) (fun g1 => ?_) (fun g1 => ?_)
    · refine lv_iconst (v := (nI 0)) hx hb dX9_news_42 (by decide) ?_
      refine lv_goto (tgt := 53) hx hb dX9_news_43 (by decide) ?_
      refine lv_iadd hx hb dX9_news_53 ?_
      refine fw_top (nI_add _ _) ?_
      refine fw_top (x' := (nI (rf_lk f nC mo x1 + (if x2 = x1 then 0 else rf_lk f nC mo x2) + (if x3 = x1 ∨ x3 = x2 then 0 else rf_lk f nC mo x3)))) (congrArg nI (by rw [if_pos (show x3 = x1 ∨ x3 = x2 from Or.inl g1)])) ?_
      refine lv_istore (lv' := [(6, .int (nI (rf_lk f nC mo x1 + (if x2 = x1 then 0 else rf_lk f nC mo x2) + (if x3 = x1 ∨ x3 = x2 then 0 else rf_lk f nC mo x3)))), (0, .ref y), (1, .int mo), (2, .int x1), (3, .int x2), (4, .int x3), (5, .int x4)]) hx hb dX9_news_54 hl (by decide) rfl (fun ls hl => ?_)
      exact hJ3 _ _ _ _ hm (lv_sub hl [0, 1, 2, 3, 4, 5, 6] rfl)
    · refine lv_iload hx hb dX9_news_36 (lv_at hl 5 rfl) ?_
      refine lv_iload_n hx hb dX9_news_38 rfl (lv_at hl 4 rfl) ?_
      refine lv_icmp_ne (tgt := 46) hx hb dX9_news_39 (by decide) (fun g2 => ?_) (fun g2 => ?_)
      · refine lv_aload_n hx hb dX9_news_46 rfl (lv_at hl 1 rfl) ?_
        refine lv_iload_n hx hb dX9_news_47 rfl (lv_at hl 2 rfl) ?_
        refine lv_iload hx hb dX9_news_48 (lv_at hl 5 rfl) ?_
        refine mm_calli (As := [.int mo, .int x3]) (rest := [.int (nI (rf_lk f nC mo x1 + (if x2 = x1 then 0 else rf_lk f nC mo x2)))]) C hz hm (c_X9_lacks l G _ _ y ad _ _ nC mo x3 hm.2.1 e1 hC) wd_961 yVX9_lacks ⟨Nat.le_of_ble_eq_true rfl, Nat.le_of_ble_eq_true rfl⟩ rfl hl.1 rfl (Nat.le_of_ble_eq_true rfl) dX9_news_50 ⟨Nat.le_of_ble_eq_true rfl, Nat.le_of_ble_eq_true rfl⟩ (fun r sc1 f1 F1 H locs hm hp => ?_)
        refine W.widen (k := 0) (n := 0) (Nat.le_of_ble_eq_true rfl) (Nat.le_of_ble_eq_true rfl) ?_
        obtain ⟨h7, h8, h9⟩ := hp
        rw [h7, h8] at hm
        subst h9
        refine fw_top (x' := (nI (rf_lk f nC mo x3))) (rf_lk_b) ?_
        refine lv_iadd hx hb dX9_news_53 ?_
        refine fw_top (nI_add _ _) ?_
        refine fw_top (x' := (nI (rf_lk f nC mo x1 + (if x2 = x1 then 0 else rf_lk f nC mo x2) + (if x3 = x1 ∨ x3 = x2 then 0 else rf_lk f nC mo x3)))) (congrArg nI (by rw [if_neg (show ¬ (x3 = x1 ∨ x3 = x2) from fun h => h.elim g1 g2)])) ?_
        refine lv_istore (lv' := [(6, .int (nI (rf_lk f nC mo x1 + (if x2 = x1 then 0 else rf_lk f nC mo x2) + (if x3 = x1 ∨ x3 = x2 then 0 else rf_lk f nC mo x3)))), (0, .ref y), (1, .int mo), (2, .int x1), (3, .int x2), (4, .int x3), (5, .int x4)]) hx hb dX9_news_54 hl (by decide) rfl (fun ls hl => ?_)
        exact hJ3 _ _ _ _ hm (lv_sub hl [0, 1, 2, 3, 4, 5, 6] rfl)
      · refine lv_iconst (v := (nI 0)) hx hb dX9_news_42 (by decide) ?_
        refine lv_goto (tgt := 53) hx hb dX9_news_43 (by decide) ?_
        refine lv_iadd hx hb dX9_news_53 ?_
        refine fw_top (nI_add _ _) ?_
        refine fw_top (x' := (nI (rf_lk f nC mo x1 + (if x2 = x1 then 0 else rf_lk f nC mo x2) + (if x3 = x1 ∨ x3 = x2 then 0 else rf_lk f nC mo x3)))) (congrArg nI (by rw [if_pos (show x3 = x1 ∨ x3 = x2 from Or.inr g2)])) ?_
        refine lv_istore (lv' := [(6, .int (nI (rf_lk f nC mo x1 + (if x2 = x1 then 0 else rf_lk f nC mo x2) + (if x3 = x1 ∨ x3 = x2 then 0 else rf_lk f nC mo x3)))), (0, .ref y), (1, .int mo), (2, .int x1), (3, .int x2), (4, .int x3), (5, .int x4)]) hx hb dX9_news_54 hl (by decide) rfl (fun ls hl => ?_)
        exact hJ3 _ _ _ _ hm (lv_sub hl [0, 1, 2, 3, 4, 5, 6] rfl)
  refine lv_aload_n hx hb dX9_news_0 rfl (lv_at hl 0 rfl) ?_
  refine lv_iload_n hx hb dX9_news_1 rfl (lv_at hl 1 rfl) ?_
  refine lv_iload_n hx hb dX9_news_2 rfl (lv_at hl 2 rfl) ?_
  refine mm_calli (As := [.int mo, .int x1]) (rest := []) C hz hm (c_X9_lacks l G _ _ y ad _ _ nC mo x1 hm.2.1 e1 hC) wd_961 yVX9_lacks ⟨Nat.le_of_ble_eq_true rfl, Nat.le_of_ble_eq_true rfl⟩ rfl hl.1 rfl (Nat.le_of_ble_eq_true rfl) dX9_news_3 ⟨Nat.le_of_ble_eq_true rfl, Nat.le_of_ble_eq_true rfl⟩ (fun r sc1 f1 F1 H locs hm hp => ?_)
  refine W.widen (k := 0) (n := 0) (Nat.le_of_ble_eq_true rfl) (Nat.le_of_ble_eq_true rfl) ?_
  obtain ⟨h7, h8, h9⟩ := hp
  rw [h7, h8] at hm
  subst h9
  refine fw_top (x' := (nI (rf_lk f nC mo x1))) (rf_lk_b) ?_
  refine lv_istore (lv' := [(6, .int (nI (rf_lk f nC mo x1))), (0, .ref y), (1, .int mo), (2, .int x1), (3, .int x2), (4, .int x3), (5, .int x4)]) hx hb dX9_news_6 hl (by decide) rfl (fun ls hl => ?_)
  refine lv_iload hx hb dX9_news_8 (lv_at hl 0 rfl) ?_
  refine lv_iload_n hx hb dX9_news_10 rfl (lv_at hl 4 rfl) ?_
  refine lv_iload_n hx hb dX9_news_11 rfl (lv_at hl 3 rfl) ?_
  refine lv_icmp_ne (tgt := 19) hx hb dX9_news_12 (by decide) (fun g1 => ?_) (fun g1 => ?_)
  · refine lv_aload_n hx hb dX9_news_19 rfl (lv_at hl 1 rfl) ?_
    refine lv_iload_n hx hb dX9_news_20 rfl (lv_at hl 2 rfl) ?_
    refine lv_iload_n hx hb dX9_news_21 rfl (lv_at hl 4 rfl) ?_
    refine mm_calli (As := [.int mo, .int x2]) (rest := [.int (nI (rf_lk f nC mo x1))]) C hz hm (c_X9_lacks l G _ _ y ad _ _ nC mo x2 hm.2.1 e1 hC) wd_961 yVX9_lacks ⟨Nat.le_of_ble_eq_true rfl, Nat.le_of_ble_eq_true rfl⟩ rfl hl.1 rfl (Nat.le_of_ble_eq_true rfl) dX9_news_22 ⟨Nat.le_of_ble_eq_true rfl, Nat.le_of_ble_eq_true rfl⟩ (fun r sc1 f1 F1 H locs hm hp => ?_)
    refine W.widen (k := 0) (n := 0) (Nat.le_of_ble_eq_true rfl) (Nat.le_of_ble_eq_true rfl) ?_
    obtain ⟨h7, h8, h9⟩ := hp
    rw [h7, h8] at hm
    subst h9
    refine fw_top (x' := (nI (rf_lk f nC mo x2))) (rf_lk_b) ?_
    refine lv_iadd hx hb dX9_news_25 ?_
    refine fw_top (nI_add _ _) ?_
    refine fw_top (x' := (nI (rf_lk f nC mo x1 + (if x2 = x1 then 0 else rf_lk f nC mo x2)))) (congrArg nI (by rw [if_neg g1])) ?_
    refine lv_istore (lv' := [(6, .int (nI (rf_lk f nC mo x1 + (if x2 = x1 then 0 else rf_lk f nC mo x2)))), (0, .ref y), (1, .int mo), (2, .int x1), (3, .int x2), (4, .int x3), (5, .int x4)]) hx hb dX9_news_26 hl (by decide) rfl (fun ls hl => ?_)
    exact hJ2 _ _ _ _ hm (lv_sub hl [0, 1, 2, 3, 4, 5, 6] rfl)
  · refine lv_iconst (v := (nI 0)) hx hb dX9_news_15 (by decide) ?_
    refine lv_goto (tgt := 25) hx hb dX9_news_16 (by decide) ?_
    refine lv_iadd hx hb dX9_news_25 ?_
    refine fw_top (nI_add _ _) ?_
    refine fw_top (x' := (nI (rf_lk f nC mo x1 + (if x2 = x1 then 0 else rf_lk f nC mo x2)))) (congrArg nI (by rw [if_pos g1])) ?_
    refine lv_istore (lv' := [(6, .int (nI (rf_lk f nC mo x1 + (if x2 = x1 then 0 else rf_lk f nC mo x2)))), (0, .ref y), (1, .int mo), (2, .int x1), (3, .int x2), (4, .int x3), (5, .int x4)]) hx hb dX9_news_26 hl (by decide) rfl (fun ls hl => ?_)
    exact hJ2 _ _ _ _ hm (lv_sub hl [0, 1, 2, 3, 4, 5, 6] rfl)
