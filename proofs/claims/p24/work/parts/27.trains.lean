/-! The class's fractions and trains. -/
/-- what isn't of the tags in P is kept -/
def fw_kp (F F1 : fw_F) (P : fw_T → Prop) : Prop := ∀ (a : Nat) (t : fw_T) (e : fw_E), F a = some (t, e) → ¬ P t → F1 a = some (t, e)
theorem fw_kp.rf {F : fw_F} {P : fw_T → Prop} : fw_kp F F P := fun _ _ _ h _ => h
theorem fw_kp.up {F F1 : fw_F} {P : fw_T → Prop} {a : Nat} {t : fw_T} {e e' : fw_E} {u : fw_T} (h : fw_kp F F1 P) (ha : F1 a = some (t, e)) (ht : P t) : fw_kp F (va_up F1 a (some (u, e'))) P := fun b t' d g1 g2 => fw_up_tag (h b t' d g1 g2) ha (fun z => g2 (by rw [z]; exact ht))
theorem fw_kp.new {F F1 : fw_F} {P : fw_T → Prop} {q : Nat} {x : fw_T × fw_E} (h : fw_kp F F1 P) (hq : F1 q = none) : fw_kp F (va_up F1 q (some x)) P := fun b t' d g1 g2 => fw_up_new (h b t' d g1 g2) hq
theorem fw_kp.tr {F F1 F2 : fw_F} {P Q : fw_T → Prop} (h : fw_kp F F1 P) (h2 : fw_kp F1 F2 Q) : fw_kp F F2 (fun t => P t ∨ Q t) := fun a t e g1 g2 => h2 a t e (h a t e g1 (fun z => g2 (Or.inl z))) (fun z => g2 (Or.inr z))
theorem fw_kp.wk {F F1 : fw_F} {P Q : fw_T → Prop} (h : fw_kp F F1 P) (hPQ : ∀ t, P t → Q t) : fw_kp F F1 Q := fun a t e g1 g2 => h a t e g1 (fun z => g2 (hPQ t z))
/-- no list has a fresh address among its elements -/
theorem fw_nb {G : fw_G} {F : fw_F} {H : Heap} {q : Nat} {x : fw_T × fw_E} (hP : fw_P G F H) (hq : F q = none) (hx : ∀ t arr n f, x ≠ (t, fw_ls arr n f)) : ∀ a t1 arr1 n1 f1, va_up F q (some x) a = some (t1, fw_ls arr1 n1 f1) → ∀ i, i < n1 → f1 i ≠ q := by
  intro a t1 arr1 n1 f1 h i hi z
  have e : a ≠ q := fun w => by rw [w, va_up_self] at h; exact hx _ _ _ _ (Option.some.inj h)
  rw [va_up_ne _ _ e] at h
  obtain ⟨t', ci, fs, g⟩ := hP.2.2 a t1 arr1 n1 f1 h i hi
  rw [z, hq] at g
  cases g
set_option maxHeartbeats 4000000 in
set_option maxRecDepth 100000 in
theorem c_X1_multiply (l : Launch) (G : fw_G) (F : fw_F) (sz : Nat) (b : Nat) (t : fw_T) (u v p9 q9 : Nat) (hF : F b = some (t, fw_obj 2 [.long (lN u), .long (lN v)])) (h1 : u * p9 < 2 ^ 62) (h2 : v * q9 < 2 ^ 62) (h3 : u * p9 * (v * q9) < 2 ^ 98) (h4 : 0 < v * q9) : Met l yX1_multiply (fw_ws yX1_multiply cX1_multiply 7 none) { frames := 1, cells := 0, slots := 0, locals := 30 } (va_Pc [.ref b, .long (lN p9), .long (lN q9)] (fw_Pre G F sz)) (va_Qv (fun F1 => F1 = va_up F b (some (t, fw_obj 2 [.long (lN (u * p9 / (Nat.gcd (u * p9) (v * q9)))), .long (lN (v * q9 / (Nat.gcd (u * p9) (v * q9))))]))) (fw_B G (fw_W G F sz)) (fw_W G F sz)) 0 0 (fw_W G F sz) := by
  refine fw_met (lv := [(0, .ref b), (1, .long (lN p9)), (3, .long (lN q9))]) (by decide +kernel) (Nat.le_of_ble_eq_true rfl) rfl ?_
  intro A hA p e s m below meth c ls hx hb hml hown hT hr hlk hin hz hsz hw hAn hl
  rw [← hA]
  have hown : s.vm.findClass RX1 = some m.cls := hown
  have C : CallFix p m c cX1_multiply 7 s _ fw_tb RX1 := ⟨hx, hb, hml, hown, hT⟩
  have hg0 : 0 < (Nat.gcd (u * p9) (v * q9)) := Nat.gcd_pos_of_pos_right _ h4
  have hgl : (Nat.gcd (u * p9) (v * q9)) ≤ v * q9 := Nat.gcd_le_right _ h4
  refine lv_aload_n hx hb dX1_multiply_0 rfl (lv_at hl 0 rfl) ?_
  refine lv_dup hx hb dX1_multiply_1 rfl ?_
  refine fw_get (v := .long (lN u)) hx hb hT fi_RX1 hown hz hw hF rfl 0 (by decide) (hT _ wd_73) (fun _ h9 => h9) rfl dX1_multiply_2 ?_
  refine lv_lload_n hx hb dX1_multiply_5 rfl (lv_at hl 1 rfl) ?_
  refine lv_lmul hx hb dX1_multiply_6 ?_
  refine fw_topL (lN_mul _ _) ?_
  refine fw_put (v := .long (lN (u * p9))) (fs' := [.long (lN (u * p9)), .long (lN v)]) hx hb hT fi_RX1 tyX1 tyX1_ok nmX1 hown hz hw hF rfl 0 (by decide) (hT _ wd_73) (fun _ h9 => h9) rfl (ty := tyX1 0) (by decide +kernel) rfl rfl (Nat.le_of_ble_eq_true rfl) rfl dX1_multiply_7 (fun H locs hw => ?_)
  obtain ⟨W1, hFW1⟩ : ∃ z, z = va_up F b (some (t, fw_obj 2 [.long (lN (u * p9)), .long (lN v)])) := ⟨_, rfl⟩
  rw [← hFW1] at hw
  have k1_s : W1 b = some (t, fw_obj 2 [.long (lN (u * p9)), .long (lN v)]) := by rw [hFW1]; exact fw_up_self
  refine lv_aload_n hx hb dX1_multiply_10 rfl (lv_at hl 0 rfl) ?_
  refine lv_dup hx hb dX1_multiply_11 rfl ?_
  refine fw_get (v := .long (lN v)) hx hb hT fi_RX1 hown hz hw k1_s rfl 1 (by decide) (hT _ wd_75) (fun _ h9 => h9) rfl dX1_multiply_12 ?_
  refine lv_lload_n hx hb dX1_multiply_15 rfl (lv_at hl 2 rfl) ?_
  refine lv_lmul hx hb dX1_multiply_16 ?_
  refine fw_topL (lN_mul _ _) ?_
  refine fw_put (v := .long (lN (v * q9))) (fs' := [.long (lN (u * p9)), .long (lN (v * q9))]) hx hb hT fi_RX1 tyX1 tyX1_ok nmX1 hown hz hw k1_s rfl 1 (by decide) (hT _ wd_75) (fun _ h9 => h9) rfl (ty := tyX1 1) (by decide +kernel) rfl rfl (Nat.le_of_ble_eq_true rfl) rfl dX1_multiply_17 (fun H locs hw => ?_)
  obtain ⟨W2, hFW2⟩ : ∃ z, z = va_up W1 b (some (t, fw_obj 2 [.long (lN (u * p9)), .long (lN (v * q9))])) := ⟨_, rfl⟩
  rw [← hFW2] at hw
  have k2_s : W2 b = some (t, fw_obj 2 [.long (lN (u * p9)), .long (lN (v * q9))]) := by rw [hFW2]; exact fw_up_self
  refine lv_aload_n hx hb dX1_multiply_20 rfl (lv_at hl 0 rfl) ?_
  refine fw_get (v := .long (lN (u * p9))) hx hb hT fi_RX1 hown hz hw k2_s rfl 0 (by decide) (hT _ wd_73) (fun _ h9 => h9) rfl dX1_multiply_21 ?_
  refine lv_aload_n hx hb dX1_multiply_24 rfl (lv_at hl 0 rfl) ?_
  refine fw_get (v := .long (lN (v * q9))) hx hb hT fi_RX1 hown hz hw k2_s rfl 1 (by decide) (hT _ wd_75) (fun _ h9 => h9) rfl dX1_multiply_25 ?_
  refine fw_calll (fw_runSN (As := [.long (lN (u * p9)), .long (lN (v * q9))]) (rest := []) C hz hw (c_X8_commonDivisor l G _ _ (u * p9) (v * q9) h1 h2 h3) (fw_cnS hT (hz.2.2.2.2.2.2.1 _ (List.mem_of_getElem? (i := 2) rfl)) ySX8_commonDivisor rfl rfl ⟨Nat.le_of_ble_eq_true rfl, Nat.le_of_ble_eq_true rfl⟩) rfl hl.1 rfl (Nat.le_of_ble_eq_true rfl) dX1_multiply_28 ⟨Nat.le_of_ble_eq_true rfl, Nat.le_of_ble_eq_true rfl⟩) hw (fun r F1 H locs hw hp => ?_)
  refine W.widen (k := 0) (n := 0) (Nat.le_of_ble_eq_true rfl) (Nat.le_of_ble_eq_true rfl) ?_
  obtain ⟨hp0, rfl⟩ := hp
  rw [hp0] at hw
  refine lv_lstore (lv' := [(5, .long (lN (Nat.gcd (u * p9) (v * q9)))), (0, .ref b), (1, .long (lN p9)), (3, .long (lN q9))]) hx hb dX1_multiply_31 hl (by decide) rfl (fun ls hl => ?_)
  refine lv_lload hx hb dX1_multiply_33 (lv_at hl 0 rfl) ?_
  refine lv_lconst (v := lN 1) hx hb dX1_multiply_35 rfl ?_
  refine W.lcmp hx hb dX1_multiply_36 ?_
  refine lv_if_le (tgt := 62) hx hb dX1_multiply_37 (by decide) (fun d => ?_) (fun d => ?_)
  · have hg1 : (Nat.gcd (u * p9) (v * q9)) = 1 := by have := (lc_le (by omega) (by decide)).mp d; omega
    exact fw_vret hx hb hr hlk (Nat.le_of_ble_eq_true rfl) (Nat.le_of_ble_eq_true rfl) hw dX1_multiply_62 (by rw [hFW2, hFW1, bx_uu, hg1, Nat.div_one, Nat.div_one])
  · refine lv_aload_n hx hb dX1_multiply_40 rfl (lv_at hl 1 rfl) ?_
    refine lv_dup hx hb dX1_multiply_41 rfl ?_
    refine fw_get (v := .long (lN (u * p9))) hx hb hT fi_RX1 hown hz hw k2_s rfl 0 (by decide) (hT _ wd_73) (fun _ h9 => h9) rfl dX1_multiply_42 ?_
    refine lv_lload hx hb dX1_multiply_45 (lv_at hl 0 rfl) ?_
    refine lv_ldiv hx hb dX1_multiply_47 (fun h => absurd ((pk_lEQ (a := (Nat.gcd (u * p9) (v * q9))) (b := 0) (by omega) (by decide)).mp h) (by omega)) ?_
    refine fw_topL (pk_lDiv (by omega) hg0 (by omega)) ?_
    refine fw_put (v := .long (lN (u * p9 / (Nat.gcd (u * p9) (v * q9))))) (fs' := [.long (lN (u * p9 / (Nat.gcd (u * p9) (v * q9)))), .long (lN (v * q9))]) hx hb hT fi_RX1 tyX1 tyX1_ok nmX1 hown hz hw k2_s rfl 0 (by decide) (hT _ wd_73) (fun _ h9 => h9) rfl (ty := tyX1 0) (by decide +kernel) rfl rfl (Nat.le_of_ble_eq_true rfl) rfl dX1_multiply_48 (fun H locs hw => ?_)
    obtain ⟨W3, hFW3⟩ : ∃ z, z = va_up W2 b (some (t, fw_obj 2 [.long (lN (u * p9 / (Nat.gcd (u * p9) (v * q9)))), .long (lN (v * q9))])) := ⟨_, rfl⟩
    rw [← hFW3] at hw
    have k3_s : W3 b = some (t, fw_obj 2 [.long (lN (u * p9 / (Nat.gcd (u * p9) (v * q9)))), .long (lN (v * q9))]) := by rw [hFW3]; exact fw_up_self
    refine lv_aload_n hx hb dX1_multiply_51 rfl (lv_at hl 1 rfl) ?_
    refine lv_dup hx hb dX1_multiply_52 rfl ?_
    refine fw_get (v := .long (lN (v * q9))) hx hb hT fi_RX1 hown hz hw k3_s rfl 1 (by decide) (hT _ wd_75) (fun _ h9 => h9) rfl dX1_multiply_53 ?_
    refine lv_lload hx hb dX1_multiply_56 (lv_at hl 0 rfl) ?_
    refine lv_ldiv hx hb dX1_multiply_58 (fun h => absurd ((pk_lEQ (a := (Nat.gcd (u * p9) (v * q9))) (b := 0) (by omega) (by decide)).mp h) (by omega)) ?_
    refine fw_topL (pk_lDiv (by omega) hg0 (by omega)) ?_
    refine fw_put (v := .long (lN (v * q9 / (Nat.gcd (u * p9) (v * q9))))) (fs' := [.long (lN (u * p9 / (Nat.gcd (u * p9) (v * q9)))), .long (lN (v * q9 / (Nat.gcd (u * p9) (v * q9))))]) hx hb hT fi_RX1 tyX1 tyX1_ok nmX1 hown hz hw k3_s rfl 1 (by decide) (hT _ wd_75) (fun _ h9 => h9) rfl (ty := tyX1 1) (by decide +kernel) rfl rfl (Nat.le_of_ble_eq_true rfl) rfl dX1_multiply_59 (fun H locs hw => ?_)
    obtain ⟨W4, hFW4⟩ : ∃ z, z = va_up W3 b (some (t, fw_obj 2 [.long (lN (u * p9 / (Nat.gcd (u * p9) (v * q9)))), .long (lN (v * q9 / (Nat.gcd (u * p9) (v * q9))))])) := ⟨_, rfl⟩
    rw [← hFW4] at hw
    have k4_s : W4 b = some (t, fw_obj 2 [.long (lN (u * p9 / (Nat.gcd (u * p9) (v * q9)))), .long (lN (v * q9 / (Nat.gcd (u * p9) (v * q9))))]) := by rw [hFW4]; exact fw_up_self
    exact fw_vret hx hb hr hlk (Nat.le_of_ble_eq_true rfl) (Nat.le_of_ble_eq_true rfl) hw dX1_multiply_62 (by rw [hFW4, hFW3, hFW2, hFW1, bx_uu, bx_uu, bx_uu])
set_option maxHeartbeats 4000000 in
set_option maxRecDepth 100000 in
theorem c_X1_roundedDown (l : Launch) (G : fw_G) (F : fw_F) (sz : Nat) (b : Nat) (t : fw_T) (u v : Nat) (hF : F b = some (t, fw_obj 2 [.long (lN u), .long (lN v)])) (h1 : u < 2 ^ 62) (h2 : v < 2 ^ 62) (h4 : 0 < v) : Met l yX1_roundedDown (fw_ws yX1_roundedDown cX1_roundedDown 1 (some (.int))) { frames := 0, cells := 0, slots := 0, locals := 0 } (va_Pc [.ref b] (fw_Pre G F sz)) (va_Qi (fun r F1 => F1 = F ∧ (fun r => r = nI (u / v)) r) (fw_B G (fw_W G F sz)) (fw_W G F sz)) 0 0 (fw_W G F sz) := by
  refine fw_met (lv := [(0, .ref b)]) (by decide +kernel) (Nat.le_of_ble_eq_true rfl) rfl ?_
  intro A hA p e s m below meth c ls hx hb hml hown hT hr hlk hin hz hsz hw hAn hl
  rw [← hA]
  have hown : s.vm.findClass RX1 = some m.cls := hown
  have C : CallFix p m c cX1_roundedDown 1 s _ fw_tb RX1 := ⟨hx, hb, hml, hown, hT⟩
  refine lv_aload_n hx hb dX1_roundedDown_0 rfl (lv_at hl 0 rfl) ?_
  refine fw_get (v := .long (lN v)) hx hb hT fi_RX1 hown hz hw hF rfl 1 (by decide) (hT _ wd_75) (fun _ h9 => h9) rfl dX1_roundedDown_1 ?_
  refine lv_lconst (v := lN 0) hx hb dX1_roundedDown_4 rfl ?_
  refine W.lcmp hx hb dX1_roundedDown_5 ?_
  refine lv_if_le (tgt := 22) hx hb dX1_roundedDown_6 (by decide) (fun d => ?_) (fun d => ?_)
  · have := (lc_le (by omega) (by decide)).mp d; omega
  · refine lv_aload_n hx hb dX1_roundedDown_9 rfl (lv_at hl 0 rfl) ?_
    refine fw_get (v := .long (lN u)) hx hb hT fi_RX1 hown hz hw hF rfl 0 (by decide) (hT _ wd_73) (fun _ h9 => h9) rfl dX1_roundedDown_10 ?_
    refine lv_aload_n hx hb dX1_roundedDown_13 rfl (lv_at hl 0 rfl) ?_
    refine fw_get (v := .long (lN v)) hx hb hT fi_RX1 hown hz hw hF rfl 1 (by decide) (hT _ wd_75) (fun _ h9 => h9) rfl dX1_roundedDown_14 ?_
    refine lv_ldiv hx hb dX1_roundedDown_17 (fun h => absurd ((pk_lEQ (a := v) (b := 0) (by omega) (by decide)).mp h) (by omega)) ?_
    refine fw_topL (pk_lDiv (by omega) h4 (by omega)) ?_
    refine lv_l2i (v := nI (u / v)) hx hb dX1_roundedDown_18 (lN_i _) ?_
    refine lv_goto (tgt := 23) hx hb dX1_roundedDown_19 (by decide) ?_
    exact fw_iret hx hb hr hlk (Nat.le_of_ble_eq_true rfl) (Nat.le_of_ble_eq_true rfl) hw dX1_roundedDown_23 (⟨rfl, rfl⟩)
set_option maxHeartbeats 4000000 in
set_option maxRecDepth 100000 in
theorem c_X7_init (l : Launch) (G : fw_G) (F : fw_F) (sz : Nat) (b i : Nat) (t : fw_T) (hF : F b = some (t, fw_obj 8 [.null, .null, .int (nI 0)])) : Met l yX7_init (fw_ws yX7_init cX7_init 1 none) { frames := 4, cells := 2, slots := 5, locals := 80 } (va_Pc [.ref b] (fw_Pre G F sz)) (va_Qv (fun F1 => ∃ q1 q2, F1 b = some (t, fw_obj 8 [.ref q1, .ref q2, .int (nI 0)]) ∧ F1 q1 = some ((13, i, 0), fw_ls (fw_ea G) 0 (fun _ => 0)) ∧ F1 q2 = some ((33, i, 0), fw_obj 2 [.long (lN 1), .long (lN 1)]) ∧ fw_kp F F1 (fun u => u = t)) (fw_B G (fw_W G F sz)) (fw_W G F sz)) 2 5 (fw_W G F sz) := by
  refine fw_met (lv := [(0, .ref b)]) (by decide +kernel) (Nat.le_of_ble_eq_true rfl) rfl ?_
  intro A hA p e s m below meth c ls hx hb hml hown hT hr hlk hin hz hsz hw hAn hl
  rw [← hA]
  have hown : s.vm.findClass RX7 = some m.cls := hown
  have C : CallFix p m c cX7_init 1 s _ fw_tb RX7 := ⟨hx, hb, hml, hown, hT⟩
  refine lv_aload_n hx hb dX7_init_0 rfl (lv_at hl 0 rfl) ?_
  refine W.objInit hx hb hown (hT _ wd_64) (hT _ wd_31) (hT _ wd_32) rfl (hl.1.trans hml.symm) rfl dX7_init_1 (Nat.le_of_ble_eq_true rfl) (Nat.le_of_ble_eq_true rfl) ?_
  refine W.eq (g2 := F0 m 4 ls []) rfl ?_
  refine lv_aload_n hx hb dX7_init_4 rfl (lv_at hl 0 rfl) ?_
  have hkp : fw_kp F F (fun u => u = t) := fw_kp.rf
  have hPq := hw.1
  refine fw_new (13, i, 0) (ci := 0) (fs := [.int (nI 0), .null, .int (nI 0)]) hx hb hT fi_RJx4a65c tyJx4a65c tyJx4a65c_ok hown (hT _ wd_65) (hT _ wd_34) (hT _ wd_4) hz hw hAn rfl (by intro j hj; rcases (show j = 0 ∨ j = 1 ∨ j = 2 by omega) with rfl | rfl | rfl <;> rfl) (Nat.le_of_ble_eq_true rfl) (Nat.le_of_ble_eq_true rfl) dX7_init_5 (fun q1 H hqq1 hw => ?_)
  refine W.widen (k := 1) (n := 3) (Nat.le_of_ble_eq_true rfl) (Nat.le_of_ble_eq_true rfl) ?_
  obtain ⟨W1, hFW1⟩ : ∃ z, z = va_up F q1 (some ((13, i, 0), fw_obj 0 [.int (nI 0), .null, .int (nI 0)])) := ⟨_, rfl⟩
  rw [← hFW1] at hw
  have k1_0 : W1 b = some (t, fw_obj 8 [.null, .null, .int (nI 0)]) := by rw [hFW1]; exact fw_up_new hF hqq1
  have k1_s : W1 q1 = some ((13, i, 0), fw_obj 0 [.int (nI 0), .null, .int (nI 0)]) := by rw [hFW1]; exact fw_up_self
  refine lv_dup hx hb dX7_init_8 rfl ?_
  have hkp := fw_kp.new (x := ((13, i, 0), fw_obj 0 [.int (nI 0), .null, .int (nI 0)])) hkp hqq1
  rw [← hFW1] at hkp
  refine fw_callv (fw_runI (As := []) (rest := [.ref q1, .ref b]) C hz hw (c_Jx4a65c_init_da8c8 l G _ _ q1 (13, i, 0) (show 13 < 900 by decide) k1_s (by rw [hFW1]; exact fw_nb hPq hqq1 (fun t arr n f h => by cases h))) (fw_cwI hT wd_66 yIJx4a65c_init_da8c8 rfl rfl ⟨Nat.le_of_ble_eq_true rfl, Nat.le_of_ble_eq_true rfl⟩) rfl hl.1 rfl (Nat.le_of_ble_eq_true rfl) dX7_init_9 ⟨Nat.le_of_ble_eq_true rfl, Nat.le_of_ble_eq_true rfl⟩) hw (fun F1 H locs hw hp => ?_)
  refine W.widen (k := 1) (n := 3) (Nat.le_of_ble_eq_true rfl) (Nat.le_of_ble_eq_true rfl) ?_
  rw [hp] at hw
  obtain ⟨W2, hFW2⟩ : ∃ z, z = va_up W1 q1 (some ((13, i, 0), fw_ls (fw_ea G) 0 (fun _ => 0))) := ⟨_, rfl⟩
  rw [← hFW2] at hw
  have k2_0 : W2 b = some (t, fw_obj 8 [.null, .null, .int (nI 0)]) := by rw [hFW2, va_up_ne _ _ (fun z => by rw [z, k1_s] at k1_0; cases k1_0)]; exact k1_0
  have k2_s : W2 q1 = some ((13, i, 0), fw_ls (fw_ea G) 0 (fun _ => 0)) := by rw [hFW2]; exact fw_up_self
  have hb1 : b ≠ q1 := fun z => by rw [z, hqq1] at hF; cases hF
  refine fw_putF (v := .ref q1) (fs' := [.ref q1, .null, .int (nI 0)]) hx hb hT fi_RX7 tyX7 tyX7_ok nmX7 hown hz hw k2_0 rfl 0 (by decide) (hT _ wd_82) (fun _ h9 => h9) rfl (hin rfl) rfl (ty := tyX7 0) (by decide +kernel) rfl rfl (Nat.le_of_ble_eq_true rfl) rfl dX7_init_12 (fun H locs hw => ?_)
  obtain ⟨W3, hFW3⟩ : ∃ z, z = va_up W2 b (some (t, fw_obj 8 [.ref q1, .null, .int (nI 0)])) := ⟨_, rfl⟩
  rw [← hFW3] at hw
  have k3_0 : W3 q1 = some ((13, i, 0), fw_ls (fw_ea G) 0 (fun _ => 0)) := by rw [hFW3]; rw [va_up_ne _ _ (fun z => by have h9 := k2_s; rw [z, k2_0] at h9; cases h9)]; exact k2_s
  have k3_s : W3 b = some (t, fw_obj 8 [.ref q1, .null, .int (nI 0)]) := by rw [hFW3]; exact fw_up_self
  refine lv_aload_n hx hb dX7_init_15 rfl (lv_at hl 0 rfl) ?_
  refine fw_new (33, i, 0) (ci := 2) (fs := [.long (lN 0), .long (lN 0)]) hx hb hT fi_RX1 tyX1 tyX1_ok hown (hT _ wd_67) (hT _ wd_68) (hT _ wd_6) hz hw hAn rfl (by intro j hj; rcases (show j = 0 ∨ j = 1 by omega) with rfl | rfl <;> rfl) (Nat.le_of_ble_eq_true rfl) (Nat.le_of_ble_eq_true rfl) dX7_init_16 (fun q2 H hqq2 hw => ?_)
  refine W.widen (k := 2) (n := 5) (Nat.le_of_ble_eq_true rfl) (Nat.le_of_ble_eq_true rfl) ?_
  obtain ⟨W4, hFW4⟩ : ∃ z, z = va_up W3 q2 (some ((33, i, 0), fw_obj 2 [.long (lN 0), .long (lN 0)])) := ⟨_, rfl⟩
  rw [← hFW4] at hw
  have k4_0 : W4 q1 = some ((13, i, 0), fw_ls (fw_ea G) 0 (fun _ => 0)) := by rw [hFW4]; exact fw_up_new k3_0 hqq2
  have k4_1 : W4 b = some (t, fw_obj 8 [.ref q1, .null, .int (nI 0)]) := by rw [hFW4]; exact fw_up_new k3_s hqq2
  have k4_s : W4 q2 = some ((33, i, 0), fw_obj 2 [.long (lN 0), .long (lN 0)]) := by rw [hFW4]; exact fw_up_self
  refine lv_dup hx hb dX7_init_19 rfl ?_
  refine lv_lconst (v := lN 1) hx hb dX7_init_20 rfl ?_
  refine fw_callv (fw_runI (As := [.long (lN 1)]) (rest := [.ref q2, .ref b]) C hz hw (c_X1_init l G _ _ q2 (33, i, 0) 1 k4_s) (fw_cwI hT wd_69 yIX1_init rfl rfl ⟨Nat.le_of_ble_eq_true rfl, Nat.le_of_ble_eq_true rfl⟩) rfl hl.1 rfl (Nat.le_of_ble_eq_true rfl) dX7_init_21 ⟨Nat.le_of_ble_eq_true rfl, Nat.le_of_ble_eq_true rfl⟩) hw (fun F1 H locs hw hp => ?_)
  refine W.widen (k := 2) (n := 5) (Nat.le_of_ble_eq_true rfl) (Nat.le_of_ble_eq_true rfl) ?_
  rw [hp] at hw
  obtain ⟨W5, hFW5⟩ : ∃ z, z = va_up W4 q2 (some ((33, i, 0), fw_obj 2 [.long (lN 1), .long (lN 1)])) := ⟨_, rfl⟩
  rw [← hFW5] at hw
  have k5_0 : W5 q1 = some ((13, i, 0), fw_ls (fw_ea G) 0 (fun _ => 0)) := by rw [hFW5]; rw [va_up_ne _ _ (fun z => by have h9 := k4_0; rw [z, k4_s] at h9; cases h9)]; exact k4_0
  have k5_1 : W5 b = some (t, fw_obj 8 [.ref q1, .null, .int (nI 0)]) := by rw [hFW5]; rw [va_up_ne _ _ (fun z => by have h9 := k4_1; rw [z, k4_s] at h9; cases h9)]; exact k4_1
  have k5_s : W5 q2 = some ((33, i, 0), fw_obj 2 [.long (lN 1), .long (lN 1)]) := by rw [hFW5]; exact fw_up_self
  refine fw_putF (v := .ref q2) (fs' := [.ref q1, .ref q2, .int (nI 0)]) hx hb hT fi_RX7 tyX7 tyX7_ok nmX7 hown hz hw k5_1 rfl 1 (by decide) (hT _ wd_85) (fun _ h9 => h9) rfl (hin rfl) rfl (ty := tyX7 1) (by decide +kernel) rfl rfl (Nat.le_of_ble_eq_true rfl) rfl dX7_init_24 (fun H locs hw => ?_)
  obtain ⟨W6, hFW6⟩ : ∃ z, z = va_up W5 b (some (t, fw_obj 8 [.ref q1, .ref q2, .int (nI 0)])) := ⟨_, rfl⟩
  rw [← hFW6] at hw
  have k6_0 : W6 q1 = some ((13, i, 0), fw_ls (fw_ea G) 0 (fun _ => 0)) := by rw [hFW6]; rw [va_up_ne _ _ (fun z => by have h9 := k5_0; rw [z, k5_1] at h9; cases h9)]; exact k5_0
  have k6_1 : W6 q2 = some ((33, i, 0), fw_obj 2 [.long (lN 1), .long (lN 1)]) := by rw [hFW6]; rw [va_up_ne _ _ (fun z => by have h9 := k5_s; rw [z, k5_1] at h9; cases h9)]; exact k5_s
  have k6_s : W6 b = some (t, fw_obj 8 [.ref q1, .ref q2, .int (nI 0)]) := by rw [hFW6]; exact fw_up_self
  refine lv_aload_n hx hb dX7_init_27 rfl (lv_at hl 0 rfl) ?_
  refine lv_iconst (v := (nI 0)) hx hb dX7_init_28 (by decide) ?_
  refine fw_put (v := .int (nI 0)) (fs' := [.ref q1, .ref q2, .int (nI 0)]) hx hb hT fi_RX7 tyX7 tyX7_ok nmX7 hown hz hw k6_s rfl 2 (by decide) (hT _ wd_87) (fun _ h9 => h9) rfl (ty := tyX7 2) (by decide +kernel) rfl rfl (Nat.le_of_ble_eq_true rfl) rfl dX7_init_29 (fun H locs hw => ?_)
  obtain ⟨W7, hFW7⟩ : ∃ z, z = va_up W6 b (some (t, fw_obj 8 [.ref q1, .ref q2, .int (nI 0)])) := ⟨_, rfl⟩
  rw [← hFW7] at hw
  have k7_0 : W7 q1 = some ((13, i, 0), fw_ls (fw_ea G) 0 (fun _ => 0)) := by rw [hFW7]; rw [va_up_ne _ _ (fun z => by have h9 := k6_0; rw [z, k6_s] at h9; cases h9)]; exact k6_0
  have k7_1 : W7 q2 = some ((33, i, 0), fw_obj 2 [.long (lN 1), .long (lN 1)]) := by rw [hFW7]; rw [va_up_ne _ _ (fun z => by have h9 := k6_1; rw [z, k6_s] at h9; cases h9)]; exact k6_1
  have k7_s : W7 b = some (t, fw_obj 8 [.ref q1, .ref q2, .int (nI 0)]) := by rw [hFW7]; exact fw_up_self
  have hend : ∀ a t1 x1, F a = some (t1, x1) → ¬ t1 = t → W7 a = some (t1, x1) := fun a t1 x1 g1 g2 => by
    have e1 : a ≠ q1 := fun z => by rw [z, hqq1] at g1; cases g1
    have e3 : a ≠ b := fun z => by rw [z, hF] at g1; cases g1; exact g2 rfl
    have e2 : a ≠ q2 := fun z => by
      have h9 : W3 a = some (t1, x1) := by rw [hFW3, va_up_ne _ _ e3, hFW2, va_up_ne _ _ e1, hFW1, va_up_ne _ _ e1]; exact g1
      rw [z, hqq2] at h9; cases h9
    rw [hFW7, va_up_ne _ _ e3, hFW6, va_up_ne _ _ e3, hFW5, va_up_ne _ _ e2, hFW4, va_up_ne _ _ e2, hFW3, va_up_ne _ _ e3, hFW2, va_up_ne _ _ e1, hFW1, va_up_ne _ _ e1]; exact g1
  exact fw_vret hx hb hr hlk (Nat.le_of_ble_eq_true rfl) (Nat.le_of_ble_eq_true rfl) hw dX7_init_32 (⟨q1, q2, k7_s, k7_0, k7_1, hend⟩)
def rf_ds (dt : Nat → Int32) : Nat → Int32
  | 0 => 0
  | k + 1 => rf_ds dt k + dt (3 * k) * (dt (3 * k + 1) + dt (3 * k + 2))
set_option maxHeartbeats 4000000 in
set_option maxRecDepth 100000 in
theorem c_X7_distance (l : Launch) (G : fw_G) (F : fw_F) (sz : Nat) (b sl fr arr cnt : Nat) (t tl : fw_T) (cv : Int32) (sa : Nat → Nat) (ts : Nat → fw_T) (dt : Nat → Int32) (hF : F b = some (t, fw_obj 8 [.ref sl, .ref fr, .int cv])) (hL : F sl = some (tl, fw_ls arr cnt sa)) (hcn : cnt ≤ 4) (hst : ∀ k, k < cnt → F (sa k) = some (ts k, fw_obj 7 [.int (dt (3 * k)), .int (dt (3 * k + 1)), .int (dt (3 * k + 2))])) : Met l yX7_distance (fw_ws yX7_distance cX7_distance 4 (some (.int))) { frames := 3, cells := 0, slots := 0, locals := 64 } (va_Pc [.ref b] (fw_Pre G F sz)) (va_Qi (fun r F1 => F1 = F ∧ (fun r => r = rf_ds dt cnt) r) (fw_B G (fw_W G F sz)) (fw_W G F sz)) 0 0 (fw_W G F sz) := by
  refine fw_met (lv := [(0, .ref b)]) (by decide +kernel) (Nat.le_of_ble_eq_true rfl) rfl ?_
  intro A hA p e s m below meth c ls hx hb hml hown hT hr hlk hin hz hsz hw hAn hl
  rw [← hA]
  have hown : s.vm.findClass RX7 = some m.cls := hown
  have C : CallFix p m c cX7_distance 4 s _ fw_tb RX7 := ⟨hx, hb, hml, hown, hT⟩
  refine lv_iconst (v := (nI 0)) hx hb dX7_distance_0 (by decide) ?_
  refine lv_istore_n (lv' := [(1, .int (nI 0)), (0, .ref b)]) hx hb dX7_distance_1 rfl hl (by decide) rfl (fun ls hl => ?_)
  refine lv_iconst (v := (nI 0)) hx hb dX7_distance_2 (by decide) ?_
  refine lv_istore_n (lv' := [(2, .int (nI 0)), (1, .int (nI 0)), (0, .ref b)]) hx hb dX7_distance_3 rfl hl (by decide) rfl (fun ls hl => ?_)
  suffices hlp : ∀ (d k : Nat), k + d = cnt →  ∀ (H : Heap) (locs : List Loc) (ls : Array Slot), fw_S G A s F H locs → lv_has ls 4 [(2, .int (nI k)), (1, .int (rf_ds dt k)), (0, .ref b)] → W p l e { frames := 3, cells := 0, slots := 0, locals := 64 } s m ([.ref b] : List Value).toArray below meth c H locs 0 0 (MQ below (va_Qi (fun r F1 => F1 = F ∧ (fun r => r = rf_ds dt cnt) r) (fw_B G A) A) ([.ref b] : List Value).toArray s 0 0 A) (F0 m 4 ls []) by
    exact hlp cnt 0  (Nat.zero_add _)   _ _ _ hw (lv_sub hl [0, 1, 2] rfl)
  intro d
  induction d with
  | zero =>
    intro k  hk  H locs ls hw hl
    refine lv_iload_n hx hb dX7_distance_4 rfl (lv_at hl 0 rfl) ?_
    refine lv_aload_n hx hb dX7_distance_5 rfl (lv_at hl 2 rfl) ?_
    refine fw_get (v := .ref sl) hx hb hT fi_RX7 hown hz hw hF rfl 0 (by decide) (hT _ wd_82) (fun _ h9 => h9) rfl dX7_distance_6 ?_
    refine fw_calli (fw_runV (As := []) (rest := [.int (nI k)]) C hz hw (c_Jx4a65c_size_8abf5 l G _ _ sl arr cnt tl sa hL) (fw_cwV hT wd_385 yVJx4a65c_size_8abf5 rfl rfl ⟨Nat.le_of_ble_eq_true rfl, Nat.le_of_ble_eq_true rfl⟩) (fw_recL hz hw hL) rfl hl.1 rfl (Nat.le_of_ble_eq_true rfl) dX7_distance_9 ⟨Nat.le_of_ble_eq_true rfl, Nat.le_of_ble_eq_true rfl⟩) hw (fun r F1 H locs hw hp => ?_)
    obtain ⟨hp0, hp⟩ := hp
    rw [hp0] at hw
    refine W.widen (k := 0) (n := 0) (Nat.le_of_ble_eq_true rfl) (Nat.le_of_ble_eq_true rfl) ?_
    subst hp
    refine lv_icmp_ge (tgt := 50) hx hb dX7_distance_12 (by decide) (fun d => ?_) (fun d => ?_)
    · have d := (nI_leI (a := cnt) (b := k) (by omega) (by omega)).mp d
      obtain rfl : k = cnt := by omega
      refine lv_iload_n hx hb dX7_distance_50 rfl (lv_at hl 1 rfl) ?_
      exact fw_iret hx hb hr hlk (Nat.le_of_ble_eq_true rfl) (Nat.le_of_ble_eq_true rfl) hw dX7_distance_51 (⟨rfl, rfl⟩)
    · have d : ¬ cnt ≤ k := fun h9 => d ((nI_leI (a := cnt) (b := k) (by omega) (by omega)).mpr h9)
      omega
  | succ d ih =>
    intro k  hk  H locs ls hw hl
    refine lv_iload_n hx hb dX7_distance_4 rfl (lv_at hl 0 rfl) ?_
    refine lv_aload_n hx hb dX7_distance_5 rfl (lv_at hl 2 rfl) ?_
    refine fw_get (v := .ref sl) hx hb hT fi_RX7 hown hz hw hF rfl 0 (by decide) (hT _ wd_82) (fun _ h9 => h9) rfl dX7_distance_6 ?_
    refine fw_calli (fw_runV (As := []) (rest := [.int (nI k)]) C hz hw (c_Jx4a65c_size_8abf5 l G _ _ sl arr cnt tl sa hL) (fw_cwV hT wd_385 yVJx4a65c_size_8abf5 rfl rfl ⟨Nat.le_of_ble_eq_true rfl, Nat.le_of_ble_eq_true rfl⟩) (fw_recL hz hw hL) rfl hl.1 rfl (Nat.le_of_ble_eq_true rfl) dX7_distance_9 ⟨Nat.le_of_ble_eq_true rfl, Nat.le_of_ble_eq_true rfl⟩) hw (fun r F1 H locs hw hp => ?_)
    obtain ⟨hp0, hp⟩ := hp
    rw [hp0] at hw
    refine W.widen (k := 0) (n := 0) (Nat.le_of_ble_eq_true rfl) (Nat.le_of_ble_eq_true rfl) ?_
    subst hp
    refine lv_icmp_ge (tgt := 50) hx hb dX7_distance_12 (by decide) (fun d => ?_) (fun d => ?_)
    · have d := (nI_leI (a := cnt) (b := k) (by omega) (by omega)).mp d
      omega
    · have d : ¬ cnt ≤ k := fun h9 => d ((nI_leI (a := cnt) (b := k) (by omega) (by omega)).mpr h9)
      have hk9 : k < cnt := by omega
      refine lv_aload_n hx hb dX7_distance_15 rfl (lv_at hl 2 rfl) ?_
      refine fw_get (v := .ref sl) hx hb hT fi_RX7 hown hz hw hF rfl 0 (by decide) (hT _ wd_82) (fun _ h9 => h9) rfl dX7_distance_16 ?_
      refine lv_iload_n hx hb dX7_distance_19 rfl (lv_at hl 0 rfl) ?_
      refine fw_callo (fw_runV (As := [.int (nI k)]) (rest := []) C hz hw (c_Jx4a65c_get_915e3 l G _ _ sl arr cnt tl sa k hL hk9 (by omega)) (fw_cwV hT wd_386 yVJx4a65c_get_915e3 rfl rfl ⟨Nat.le_of_ble_eq_true rfl, Nat.le_of_ble_eq_true rfl⟩) (fw_recL hz hw hL) rfl hl.1 rfl (Nat.le_of_ble_eq_true rfl) dX7_distance_20 ⟨Nat.le_of_ble_eq_true rfl, Nat.le_of_ble_eq_true rfl⟩) hw (fun r F1 H locs hw hp => ?_)
      obtain ⟨hp0, hp⟩ := hp
      rw [hp0] at hw
      refine W.widen (k := 0) (n := 0) (Nat.le_of_ble_eq_true rfl) (Nat.le_of_ble_eq_true rfl) ?_
      subst hp
      have hs9 := hst k hk9
      refine fw_cast hx hb hown hz hw hs9 (q := vwCl[7]) rfl (hT _ wd_387) dX7_distance_23 ?_
      refine lv_astore_n (lv' := [(3, .ref (sa k)), (2, .int (nI k)), (1, .int (rf_ds dt k)), (0, .ref b)]) hx hb dX7_distance_26 rfl hl (by decide) rfl (fun ls hl => ?_)
      refine lv_iload_n hx hb dX7_distance_27 rfl (lv_at hl 2 rfl) ?_
      refine lv_aload_n hx hb dX7_distance_28 rfl (lv_at hl 0 rfl) ?_
      refine fw_get (v := .int (dt (3 * k))) hx hb hT fi_RX6 hown hz hw hs9 rfl 0 (by decide) (hT _ wd_354) (fun _ h9 => h9) rfl dX7_distance_29 ?_
      refine lv_aload_n hx hb dX7_distance_32 rfl (lv_at hl 0 rfl) ?_
      refine fw_get (v := .int (dt (3 * k + 1))) hx hb hT fi_RX6 hown hz hw hs9 rfl 1 (by decide) (hT _ wd_357) (fun _ h9 => h9) rfl dX7_distance_33 ?_
      refine lv_aload_n hx hb dX7_distance_36 rfl (lv_at hl 0 rfl) ?_
      refine fw_get (v := .int (dt (3 * k + 2))) hx hb hT fi_RX6 hown hz hw hs9 rfl 2 (by decide) (hT _ wd_360) (fun _ h9 => h9) rfl dX7_distance_37 ?_
      refine lv_iadd hx hb dX7_distance_40 ?_
      refine lv_imul hx hb dX7_distance_41 ?_
      refine lv_iadd hx hb dX7_distance_42 ?_
      refine fw_top (x' := (rf_ds dt (k + 1))) (rfl) ?_
      refine lv_istore_n (lv' := [(1, .int (rf_ds dt (k + 1))), (3, .ref (sa k)), (2, .int (nI k)), (0, .ref b)]) hx hb dX7_distance_43 rfl hl (by decide) rfl (fun ls hl => ?_)
      refine lv_iinc (v := (nI (k + 1))) (lv' := [(2, .int (nI (k + 1))), (1, .int (rf_ds dt (k + 1))), (3, .ref (sa k)), (0, .ref b)]) hx hb dX7_distance_44 hl (k := 2) rfl (nI_1 _) (by decide) rfl (fun ls hl => ?_)
      refine lv_goto (tgt := 4) hx hb dX7_distance_47 (by decide) ?_
      exact ih (k + 1)  (by omega)   _ _ _ hw (lv_sub hl [0, 1, 3] rfl)
