/-! ArrayList, writing. -/
theorem fw_maxT {m : Nat} (h : m ≤ 10) : (if nI 10 < nI m then nI m else nI 10) = nI 10 := if_neg (nI_nlt h (by decide))
theorem fw_minN {a b : Nat} (h : a ≤ b) (hb : b ≤ 1000) : (if nI b < nI a then nI b else nI a) = nI a := if_neg (nI_nlt h (by omega))
def fw_fresh (G : fw_G) (F : fw_F) (q : Nat) : Prop := F q = none ∧ q ≠ fw_ea G ∧ ∀ a t' n' f', F a = some (t', fw_ls q n' f') → False
set_option maxHeartbeats 4000000 in
set_option maxRecDepth 100000 in
theorem c_J7_copyOf_6403c (l : Launch) (G : fw_G) (F : fw_F) (sz : Nat) (a0 k cap : Nat) (t : fw_T) (row : Nat → Option Nat) (hF : F a0 = some (t, fw_oa G cap row)) (hc : cap ≤ k) (hk : k ≤ 240) (hel : ∀ i y, i < cap → row i = some y → ∃ t1 ci fs, F y = some (t1, fw_obj ci fs)) : Met l yJ7_copyOf_6403c (fw_ws yJ7_copyOf_6403c cJ7_copyOf_6403c 4 (some ((.array (.object "java/lang/Object"))))) { frames := 1, cells := 1, slots := 240, locals := 40 } (va_Pc [.ref a0, .int (nI k), .ref (fw_mi G)] (fw_Pre G F sz)) (fw_Qo (fun r F1 => ∃ q, r = some q ∧ fw_fresh G F q ∧ F1 = va_up F q (some ((999, 0, 0), fw_oa G k (va_cpy row (fun _ => none) 0 0 cap)))) (fw_B G (fw_W G F sz)) (fw_W G F sz)) 1 240 (fw_W G F sz) := by
  refine fw_met (lv := [(0, .ref a0), (1, .int (nI k)), (2, .ref (fw_mi G))]) (by decide +kernel) (Nat.le_of_ble_eq_true rfl) rfl ?_
  intro A hA p e s m below meth c ls hx hb hml hown hT hr hlk hin hz hsz hw hAn hl
  rw [← hA]
  have hown : s.vm.findClass RJ7 = some m.cls := hown
  have C : CallFix p m c cJ7_copyOf_6403c 4 s _ fw_tb RJ7 := ⟨hx, hb, hml, hown, hT⟩
  refine lv_aload_n hx hb dJ7_copyOf_6403c_0 rfl (lv_at hl 2 rfl) ?_
  refine va_ldcM hx hb hown (hT _ wd_164) hz.2.2.2.2.2.2.2.2.1 dJ7_copyOf_6403c_1 ?_
  refine lv_acmp_ne (rx := some (fw_mi G)) (ry := some (fw_mi G)) (tgt := 13) hx hb dJ7_copyOf_6403c_3 (by decide) (fun cx => absurd rfl cx) (fun cx => ?_)
  refine lv_iload_n hx hb dJ7_copyOf_6403c_6 rfl (lv_at hl 1 rfl) ?_
  refine fw_anew (999, 0, 0) hx hb hown (hT _ wd_166) hz hw hAn k rfl (by omega) (Nat.le_of_ble_eq_true rfl) (by show 0 + k ≤ 240; omega) dJ7_copyOf_6403c_7 (fun q H hq0 hqe hqn hw => ?_)
  refine W.widen (k := 1) (n := 240) (Nat.le_of_ble_eq_true rfl) (by show 0 + k ≤ 240; omega) ?_
  have hf0 := fw_up_new (x := ((999, 0, 0), fw_oa G k (fun _ => none))) hF hq0
  have hf1 : va_up F q (some ((999, 0, 0), fw_oa G k (fun _ => none))) q = some ((999, 0, 0), fw_oa G k (fun _ => none)) := fw_up_self
  refine lv_goto (tgt := 24) hx hb dJ7_copyOf_6403c_10 (by decide) ?_
  refine lv_astore_n (lv' := [(3, .ref q), (0, .ref a0), (1, .int (nI k)), (2, .ref (fw_mi G))]) hx hb dJ7_copyOf_6403c_24 rfl hl (by decide) rfl (fun ls hl => ?_)
  refine lv_aload_n hx hb dJ7_copyOf_6403c_25 rfl (lv_at hl 1 rfl) ?_
  refine lv_iconst (v := (nI 0)) hx hb dJ7_copyOf_6403c_26 (by decide) ?_
  refine lv_aload_n hx hb dJ7_copyOf_6403c_27 rfl (lv_at hl 0 rfl) ?_
  refine lv_iconst (v := (nI 0)) hx hb dJ7_copyOf_6403c_28 (by decide) ?_
  refine lv_aload_n hx hb dJ7_copyOf_6403c_29 rfl (lv_at hl 1 rfl) ?_
  refine fw_alen hx hb hz hw hf0 dJ7_copyOf_6403c_30 ?_
  refine lv_iload_n hx hb dJ7_copyOf_6403c_31 rfl (lv_at hl 2 rfl) ?_
  refine va_mmin hx hb (hml.trans hl.1.symm) hown (hT _ wd_167) (hT _ wd_168) (hT _ wd_9) (hT _ wd_169) (Nat.le_of_ble_eq_true rfl) (Nat.le_of_ble_eq_true rfl) (Nat.le_of_ble_eq_true rfl) (Nat.le_of_ble_eq_true rfl) dJ7_copyOf_6403c_32 ?_
  refine fw_top (x' := (nI cap)) (fw_minN hc (by omega)) ?_
  refine fw_acopy (R := { frames := 1, cells := 1, slots := 240, locals := 40 }) (rest := []) hx hb (hml.trans hl.1.symm) hown (hT _ wd_170) (hT _ wd_172) (hT _ wd_171) (hT _ wd_11) hz hw hf0 hf1 (0) (0) (cap) (by omega) (by omega) (by omega) (by omega) (fun i hi y hy => by
        rw [Nat.zero_add] at hy
        obtain ⟨t1, ci, fs, h1⟩ := hel i y hi hy
        exact fw_any hz hw (fw_up_new h1 hq0)) (Nat.le_of_ble_eq_true rfl) (by decide) dJ7_copyOf_6403c_35 (fun H locs hw => ?_)
  rw [bx_uu] at hw
  refine lv_aload_n hx hb dJ7_copyOf_6403c_38 rfl (lv_at hl 0 rfl) ?_
  exact fw_aretA (v := some q) hx hb hr hlk (Nat.le_of_ble_eq_true rfl) (Nat.le_of_ble_eq_true rfl) hw dJ7_copyOf_6403c_39 rfl (⟨q, rfl, ⟨hq0, hqe, hqn⟩, rfl⟩)
set_option maxHeartbeats 4000000 in
set_option maxRecDepth 100000 in
theorem c_J7_copyOf_1904c (l : Launch) (G : fw_G) (F : fw_F) (sz : Nat) (a0 k cap : Nat) (t : fw_T) (row : Nat → Option Nat) (hF : F a0 = some (t, fw_oa G cap row)) (hc : cap ≤ k) (hk : k ≤ 240) (hel : ∀ i y, i < cap → row i = some y → ∃ t1 ci fs, F y = some (t1, fw_obj ci fs)) : Met l yJ7_copyOf_1904c (fw_ws yJ7_copyOf_1904c cJ7_copyOf_1904c 2 (some ((.array (.object "java/lang/Object"))))) { frames := 2, cells := 1, slots := 240, locals := 63 } (va_Pc [.ref a0, .int (nI k)] (fw_Pre G F sz)) (fw_Qo (fun r F1 => ∃ q, r = some q ∧ fw_fresh G F q ∧ F1 = va_up F q (some ((999, 0, 0), fw_oa G k (va_cpy row (fun _ => none) 0 0 cap)))) (fw_B G (fw_W G F sz)) (fw_W G F sz)) 1 240 (fw_W G F sz) := by
  refine fw_met (lv := [(0, .ref a0), (1, .int (nI k))]) (by decide +kernel) (Nat.le_of_ble_eq_true rfl) rfl ?_
  intro A hA p e s m below meth c ls hx hb hml hown hT hr hlk hin hz hsz hw hAn hl
  rw [← hA]
  have hown : s.vm.findClass RJ7 = some m.cls := hown
  have C : CallFix p m c cJ7_copyOf_1904c 2 s _ fw_tb RJ7 := ⟨hx, hb, hml, hown, hT⟩
  refine lv_aload_n hx hb dJ7_copyOf_1904c_0 rfl (lv_at hl 0 rfl) ?_
  refine lv_iload_n hx hb dJ7_copyOf_1904c_1 rfl (lv_at hl 1 rfl) ?_
  refine lv_aload_n hx hb dJ7_copyOf_1904c_2 rfl (lv_at hl 0 rfl) ?_
  refine va_getC hx hb (hml.trans hl.1.symm) hown (hT _ wd_144) (va_Dc.use hz.2.2.2.2.2.2.2.2.2.1) (hT _ wd_679) (hT _ wd_145) (hT _ wd_160) hz.2.2.2.2.2.2.2.2.1 (fw_recA hz hw hF) (Nat.le_of_ble_eq_true rfl) (Nat.le_of_ble_eq_true rfl) dJ7_copyOf_1904c_3 ?_
  refine fw_callo (fw_runS (As := [.ref a0, .int (nI k), .ref (fw_mi G)]) (rest := []) C hz hw (c_J7_copyOf_6403c l G _ _ a0 k cap t row hF hc hk hel) (fw_cwS hT wd_161 ySJ7_copyOf_6403c rfl rfl ⟨Nat.le_of_ble_eq_true rfl, Nat.le_of_ble_eq_true rfl⟩) rfl hl.1 rfl (Nat.le_of_ble_eq_true rfl) dJ7_copyOf_1904c_6 ⟨Nat.le_of_ble_eq_true rfl, Nat.le_of_ble_eq_true rfl⟩) hw (fun r F1 H locs hw hp => ?_)
  refine W.widen (k := 1) (n := 240) (Nat.le_of_ble_eq_true rfl) (Nat.le_of_ble_eq_true rfl) ?_
  obtain ⟨q, rfl, hp⟩ := hp
  exact fw_aretA (v := some q) hx hb hr hlk (Nat.le_of_ble_eq_true rfl) (Nat.le_of_ble_eq_true rfl) hw dJ7_copyOf_1904c_9 rfl (⟨q, rfl, hp⟩)
set_option maxHeartbeats 4000000 in
set_option maxRecDepth 100000 in
theorem c_Jx4a65c_grow_92f84_E (l : Launch) (G : fw_G) (F : fw_F) (sz : Nat) (b : Nat) (t : fw_T) (mc : Int32) (mq : Nat) (ht : t.1 < 900) (hF : F b = some (t, fw_obj 0 [.int mc, .ref (fw_ea G), .int (nI 0)])) (hm : mq ≤ 10) : Met l yJx4a65c_grow_92f84 (fw_ws yJx4a65c_grow_92f84 cJx4a65c_grow_92f84 4 (some ((.array (.object "java/lang/Object"))))) { frames := 3, cells := 1, slots := 240, locals := 84 } (va_Pc [.ref b, .int (nI mq)] (fw_Pre G F sz)) (fw_Qo (fun r F1 => ∃ q, r = some q ∧ fw_fresh G F q ∧ F1 = va_up (va_up F q (some ((999, 0, 0), fw_oa G 10 (fun _ => none)))) b (some (t, fw_obj 0 [.int mc, .ref q, .int (nI 0)]))) (fw_B G (fw_W G F sz)) (fw_W G F sz)) 1 240 (fw_W G F sz) := by
  refine fw_met (lv := [(0, .ref b), (1, .int (nI mq))]) (by decide +kernel) (Nat.le_of_ble_eq_true rfl) rfl ?_
  intro A hA p e s m below meth c ls hx hb hml hown hT hr hlk hin hz hsz hw hAn hl
  rw [← hA]
  have hown : s.vm.findClass RJx4a65c = some m.cls := hown
  have C : CallFix p m c cJx4a65c_grow_92f84 4 s _ fw_tb RJx4a65c := ⟨hx, hb, hml, hown, hT⟩
  have hn9 : t ≠ (999, 0, 0) := fun z => by rw [z] at ht; exact absurd ht (by decide)
  refine lv_aload_n hx hb dJx4a65c_grow_92f84_0 rfl (lv_at hl 0 rfl) ?_
  refine fw_get (v := .ref (fw_ea G)) hx hb hT fi_RJx4a65c hown hz hw hF rfl 1 (by decide) (hT _ wd_47) (fun _ h9 => h9) rfl dJx4a65c_grow_92f84_1 ?_
  refine fw_alenE hx hb hz hw dJx4a65c_grow_92f84_4 ?_
  refine lv_istore_n (lv' := [(2, .int (nI 0)), (0, .ref b), (1, .int (nI mq))]) hx hb dJx4a65c_grow_92f84_5 rfl hl (by decide) rfl (fun ls hl => ?_)
  refine lv_iload_n hx hb dJx4a65c_grow_92f84_6 rfl (lv_at hl 0 rfl) ?_
  refine lv_if_gt (tgt := 20) hx hb dJx4a65c_grow_92f84_7 (by decide) (fun cx => absurd cx (by decide)) (fun cx => ?_)
  refine lv_aload_n hx hb dJx4a65c_grow_92f84_10 rfl (lv_at hl 1 rfl) ?_
  refine fw_get (v := .ref (fw_ea G)) hx hb hT fi_RJx4a65c hown hz hw hF rfl 1 (by decide) (hT _ wd_47) (fun _ h9 => h9) rfl dJx4a65c_grow_92f84_11 ?_
  refine va_gets hx hb hz.2.1 hw.2.1 hown (hT _ wd_45) (fun _ h9 => h9) dJx4a65c_grow_92f84_14 ?_
  refine lv_acmp_eq (rx := some (fw_ea G)) (ry := some (fw_ea G)) (tgt := 45) hx hb dJx4a65c_grow_92f84_17 (by decide) (fun cx => ?_) (fun cx => absurd rfl cx)
  refine lv_aload_n hx hb dJx4a65c_grow_92f84_45 rfl (lv_at hl 1 rfl) ?_
  refine lv_bipush (v := (nI 10)) hx hb dJx4a65c_grow_92f84_46 (by decide) ?_
  refine lv_iload_n hx hb dJx4a65c_grow_92f84_48 rfl (lv_at hl 2 rfl) ?_
  refine va_mmax hx hb (hml.trans hl.1.symm) hown (hT _ wd_173) (hT _ wd_135) (hT _ wd_9) (hT _ wd_136) (Nat.le_of_ble_eq_true rfl) (Nat.le_of_ble_eq_true rfl) (Nat.le_of_ble_eq_true rfl) (Nat.le_of_ble_eq_true rfl) dJx4a65c_grow_92f84_49 ?_
  refine fw_top (x' := (nI 10)) (fw_maxT hm) ?_
  refine fw_anew (999, 0, 0) hx hb hown (hT _ wd_174) hz hw hAn 10 rfl (by omega) (Nat.le_of_ble_eq_true rfl) (Nat.le_of_ble_eq_true rfl) dJx4a65c_grow_92f84_52 (fun q H hq0 hqe hqn hw => ?_)
  refine W.widen (k := 1) (n := 240) (Nat.le_of_ble_eq_true rfl) (Nat.le_of_ble_eq_true rfl) ?_
  have hf0 := fw_up_new (x := ((999, 0, 0), fw_oa G 10 (fun _ => none))) hF hq0
  refine lv_dup_x1 hx hb dJx4a65c_grow_92f84_55 rfl rfl ?_
  refine fw_put (v := .ref q) (fs' := [.int mc, .ref q, .int (nI 0)]) hx hb hT fi_RJx4a65c tyJx4a65c tyJx4a65c_ok nmJx4a65c hown hz hw hf0 rfl 1 (by decide) (hT _ wd_47) (fun _ h9 => h9) rfl (ty := tyJx4a65c 1) (by decide +kernel) rfl rfl (Nat.le_of_ble_eq_true rfl) rfl dJx4a65c_grow_92f84_56 (fun H locs hw => ?_)
  obtain ⟨W1, hFW1⟩ : ∃ z, z = va_up (va_up F q (some ((999, 0, 0), fw_oa G 10 (fun _ => none)))) b (some (t, fw_obj 0 [.int mc, .ref q, .int (nI 0)])) := ⟨_, rfl⟩
  rw [← hFW1] at hw
  have k1_s : W1 b = some (t, fw_obj 0 [.int mc, .ref q, .int (nI 0)]) := by rw [hFW1]; exact fw_up_self
  exact fw_aretA (v := some q) hx hb hr hlk (Nat.le_of_ble_eq_true rfl) (Nat.le_of_ble_eq_true rfl) hw dJx4a65c_grow_92f84_59 rfl (⟨q, rfl, ⟨hq0, hqe, hqn⟩, hFW1⟩)
set_option maxHeartbeats 4000000 in
set_option maxRecDepth 100000 in
theorem c_Jx4a65c_grow_92f84 (l : Launch) (G : fw_G) (F : fw_F) (sz : Nat) (b arr cap cnt : Nat) (t : fw_T) (mc : Int32) (row : Nat → Option Nat) (ht : t.1 < 900) (hF : F b = some (t, fw_obj 0 [.int mc, .ref arr, .int (nI cnt)])) (hAr : F arr = some ((999, 0, 0), fw_oa G cap row)) (hne : arr ≠ fw_ea G) (hc : cap ≤ 160) (hel : ∀ i y, i < cap → row i = some y → ∃ t1 ci fs, F y = some (t1, fw_obj ci fs)) : Met l yJx4a65c_grow_92f84 (fw_ws yJx4a65c_grow_92f84 cJx4a65c_grow_92f84 4 (some ((.array (.object "java/lang/Object"))))) { frames := 3, cells := 1, slots := 240, locals := 84 } (va_Pc [.ref b, .int (nI ((cap + 1)))] (fw_Pre G F sz)) (fw_Qo (fun r F1 => ∃ q, r = some q ∧ fw_fresh G F q ∧ F1 = va_up (va_up F q (some ((999, 0, 0), fw_oa G (cap + max 1 (cap / 2)) (va_cpy row (fun _ => none) 0 0 cap)))) b (some (t, fw_obj 0 [.int mc, .ref q, .int (nI cnt)]))) (fw_B G (fw_W G F sz)) (fw_W G F sz)) 1 240 (fw_W G F sz) := by
  refine fw_met (lv := [(0, .ref b), (1, .int (nI ((cap + 1))))]) (by decide +kernel) (Nat.le_of_ble_eq_true rfl) rfl ?_
  intro A hA p e s m below meth c ls hx hb hml hown hT hr hlk hin hz hsz hw hAn hl
  rw [← hA]
  have hown : s.vm.findClass RJx4a65c = some m.cls := hown
  have C : CallFix p m c cJx4a65c_grow_92f84 4 s _ fw_tb RJx4a65c := ⟨hx, hb, hml, hown, hT⟩
  have hn9 : t ≠ (999, 0, 0) := fun z => by rw [z] at ht; exact absurd ht (by decide)
  have hmx : max 1 (cap / 2) ≤ 80 := Nat.max_le.mpr ⟨by decide, by omega⟩
  have hm1 : 1 ≤ max 1 (cap / 2) := Nat.le_max_left _ _
  refine lv_aload_n hx hb dJx4a65c_grow_92f84_0 rfl (lv_at hl 0 rfl) ?_
  refine fw_get (v := .ref arr) hx hb hT fi_RJx4a65c hown hz hw hF rfl 1 (by decide) (hT _ wd_47) (fun _ h9 => h9) rfl dJx4a65c_grow_92f84_1 ?_
  refine fw_alen hx hb hz hw hAr dJx4a65c_grow_92f84_4 ?_
  refine lv_istore_n (lv' := [(2, .int (nI cap)), (0, .ref b), (1, .int (nI ((cap + 1))))]) hx hb dJx4a65c_grow_92f84_5 rfl hl (by decide) rfl (fun ls hl => ?_)
  have hJ : ∀ (H : Heap) (locs : List Loc) (ls : Array Slot), fw_S G A s F H locs → lv_has ls 4 [(2, .int (nI cap)), (0, .ref b), (1, .int (nI ((cap + 1))))] → W p l e { frames := 3, cells := 1, slots := 240, locals := 84 } s m ([.ref b, .int (nI ((cap + 1)))] : List Value).toArray below meth c H locs 0 0 (MQ below (fw_Qo (fun r F1 => ∃ q, r = some q ∧ fw_fresh G F q ∧ F1 = va_up (va_up F q (some ((999, 0, 0), fw_oa G (cap + max 1 (cap / 2)) (va_cpy row (fun _ => none) 0 0 cap)))) b (some (t, fw_obj 0 [.int mc, .ref q, .int (nI cnt)]))) (fw_B G A) A) ([.ref b, .int (nI ((cap + 1)))] : List Value).toArray s 1 240 A) (F0 m 20 ls []) := by
    intro H locs ls hw hl
    refine lv_iload_n hx hb dJx4a65c_grow_92f84_20 rfl (lv_at hl 0 rfl) ?_
    refine lv_iload_n hx hb dJx4a65c_grow_92f84_21 rfl (lv_at hl 2 rfl) ?_
    refine lv_iload_n hx hb dJx4a65c_grow_92f84_22 rfl (lv_at hl 0 rfl) ?_
    refine lv_isub hx hb dJx4a65c_grow_92f84_23 ?_
    refine fw_top (x' := (nI 1)) (by rw [pk_sub (by omega), Nat.add_sub_cancel_left]) ?_
    refine lv_iload_n hx hb dJx4a65c_grow_92f84_24 rfl (lv_at hl 0 rfl) ?_
    refine lv_iconst (v := (nI 1)) hx hb dJx4a65c_grow_92f84_25 (by decide) ?_
    refine lv_ishr hx hb dJx4a65c_grow_92f84_26 ?_
    refine fw_top (x' := (nI (cap / 2))) (by have h := pk_shrN (n := cap) (by omega) ((1 : Int32) &&& 31) 1 (by decide); rwa [Nat.pow_one] at h) ?_
    refine fw_calli (fw_runS (As := [.int (nI cap), .int (nI 1), .int (nI (cap / 2))]) (rest := []) C hz hw (c_J8_newLength_cabcc l G _ _ cap 1 (cap / 2) (by omega) (by omega) (by omega) (by omega)) (fw_cwS hT wd_131 ySJ8_newLength_cabcc rfl rfl ⟨Nat.le_of_ble_eq_true rfl, Nat.le_of_ble_eq_true rfl⟩) rfl hl.1 rfl (Nat.le_of_ble_eq_true rfl) dJx4a65c_grow_92f84_27 ⟨Nat.le_of_ble_eq_true rfl, Nat.le_of_ble_eq_true rfl⟩) hw (fun r F1 H locs hw hp => ?_)
    obtain ⟨hp0, hp⟩ := hp
    rw [hp0] at hw
    refine W.widen (k := 0) (n := 0) (Nat.le_of_ble_eq_true rfl) (Nat.le_of_ble_eq_true rfl) ?_
    subst hp
    refine lv_istore_n (lv' := [(3, .int (nI (cap + max 1 (cap / 2)))), (2, .int (nI cap)), (0, .ref b), (1, .int (nI ((cap + 1))))]) hx hb dJx4a65c_grow_92f84_30 rfl hl (by decide) rfl (fun ls hl => ?_)
    refine lv_aload_n hx hb dJx4a65c_grow_92f84_31 rfl (lv_at hl 2 rfl) ?_
    refine lv_aload_n hx hb dJx4a65c_grow_92f84_32 rfl (lv_at hl 2 rfl) ?_
    refine fw_get (v := .ref arr) hx hb hT fi_RJx4a65c hown hz hw hF rfl 1 (by decide) (hT _ wd_47) (fun _ h9 => h9) rfl dJx4a65c_grow_92f84_33 ?_
    refine lv_iload_n hx hb dJx4a65c_grow_92f84_36 rfl (lv_at hl 0 rfl) ?_
    refine fw_callo (fw_runS (As := [.ref arr, .int (nI (cap + max 1 (cap / 2)))]) (rest := [.ref b]) C hz hw (c_J7_copyOf_1904c l G _ _ arr (cap + max 1 (cap / 2)) cap (999, 0, 0) row hAr (by omega) (by omega) hel) (fw_cwS hT wd_141 ySJ7_copyOf_1904c rfl rfl ⟨Nat.le_of_ble_eq_true rfl, Nat.le_of_ble_eq_true rfl⟩) rfl hl.1 rfl (Nat.le_of_ble_eq_true rfl) dJx4a65c_grow_92f84_37 ⟨Nat.le_of_ble_eq_true rfl, Nat.le_of_ble_eq_true rfl⟩) hw (fun r F1 H locs hw hp => ?_)
    refine W.widen (k := 1) (n := 240) (Nat.le_of_ble_eq_true rfl) (Nat.le_of_ble_eq_true rfl) ?_
    obtain ⟨q, rfl, hq9, rfl⟩ := hp
    have hf0 := fw_up_new (x := ((999, 0, 0), fw_oa G (cap + max 1 (cap / 2)) (va_cpy row (fun _ => none) 0 0 cap))) hF hq9.1
    refine lv_dup_x1 hx hb dJx4a65c_grow_92f84_40 rfl rfl ?_
    refine fw_put (v := .ref q) (fs' := [.int mc, .ref q, .int (nI cnt)]) hx hb hT fi_RJx4a65c tyJx4a65c tyJx4a65c_ok nmJx4a65c hown hz hw hf0 rfl 1 (by decide) (hT _ wd_47) (fun _ h9 => h9) rfl (ty := tyJx4a65c 1) (by decide +kernel) rfl rfl (Nat.le_of_ble_eq_true rfl) rfl dJx4a65c_grow_92f84_41 (fun H locs hw => ?_)
    obtain ⟨W1, hFW1⟩ : ∃ z, z = va_up (va_up F q (some ((999, 0, 0), fw_oa G (cap + max 1 (cap / 2)) (va_cpy row (fun _ => none) 0 0 cap)))) b (some (t, fw_obj 0 [.int mc, .ref q, .int (nI cnt)])) := ⟨_, rfl⟩
    rw [← hFW1] at hw
    have k1_s : W1 b = some (t, fw_obj 0 [.int mc, .ref q, .int (nI cnt)]) := by rw [hFW1]; exact fw_up_self
    exact fw_aretA (v := some q) hx hb hr hlk (Nat.le_of_ble_eq_true rfl) (Nat.le_of_ble_eq_true rfl) hw dJx4a65c_grow_92f84_44 rfl (⟨q, rfl, hq9, hFW1⟩)
  refine lv_iload_n hx hb dJx4a65c_grow_92f84_6 rfl (lv_at hl 0 rfl) ?_
  refine lv_if_gt (tgt := 20) hx hb dJx4a65c_grow_92f84_7 (by decide) (fun d => ?_) (fun d => ?_)
  · have d := (nI_ltI (a := 0) (b := cap) (by omega) (by omega)).mp d
    exact hJ _ _ _ hw (lv_sub hl [0, 1, 2] rfl)
  · have d : ¬ 0 < cap := fun h9 => d ((nI_ltI (a := 0) (b := cap) (by omega) (by omega)).mpr h9)
    refine lv_aload_n hx hb dJx4a65c_grow_92f84_10 rfl (lv_at hl 1 rfl) ?_
    refine fw_get (v := .ref arr) hx hb hT fi_RJx4a65c hown hz hw hF rfl 1 (by decide) (hT _ wd_47) (fun _ h9 => h9) rfl dJx4a65c_grow_92f84_11 ?_
    refine va_gets hx hb hz.2.1 hw.2.1 hown (hT _ wd_45) (fun _ h9 => h9) dJx4a65c_grow_92f84_14 ?_
    refine lv_acmp_eq (rx := some arr) (ry := some (fw_ea G)) (tgt := 45) hx hb dJx4a65c_grow_92f84_17 (by decide) (fun cx => absurd (Option.some.inj cx) hne) (fun cx => ?_)
    exact hJ _ _ _ hw (lv_sub hl [0, 1, 2] rfl)
set_option maxHeartbeats 4000000 in
set_option maxRecDepth 100000 in
theorem c_Jx4a65c_grow_d5877_E (l : Launch) (G : fw_G) (F : fw_F) (sz : Nat) (b : Nat) (t : fw_T) (mc : Int32) (ht : t.1 < 900) (hF : F b = some (t, fw_obj 0 [.int mc, .ref (fw_ea G), .int (nI 0)])) : Met l yJx4a65c_grow_d5877 (fw_ws yJx4a65c_grow_d5877 cJx4a65c_grow_d5877 1 (some ((.array (.object "java/lang/Object"))))) { frames := 4, cells := 1, slots := 240, locals := 107 } (va_Pc [.ref b] (fw_Pre G F sz)) (fw_Qo (fun r F1 => ∃ q, r = some q ∧ fw_fresh G F q ∧ F1 = va_up (va_up F q (some ((999, 0, 0), fw_oa G 10 (fun _ => none)))) b (some (t, fw_obj 0 [.int mc, .ref q, .int (nI 0)]))) (fw_B G (fw_W G F sz)) (fw_W G F sz)) 1 240 (fw_W G F sz) := by
  refine fw_met (lv := [(0, .ref b)]) (by decide +kernel) (Nat.le_of_ble_eq_true rfl) rfl ?_
  intro A hA p e s m below meth c ls hx hb hml hown hT hr hlk hin hz hsz hw hAn hl
  rw [← hA]
  have hown : s.vm.findClass RJx4a65c = some m.cls := hown
  have C : CallFix p m c cJx4a65c_grow_d5877 1 s _ fw_tb RJx4a65c := ⟨hx, hb, hml, hown, hT⟩
  refine lv_aload_n hx hb dJx4a65c_grow_d5877_0 rfl (lv_at hl 0 rfl) ?_
  refine lv_aload_n hx hb dJx4a65c_grow_d5877_1 rfl (lv_at hl 0 rfl) ?_
  refine fw_get (v := .int (nI 0)) hx hb hT fi_RJx4a65c hown hz hw hF rfl 2 (by decide) (hT _ wd_48) (fun _ h9 => h9) rfl dJx4a65c_grow_d5877_2 ?_
  refine lv_iconst (v := (nI 1)) hx hb dJx4a65c_grow_d5877_5 (by decide) ?_
  refine lv_iadd hx hb dJx4a65c_grow_d5877_6 ?_
  refine fw_top (nI_add _ _) ?_
  refine fw_callo (fw_runV (As := [.int (nI (0 + 1))]) (rest := []) C hz hw (c_Jx4a65c_grow_92f84_E l G _ _ b t mc 1 ht hF (by decide)) (fw_cwV hT wd_127 yVJx4a65c_grow_92f84 rfl rfl ⟨Nat.le_of_ble_eq_true rfl, Nat.le_of_ble_eq_true rfl⟩) (fw_rec hz hw hF (q := vwCl[0]) rfl) rfl hl.1 rfl (Nat.le_of_ble_eq_true rfl) dJx4a65c_grow_d5877_7 ⟨Nat.le_of_ble_eq_true rfl, Nat.le_of_ble_eq_true rfl⟩) hw (fun r F1 H locs hw hp => ?_)
  refine W.widen (k := 1) (n := 240) (Nat.le_of_ble_eq_true rfl) (Nat.le_of_ble_eq_true rfl) ?_
  obtain ⟨q, rfl, hp⟩ := hp
  exact fw_aretA (v := some q) hx hb hr hlk (Nat.le_of_ble_eq_true rfl) (Nat.le_of_ble_eq_true rfl) hw dJx4a65c_grow_d5877_10 rfl (⟨q, rfl, hp⟩)
set_option maxHeartbeats 4000000 in
set_option maxRecDepth 100000 in
theorem c_Jx4a65c_grow_d5877 (l : Launch) (G : fw_G) (F : fw_F) (sz : Nat) (b arr cap cnt : Nat) (t : fw_T) (mc : Int32) (row : Nat → Option Nat) (ht : t.1 < 900) (hF : F b = some (t, fw_obj 0 [.int mc, .ref arr, .int (nI cap)])) (hAr : F arr = some ((999, 0, 0), fw_oa G cap row)) (hne : arr ≠ fw_ea G) (hc : cap ≤ 160) (hel : ∀ i y, i < cap → row i = some y → ∃ t1 ci fs, F y = some (t1, fw_obj ci fs)) : Met l yJx4a65c_grow_d5877 (fw_ws yJx4a65c_grow_d5877 cJx4a65c_grow_d5877 1 (some ((.array (.object "java/lang/Object"))))) { frames := 4, cells := 1, slots := 240, locals := 107 } (va_Pc [.ref b] (fw_Pre G F sz)) (fw_Qo (fun r F1 => ∃ q, r = some q ∧ fw_fresh G F q ∧ F1 = va_up (va_up F q (some ((999, 0, 0), fw_oa G (cap + max 1 (cap / 2)) (va_cpy row (fun _ => none) 0 0 cap)))) b (some (t, fw_obj 0 [.int mc, .ref q, .int (nI cap)]))) (fw_B G (fw_W G F sz)) (fw_W G F sz)) 1 240 (fw_W G F sz) := by
  refine fw_met (lv := [(0, .ref b)]) (by decide +kernel) (Nat.le_of_ble_eq_true rfl) rfl ?_
  intro A hA p e s m below meth c ls hx hb hml hown hT hr hlk hin hz hsz hw hAn hl
  rw [← hA]
  have hown : s.vm.findClass RJx4a65c = some m.cls := hown
  have C : CallFix p m c cJx4a65c_grow_d5877 1 s _ fw_tb RJx4a65c := ⟨hx, hb, hml, hown, hT⟩
  refine lv_aload_n hx hb dJx4a65c_grow_d5877_0 rfl (lv_at hl 0 rfl) ?_
  refine lv_aload_n hx hb dJx4a65c_grow_d5877_1 rfl (lv_at hl 0 rfl) ?_
  refine fw_get (v := .int (nI cap)) hx hb hT fi_RJx4a65c hown hz hw hF rfl 2 (by decide) (hT _ wd_48) (fun _ h9 => h9) rfl dJx4a65c_grow_d5877_2 ?_
  refine lv_iconst (v := (nI 1)) hx hb dJx4a65c_grow_d5877_5 (by decide) ?_
  refine lv_iadd hx hb dJx4a65c_grow_d5877_6 ?_
  refine fw_top (nI_add _ _) ?_
  refine fw_callo (fw_runV (As := [.int (nI (cap + 1))]) (rest := []) C hz hw (c_Jx4a65c_grow_92f84 l G _ _ b arr cap cap t mc row ht hF hAr hne hc hel) (fw_cwV hT wd_127 yVJx4a65c_grow_92f84 rfl rfl ⟨Nat.le_of_ble_eq_true rfl, Nat.le_of_ble_eq_true rfl⟩) (fw_rec hz hw hF (q := vwCl[0]) rfl) rfl hl.1 rfl (Nat.le_of_ble_eq_true rfl) dJx4a65c_grow_d5877_7 ⟨Nat.le_of_ble_eq_true rfl, Nat.le_of_ble_eq_true rfl⟩) hw (fun r F1 H locs hw hp => ?_)
  refine W.widen (k := 1) (n := 240) (Nat.le_of_ble_eq_true rfl) (Nat.le_of_ble_eq_true rfl) ?_
  obtain ⟨q, rfl, hp⟩ := hp
  exact fw_aretA (v := some q) hx hb hr hlk (Nat.le_of_ble_eq_true rfl) (Nat.le_of_ble_eq_true rfl) hw dJx4a65c_grow_d5877_10 rfl (⟨q, rfl, hp⟩)
