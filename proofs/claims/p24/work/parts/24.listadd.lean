/-! ArrayList: adding, removing. -/
/-- the world of a list's change, closed again -/
theorem fw_reclose {G : fw_G} {A : Nat → Prop} {s : State} {F Fo F1 : fw_F} {H H0 : Heap} {locs : List Loc} {b arr cnt q n' cap' : Nat} {f f' : Nat → Nat} {t : fw_T} {mc : Int32} {row' : Nat → Option Nat} (hF : F b = some (t, fw_ls arr cnt f)) (hP : fw_P G F H0)
    (ho : ∀ a, a ≠ b → a ≠ arr → Fo a = F a) (hoa : arr ≠ fw_ea G → ∃ cap row, Fo arr = some ((999, 0, 0), fw_oa G cap row)) (hoe : arr = fw_ea G → Fo arr = F arr) (hob : ∃ ci fs, Fo b = some (t, fw_obj ci fs)) (hqe : q ≠ fw_ea G) (hq : q = arr ∨ fw_fresh G Fo q)
    (h1 : F1 q = some ((999, 0, 0), fw_oa G cap' row')) (h2 : F1 b = some (t, fw_obj 0 [.int mc, .ref q, .int (nI n')])) (h3 : ∀ a, a ≠ q → a ≠ b → F1 a = Fo a) (hc1 : n' ≤ cap') (hc2 : cap' ≤ 160) (hr1 : ∀ i, i < n' → row' i = some (f' i)) (hr2 : ∀ i, n' ≤ i → row' i = none)
    (hel : ∀ i, i < n' → ∃ t1 ci fs, F (f' i) = some (t1, fw_obj ci fs)) (hw : fw_S G A s F1 H locs) : fw_S G A s (va_up F b (some (t, fw_ls q n' f'))) H locs := by
  have hbq : b ≠ q := fun z => by rw [z, h1] at h2; cases h2
  have hFarr : arr ≠ fw_ea G → F arr = none ∧ b ≠ arr := fun h => ⟨(hP.2.1 b t arr cnt f hF h).1, fun z => by have h9 := (hP.2.1 b t arr cnt f hF h).1; rw [← z, hF] at h9; cases h9⟩
  -- the old array goes
  obtain ⟨F2, hF2, hw2⟩ : ∃ F2 : fw_F, (∀ a, F2 a = if a = arr ∧ arr ≠ q ∧ arr ≠ fw_ea G then none else F1 a) ∧ fw_S G A s F2 H locs := by
    by_cases e : arr ≠ q ∧ arr ≠ fw_ea G
    · obtain ⟨cap, row, g⟩ := hoa e.2
      have g1 : F1 arr = some ((999, 0, 0), fw_oa G cap row) := by rw [h3 arr e.1 (Ne.symm (hFarr e.2).2)]; exact g
      refine ⟨_, fun a => ?_, fw_drop hw g1⟩
      by_cases z : a = arr
      · subst z; rw [va_up_self, if_pos ⟨rfl, e⟩]
      · rw [va_up_ne _ _ z, if_neg (fun h => z h.1)]
    · exact ⟨F1, fun a => by rw [if_neg (fun h => e h.2)], hw⟩
  have k1 : F2 q = some ((999, 0, 0), fw_oa G cap' row') := by rw [hF2, if_neg (fun h => h.2.1 h.1.symm)]; exact h1
  have k2 : F2 b = some (t, fw_obj 0 [.int mc, .ref q, .int (nI n')]) := by rw [hF2, if_neg (fun h => (hFarr h.2.2).2 h.1)]; exact h2
  have k3 : ∀ a, a ≠ q → a ≠ b → F2 a = F a := by
    intro a e1 e2
    rw [hF2]
    by_cases z : a = arr
    · by_cases z2 : arr = fw_ea G
      · rw [if_neg (fun h => h.2.2 z2), h3 a e1 e2, z]
        exact hoe z2
      · rw [if_pos ⟨z, fun z3 => e1 (z.trans z3), z2⟩, z]
        exact (hFarr z2).1.symm
    · rw [if_neg (fun h => z h.1), h3 a e1 e2]
      exact ho a e2 z
  have kq : F q = none := by
    rcases hq with hq | hq
    · rw [hq]; exact (hFarr (by rw [← hq]; exact hqe)).1
    · by_cases z : q = arr
      · rw [z]; exact (hFarr (by rw [← z]; exact hqe)).1
      · rw [← ho q (Ne.symm hbq) z]; exact hq.1
  have lsF : ∀ {a t' arr' n9 f9}, F2 a = some (t', fw_ls arr' n9 f9) → a ≠ b ∧ F a = some (t', fw_ls arr' n9 f9) := by
    intro a t' arr' n9 f9 h
    have e1 : a ≠ q := fun z => by rw [z, k1] at h; cases h
    have e2 : a ≠ b := fun z => by rw [z, k2] at h; cases h
    exact ⟨e2, by rw [← k3 a e1 e2]; exact h⟩
  have key := fw_close (t := t) (f := f') hw2 k2 k1 hqe hc1 hc2 hr1 hr2 (fun i hi => ?_) (fun a t' n9 f9 h => ?_) (fun a t' arr' n9 f9 h i hi z => ?_)
  · have e9 : fw_cl F2 b q t n' f' = va_up F b (some (t, fw_ls q n' f')) := by
      funext a
      unfold fw_cl
      by_cases e2 : a = b
      · rw [e2, va_up_self, va_up_self]
      · rw [va_up_ne _ _ e2, va_up_ne _ _ e2]
        by_cases e1 : a = q
        · rw [e1, va_up_self, kq]
        · rw [va_up_ne _ _ e1]; exact k3 a e1 e2
    rw [e9] at key
    exact key
  · obtain ⟨t1, ci, fs, g⟩ := hel i hi
    have e1 : f' i ≠ q := fun z => by rw [z, kq] at g; cases g
    have e2 : f' i ≠ b := fun z => by rw [z, hF] at g; cases g
    exact ⟨e2, t1, ci, fs, by rw [k3 _ e1 e2]; exact g⟩
  · obtain ⟨e2, g⟩ := lsF h
    rcases hq with hq | hq
    · exact e2 ((hP.2.1 b t arr cnt f hF (by rw [← hq]; exact hqe)).2 a t' n9 f9 (by rw [← hq]; exact g))
    · by_cases z : a = arr
      · by_cases z2 : arr = fw_ea G
        · exact hq.2.2 a t' n9 f9 (by rw [z, hoe z2, ← z]; exact g)
        · rw [z, (hFarr z2).1] at g; cases g
      · exact hq.2.2 a t' n9 f9 (by rw [ho a e2 z]; exact g)
  · obtain ⟨e2, g⟩ := lsF h
    obtain ⟨t1, ci, fs, g1⟩ := hP.2.2 a t' arr' n9 f9 g i hi
    rw [z, hF] at g1
    cases g1
/-- what adding leaves -/
def fw_added (G : fw_G) (Fo : fw_F) (b arr v cnt : Nat) (t : fw_T) (row : Nat → Option Nat) (F1 : fw_F) : Prop := ∃ (q cap' : Nat) (row' : Nat → Option Nat) (mc : Int32), q ≠ fw_ea G ∧ (q = arr ∨ fw_fresh G Fo q) ∧ F1 q = some ((999, 0, 0), fw_oa G cap' row') ∧ F1 b = some (t, fw_obj 0 [.int mc, .ref q, .int (nI (cnt + 1))]) ∧ (∀ a, a ≠ q → a ≠ b → F1 a = Fo a) ∧ cnt + 1 ≤ cap' ∧ cap' ≤ 160 ∧ (∀ i, i < cnt → row' i = row i) ∧ row' cnt = some v ∧ ∀ i, cnt + 1 ≤ i → row' i = none
set_option maxHeartbeats 4000000 in
set_option maxRecDepth 100000 in
theorem c_Jx4a65c_add_72be8 (l : Launch) (G : fw_G) (F : fw_F) (sz : Nat) (b arr cap cnt : Nat) (t : fw_T) (mc : Int32) (row : Nat → Option Nat) (v civ : Nat) (tv : fw_T) (fsv : List Value) (ht : t.1 < 900) (hF : F b = some (t, fw_obj 0 [.int mc, .ref arr, .int (nI cnt)])) (hAr : F arr = some ((999, 0, 0), fw_oa G cap row)) (hne : arr ≠ fw_ea G) (hc : cap ≤ 160) (hcn : cnt ≤ 100) (hle : cnt ≤ cap) (hno : ∀ i, cnt ≤ i → row i = none) (hel : ∀ i y, i < cap → row i = some y → ∃ t1 ci fs, F y = some (t1, fw_obj ci fs)) (hv : F v = some (tv, fw_obj civ fsv)) : Met l yJx4a65c_add_72be8 (fw_ws yJx4a65c_add_72be8 cJx4a65c_add_72be8 4 none) { frames := 5, cells := 1, slots := 240, locals := 127 } (va_Pc [.ref b, .ref v, .ref arr, .int (nI cnt)] (fw_Pre G F sz)) (va_Qv (fun F1 => fw_added G F b arr v cnt t row F1) (fw_B G (fw_W G F sz)) (fw_W G F sz)) 1 240 (fw_W G F sz) := by
  refine fw_met (lv := [(0, .ref b), (1, .ref v), (2, .ref arr), (3, .int (nI cnt))]) (by decide +kernel) (Nat.le_of_ble_eq_true rfl) rfl ?_
  intro A hA p e s m below meth c ls hx hb hml hown hT hr hlk hin hz hsz hw hAn hl
  rw [← hA]
  have hown : s.vm.findClass RJx4a65c = some m.cls := hown
  have C : CallFix p m c cJx4a65c_add_72be8 4 s _ fw_tb RJx4a65c := ⟨hx, hb, hml, hown, hT⟩
  have hn9 : t ≠ (999, 0, 0) := fun z => by rw [z] at ht; exact absurd ht (by decide)
  have hba : b ≠ arr := fun z => by rw [z, hAr] at hF; cases hF
  refine lv_iload_n hx hb dJx4a65c_add_72be8_0 rfl (lv_at hl 3 rfl) ?_
  refine lv_aload_n hx hb dJx4a65c_add_72be8_1 rfl (lv_at hl 2 rfl) ?_
  refine fw_alen hx hb hz hw hAr dJx4a65c_add_72be8_2 ?_
  refine lv_icmp_ne (tgt := 11) hx hb dJx4a65c_add_72be8_3 (by decide) (fun d => ?_) (fun d => ?_)
  · have d : ¬ cnt = cap := fun h9 => d ((nI_eq (a := cnt) (b := cap) (by omega) (by omega)).mpr h9)
    have hlt : cnt < cap := by omega
    refine lv_aload_n hx hb dJx4a65c_add_72be8_11 rfl (lv_at hl 2 rfl) ?_
    refine lv_iload_n hx hb dJx4a65c_add_72be8_12 rfl (lv_at hl 3 rfl) ?_
    refine lv_aload_n hx hb dJx4a65c_add_72be8_13 rfl (lv_at hl 1 rfl) ?_
    refine fw_aast hx hb hz hw hAr hv (cnt) rfl hlt (by omega) dJx4a65c_add_72be8_14 (fun H locs hw => ?_)
    obtain ⟨W1, hFW1⟩ : ∃ z, z = va_up F arr (some ((999, 0, 0), fw_oa G cap (va_up row cnt (some v)))) := ⟨_, rfl⟩
    rw [← hFW1] at hw
    have k1_0 : W1 b = some (t, fw_obj 0 [.int mc, .ref arr, .int (nI cnt)]) := by rw [hFW1]; exact fw_up_tag hF hAr hn9
    have k1_s : W1 arr = some ((999, 0, 0), fw_oa G cap (va_up row cnt (some v))) := by rw [hFW1]; exact fw_up_self
    refine lv_aload_n hx hb dJx4a65c_add_72be8_15 rfl (lv_at hl 0 rfl) ?_
    refine lv_iload_n hx hb dJx4a65c_add_72be8_16 rfl (lv_at hl 3 rfl) ?_
    refine lv_iconst (v := (nI 1)) hx hb dJx4a65c_add_72be8_17 (by decide) ?_
    refine lv_iadd hx hb dJx4a65c_add_72be8_18 ?_
    refine fw_top (nI_add _ _) ?_
    refine fw_put (v := .int (nI (cnt + 1))) (fs' := [.int mc, .ref arr, .int (nI (cnt + 1))]) hx hb hT fi_RJx4a65c tyJx4a65c tyJx4a65c_ok nmJx4a65c hown hz hw k1_0 rfl 2 (by decide) (hT _ wd_48) (fun _ h9 => h9) rfl (ty := tyJx4a65c 2) (by decide +kernel) rfl rfl (Nat.le_of_ble_eq_true rfl) rfl dJx4a65c_add_72be8_19 (fun H locs hw => ?_)
    obtain ⟨W2, hFW2⟩ : ∃ z, z = va_up W1 b (some (t, fw_obj 0 [.int mc, .ref arr, .int (nI (cnt + 1))])) := ⟨_, rfl⟩
    rw [← hFW2] at hw
    have k2_0 : W2 arr = some ((999, 0, 0), fw_oa G cap (va_up row cnt (some v))) := by rw [hFW2]; exact fw_up_tag k1_s k1_0 (Ne.symm hn9)
    have k2_s : W2 b = some (t, fw_obj 0 [.int mc, .ref arr, .int (nI (cnt + 1))]) := by rw [hFW2]; exact fw_up_self
    exact fw_vret hx hb hr hlk (Nat.le_of_ble_eq_true rfl) (Nat.le_of_ble_eq_true rfl) hw dJx4a65c_add_72be8_22 (⟨arr, cap, va_up row cnt (some v), mc, hne, Or.inl rfl, by rw [hFW2]; exact fw_up_tag k1_s (k1_0) (Ne.symm hn9), by rw [hFW2]; exact fw_up_self, fun a e1 e2 => by rw [hFW2, va_up_ne _ _ e2, hFW1, va_up_ne _ _ e1], by omega, hc, fun i hi => va_up_ne _ _ (by omega), va_up_self _ _ _, fun i hi => by rw [va_up_ne _ _ (by omega)]; exact hno i (by omega)⟩)
  · have d := (nI_eq (a := cnt) (b := cap) (by omega) (by omega)).mp d
    subst d
    have hmx : max 1 (cnt / 2) ≤ 50 := Nat.max_le.mpr ⟨by decide, by omega⟩
    have hm1 : 1 ≤ max 1 (cnt / 2) := Nat.le_max_left _ _
    refine lv_aload_n hx hb dJx4a65c_add_72be8_6 rfl (lv_at hl 0 rfl) ?_
    refine fw_callo (fw_runV (As := []) (rest := []) C hz hw (c_Jx4a65c_grow_d5877 l G _ _ b arr cnt cnt t mc row ht hF hAr hne hc hel) (fw_cwV hT wd_123 yVJx4a65c_grow_d5877 rfl rfl ⟨Nat.le_of_ble_eq_true rfl, Nat.le_of_ble_eq_true rfl⟩) (fw_rec hz hw hF (q := vwCl[0]) rfl) rfl hl.1 rfl (Nat.le_of_ble_eq_true rfl) dJx4a65c_add_72be8_7 ⟨Nat.le_of_ble_eq_true rfl, Nat.le_of_ble_eq_true rfl⟩) hw (fun r F1 H locs hw hp => ?_)
    refine W.widen (k := 1) (n := 240) (Nat.le_of_ble_eq_true rfl) (Nat.le_of_ble_eq_true rfl) ?_
    obtain ⟨q, rfl, hq9, hF9⟩ := hp
    have hbq : b ≠ q := fun z => by have := hq9.1; rw [← z, hF] at this; cases this
    have hvq : v ≠ q := fun z => by have := hq9.1; rw [← z, hv] at this; cases this
    have hq1 : F1 q = some ((999, 0, 0), fw_oa G (cnt + max 1 (cnt / 2)) (va_cpy row (fun _ => none) 0 0 cnt)) := by rw [hF9, va_up_ne _ _ (Ne.symm hbq)]; exact fw_up_self
    have hb1 : F1 b = some (t, fw_obj 0 [.int mc, .ref q, .int (nI cnt)]) := by rw [hF9]; exact fw_up_self
    have hv1 : ∃ tv1 civ1 fsv1, F1 v = some (tv1, fw_obj civ1 fsv1) := by
      rw [hF9]
      by_cases z : v = b
      · rw [z, va_up_self]; exact ⟨_, _, _, rfl⟩
      · rw [va_up_ne _ _ z, va_up_ne _ _ hvq]; exact ⟨_, _, _, hv⟩
    obtain ⟨tv1, civ1, fsv1, hv1⟩ := hv1
    refine lv_astore_n (lv' := [(2, .ref q), (0, .ref b), (1, .ref v), (3, .int (nI cnt))]) hx hb dJx4a65c_add_72be8_10 rfl hl (by decide) rfl (fun ls hl => ?_)
    refine lv_aload_n hx hb dJx4a65c_add_72be8_11 rfl (lv_at hl 0 rfl) ?_
    refine lv_iload_n hx hb dJx4a65c_add_72be8_12 rfl (lv_at hl 3 rfl) ?_
    refine lv_aload_n hx hb dJx4a65c_add_72be8_13 rfl (lv_at hl 2 rfl) ?_
    refine fw_aast hx hb hz hw hq1 hv1 (cnt) rfl (by omega) (by omega) dJx4a65c_add_72be8_14 (fun H locs hw => ?_)
    obtain ⟨W1, hFW1⟩ : ∃ z, z = va_up F1 q (some ((999, 0, 0), fw_oa G (cnt + max 1 (cnt / 2)) (va_up (va_cpy row (fun _ => none) 0 0 cnt) cnt (some v)))) := ⟨_, rfl⟩
    rw [← hFW1] at hw
    have k1_0 : W1 b = some (t, fw_obj 0 [.int mc, .ref q, .int (nI cnt)]) := by rw [hFW1]; exact fw_up_tag hb1 hq1 hn9
    have k1_s : W1 q = some ((999, 0, 0), fw_oa G (cnt + max 1 (cnt / 2)) (va_up (va_cpy row (fun _ => none) 0 0 cnt) cnt (some v))) := by rw [hFW1]; exact fw_up_self
    refine lv_aload_n hx hb dJx4a65c_add_72be8_15 rfl (lv_at hl 1 rfl) ?_
    refine lv_iload_n hx hb dJx4a65c_add_72be8_16 rfl (lv_at hl 3 rfl) ?_
    refine lv_iconst (v := (nI 1)) hx hb dJx4a65c_add_72be8_17 (by decide) ?_
    refine lv_iadd hx hb dJx4a65c_add_72be8_18 ?_
    refine fw_top (nI_add _ _) ?_
    refine fw_put (v := .int (nI (cnt + 1))) (fs' := [.int mc, .ref q, .int (nI (cnt + 1))]) hx hb hT fi_RJx4a65c tyJx4a65c tyJx4a65c_ok nmJx4a65c hown hz hw k1_0 rfl 2 (by decide) (hT _ wd_48) (fun _ h9 => h9) rfl (ty := tyJx4a65c 2) (by decide +kernel) rfl rfl (Nat.le_of_ble_eq_true rfl) rfl dJx4a65c_add_72be8_19 (fun H locs hw => ?_)
    obtain ⟨W2, hFW2⟩ : ∃ z, z = va_up W1 b (some (t, fw_obj 0 [.int mc, .ref q, .int (nI (cnt + 1))])) := ⟨_, rfl⟩
    rw [← hFW2] at hw
    have k2_0 : W2 q = some ((999, 0, 0), fw_oa G (cnt + max 1 (cnt / 2)) (va_up (va_cpy row (fun _ => none) 0 0 cnt) cnt (some v))) := by rw [hFW2]; exact fw_up_tag k1_s k1_0 (Ne.symm hn9)
    have k2_s : W2 b = some (t, fw_obj 0 [.int mc, .ref q, .int (nI (cnt + 1))]) := by rw [hFW2]; exact fw_up_self
    exact fw_vret hx hb hr hlk (Nat.le_of_ble_eq_true rfl) (Nat.le_of_ble_eq_true rfl) hw dJx4a65c_add_72be8_22 (⟨q, cnt + max 1 (cnt / 2), va_up (va_cpy row (fun _ => none) 0 0 cnt) cnt (some v), mc, hq9.2.1, Or.inr hq9, by rw [hFW2]; exact fw_up_tag k1_s k1_0 (Ne.symm hn9), by rw [hFW2]; exact fw_up_self, fun a e1 e2 => by rw [hFW2, va_up_ne _ _ e2, hFW1, va_up_ne _ _ e1, hF9, va_up_ne _ _ e2, va_up_ne _ _ e1], by omega, by omega, fun i hi => by rw [va_up_ne _ _ (by omega)]; exact (pk_cpy_in (Nat.zero_le _) (by omega)).trans (by rw [Nat.sub_zero, Nat.zero_add]), va_up_self _ _ _, fun i hi => by rw [va_up_ne _ _ (by omega)]; exact pk_cpy_out (Or.inr (by omega))⟩)
set_option maxHeartbeats 4000000 in
set_option maxRecDepth 100000 in
theorem c_Jx4a65c_add_72be8_E (l : Launch) (G : fw_G) (F : fw_F) (sz : Nat) (b arr : Nat) (t : fw_T) (mc : Int32) (row : Nat → Option Nat) (v civ : Nat) (tv : fw_T) (fsv : List Value) (ht : t.1 < 900) (hea : arr = fw_ea G) (hF : F b = some (t, fw_obj 0 [.int mc, .ref (fw_ea G), .int (nI 0)])) (hv : F v = some (tv, fw_obj civ fsv)) : Met l yJx4a65c_add_72be8 (fw_ws yJx4a65c_add_72be8 cJx4a65c_add_72be8 4 none) { frames := 5, cells := 1, slots := 240, locals := 127 } (va_Pc [.ref b, .ref v, .ref (fw_ea G), .int (nI 0)] (fw_Pre G F sz)) (va_Qv (fun F1 => fw_added G F b arr v 0 t row F1) (fw_B G (fw_W G F sz)) (fw_W G F sz)) 1 240 (fw_W G F sz) := by
  refine fw_met (lv := [(0, .ref b), (1, .ref v), (2, .ref (fw_ea G)), (3, .int (nI 0))]) (by decide +kernel) (Nat.le_of_ble_eq_true rfl) rfl ?_
  intro A hA p e s m below meth c ls hx hb hml hown hT hr hlk hin hz hsz hw hAn hl
  rw [← hA]
  have hown : s.vm.findClass RJx4a65c = some m.cls := hown
  have C : CallFix p m c cJx4a65c_add_72be8 4 s _ fw_tb RJx4a65c := ⟨hx, hb, hml, hown, hT⟩
  have hn9 : t ≠ (999, 0, 0) := fun z => by rw [z] at ht; exact absurd ht (by decide)
  refine lv_iload_n hx hb dJx4a65c_add_72be8_0 rfl (lv_at hl 3 rfl) ?_
  refine lv_aload_n hx hb dJx4a65c_add_72be8_1 rfl (lv_at hl 2 rfl) ?_
  refine fw_alenE hx hb hz hw dJx4a65c_add_72be8_2 ?_
  refine lv_icmp_ne (tgt := 11) hx hb dJx4a65c_add_72be8_3 (by decide) (fun cx => absurd cx (by decide)) (fun cx => ?_)
  refine lv_aload_n hx hb dJx4a65c_add_72be8_6 rfl (lv_at hl 0 rfl) ?_
  refine fw_callo (fw_runV (As := []) (rest := []) C hz hw (c_Jx4a65c_grow_d5877_E l G _ _ b t mc ht hF) (fw_cwV hT wd_123 yVJx4a65c_grow_d5877 rfl rfl ⟨Nat.le_of_ble_eq_true rfl, Nat.le_of_ble_eq_true rfl⟩) (fw_rec hz hw hF (q := vwCl[0]) rfl) rfl hl.1 rfl (Nat.le_of_ble_eq_true rfl) dJx4a65c_add_72be8_7 ⟨Nat.le_of_ble_eq_true rfl, Nat.le_of_ble_eq_true rfl⟩) hw (fun r F1 H locs hw hp => ?_)
  refine W.widen (k := 1) (n := 240) (Nat.le_of_ble_eq_true rfl) (Nat.le_of_ble_eq_true rfl) ?_
  obtain ⟨q, rfl, hq9, hF9⟩ := hp
  have hbq : b ≠ q := fun z => by have := hq9.1; rw [← z, hF] at this; cases this
  have hvq : v ≠ q := fun z => by have := hq9.1; rw [← z, hv] at this; cases this
  have hq1 : F1 q = some ((999, 0, 0), fw_oa G 10 (fun _ => none)) := by rw [hF9, va_up_ne _ _ (Ne.symm hbq)]; exact fw_up_self
  have hb1 : F1 b = some (t, fw_obj 0 [.int mc, .ref q, .int (nI 0)]) := by rw [hF9]; exact fw_up_self
  have hv1 : ∃ tv1 civ1 fsv1, F1 v = some (tv1, fw_obj civ1 fsv1) := by
    rw [hF9]
    by_cases z : v = b
    · rw [z, va_up_self]; exact ⟨_, _, _, rfl⟩
    · rw [va_up_ne _ _ z, va_up_ne _ _ hvq]; exact ⟨_, _, _, hv⟩
  obtain ⟨tv1, civ1, fsv1, hv1⟩ := hv1
  refine lv_astore_n (lv' := [(2, .ref q), (0, .ref b), (1, .ref v), (3, .int (nI 0))]) hx hb dJx4a65c_add_72be8_10 rfl hl (by decide) rfl (fun ls hl => ?_)
  refine lv_aload_n hx hb dJx4a65c_add_72be8_11 rfl (lv_at hl 0 rfl) ?_
  refine lv_iload_n hx hb dJx4a65c_add_72be8_12 rfl (lv_at hl 3 rfl) ?_
  refine lv_aload_n hx hb dJx4a65c_add_72be8_13 rfl (lv_at hl 2 rfl) ?_
  refine fw_aast hx hb hz hw hq1 hv1 (0) rfl (by omega) (by omega) dJx4a65c_add_72be8_14 (fun H locs hw => ?_)
  obtain ⟨W1, hFW1⟩ : ∃ z, z = va_up F1 q (some ((999, 0, 0), fw_oa G 10 (va_up (fun _ => none) 0 (some v)))) := ⟨_, rfl⟩
  rw [← hFW1] at hw
  have k1_0 : W1 b = some (t, fw_obj 0 [.int mc, .ref q, .int (nI 0)]) := by rw [hFW1]; exact fw_up_tag hb1 hq1 hn9
  have k1_s : W1 q = some ((999, 0, 0), fw_oa G 10 (va_up (fun _ => none) 0 (some v))) := by rw [hFW1]; exact fw_up_self
  refine lv_aload_n hx hb dJx4a65c_add_72be8_15 rfl (lv_at hl 1 rfl) ?_
  refine lv_iload_n hx hb dJx4a65c_add_72be8_16 rfl (lv_at hl 3 rfl) ?_
  refine lv_iconst (v := (nI 1)) hx hb dJx4a65c_add_72be8_17 (by decide) ?_
  refine lv_iadd hx hb dJx4a65c_add_72be8_18 ?_
  refine fw_top (nI_add _ _) ?_
  refine fw_put (v := .int (nI (0 + 1))) (fs' := [.int mc, .ref q, .int (nI (0 + 1))]) hx hb hT fi_RJx4a65c tyJx4a65c tyJx4a65c_ok nmJx4a65c hown hz hw k1_0 rfl 2 (by decide) (hT _ wd_48) (fun _ h9 => h9) rfl (ty := tyJx4a65c 2) (by decide +kernel) rfl rfl (Nat.le_of_ble_eq_true rfl) rfl dJx4a65c_add_72be8_19 (fun H locs hw => ?_)
  obtain ⟨W2, hFW2⟩ : ∃ z, z = va_up W1 b (some (t, fw_obj 0 [.int mc, .ref q, .int (nI (0 + 1))])) := ⟨_, rfl⟩
  rw [← hFW2] at hw
  have k2_0 : W2 q = some ((999, 0, 0), fw_oa G 10 (va_up (fun _ => none) 0 (some v))) := by rw [hFW2]; exact fw_up_tag k1_s k1_0 (Ne.symm hn9)
  have k2_s : W2 b = some (t, fw_obj 0 [.int mc, .ref q, .int (nI (0 + 1))]) := by rw [hFW2]; exact fw_up_self
  exact fw_vret hx hb hr hlk (Nat.le_of_ble_eq_true rfl) (Nat.le_of_ble_eq_true rfl) hw dJx4a65c_add_72be8_22 (⟨q, 10, va_up (fun _ => none) 0 (some v), mc, hq9.2.1, Or.inr hq9, by rw [hFW2]; exact fw_up_tag k1_s k1_0 (Ne.symm hn9), by rw [hFW2]; exact fw_up_self, fun a e1 e2 => by rw [hFW2, va_up_ne _ _ e2, hFW1, va_up_ne _ _ e1, hF9, va_up_ne _ _ e2, va_up_ne _ _ e1], by omega, by omega, fun i hi => absurd hi (Nat.not_lt_zero _), va_up_self _ _ _, fun i hi => va_up_ne _ _ (by omega)⟩)
set_option maxHeartbeats 4000000 in
set_option maxRecDepth 100000 in
theorem c_Jx4a65c_add_9ea2d (l : Launch) (G : fw_G) (F : fw_F) (sz : Nat) (b arr cnt : Nat) (t : fw_T) (f : Nat → Nat) (v civ : Nat) (tv : fw_T) (fsv : List Value) (ht : t.1 < 900) (hF : F b = some (t, fw_ls arr cnt f)) (hcn : cnt ≤ 100) (hv : F v = some (tv, fw_obj civ fsv)) : Met l yJx4a65c_add_9ea2d (fw_ws yJx4a65c_add_9ea2d cJx4a65c_add_9ea2d 2 (some (.boolean))) { frames := 6, cells := 1, slots := 240, locals := 150 } (va_Pc [.ref b, .ref v] (fw_Pre G F sz)) (va_Qi (fun r F1 => r = 1 ∧ ∃ q, F1 = va_up F b (some (t, fw_ls q (cnt + 1) (va_up f cnt v)))) (fw_B G (fw_W G F sz)) (fw_W G F sz)) 1 240 (fw_W G F sz) := by
  refine fw_met (lv := [(0, .ref b), (1, .ref v)]) (by decide +kernel) (Nat.le_of_ble_eq_true rfl) rfl ?_
  intro A hA p e s m below meth c ls hx hb hml hown hT hr hlk hin hz hsz hw hAn hl
  rw [← hA]
  have hown : s.vm.findClass RJx4a65c = some m.cls := hown
  have C : CallFix p m c cJx4a65c_add_9ea2d 2 s _ fw_tb RJx4a65c := ⟨hx, hb, hml, hown, hT⟩
  have hn9 : t ≠ (999, 0, 0) := fun z => by rw [z] at ht; exact absurd ht (by decide)
  have hP0 := hw.1
  have hvb : v ≠ b := fun z => by rw [z, hF] at hv; cases hv
  have heb : arr = fw_ea G → arr ≠ b := fun h z => by
    obtain ⟨cell, g1, g2, g3, g4, g5, g6, g7⟩ := hz.2.2.1
    exact g7 (by rw [← h, z]; exact hw.inA hF)
  obtain ⟨mc, cap, row, r1, r2, r3, r4, hop⟩ := fw_open hw hF (999, 0, 0)
  have hels : ∀ i, i < cnt + 1 → ∃ t1 ci fs, F (va_up f cnt v i) = some (t1, fw_obj ci fs) := fun i hi => by
    by_cases z : i = cnt
    · rw [z, va_up_self]; exact ⟨_, _, _, hv⟩
    · rw [va_up_ne _ _ z]; exact hP0.2.2 b t arr cnt f hF i (by omega)
  rcases hop with ⟨hea, hc0, hw⟩ | ⟨hne, hba, hF0, hw⟩
  · obtain rfl : cnt = 0 := by omega
    have hwE := hw
    obtain ⟨Fo, hFo⟩ : ∃ z, z = va_up F b (some (t, fw_obj 0 [.int mc, .ref arr, .int (nI 0)])) := ⟨_, rfl⟩
    rw [← hFo] at hw
    have ko : Fo b = some (t, fw_obj 0 [.int mc, .ref arr, .int (nI 0)]) := by rw [hFo]; exact fw_up_self
    have kv : Fo v = some (tv, fw_obj civ fsv) := by rw [hFo, va_up_ne _ _ hvb]; exact hv
    rw [hea] at ko
    refine lv_aload_n hx hb dJx4a65c_add_9ea2d_0 rfl (lv_at hl 0 rfl) ?_
    refine lv_dup hx hb dJx4a65c_add_9ea2d_1 rfl ?_
    refine fw_get (v := .int mc) hx hb hT fi_RJx4a65c hown hz hw ko rfl 0 (by decide) (hT _ wd_50) (fun x9 h9 => u_same (hT _ wd_51) x9 h9) rfl dJx4a65c_add_9ea2d_2 ?_
    refine lv_iconst (v := (nI 1)) hx hb dJx4a65c_add_9ea2d_5 (by decide) ?_
    refine lv_iadd hx hb dJx4a65c_add_9ea2d_6 ?_
    refine fw_put (v := .int (mc + (nI 1))) (fs' := [.int (mc + (nI 1)), .ref (fw_ea G), .int (nI 0)]) hx hb hT fi_RJx4a65c tyJx4a65c tyJx4a65c_ok nmJx4a65c hown hz hw ko rfl 0 (by decide) (hT _ wd_50) (fun x9 h9 => u_same (hT _ wd_51) x9 h9) rfl (ty := tyJx4a65c 0) (by decide +kernel) rfl rfl (Nat.le_of_ble_eq_true rfl) rfl dJx4a65c_add_9ea2d_7 (fun H locs hw => ?_)
    obtain ⟨W1, hFW1⟩ : ∃ z, z = va_up Fo b (some (t, fw_obj 0 [.int (mc + (nI 1)), .ref (fw_ea G), .int (nI 0)])) := ⟨_, rfl⟩
    rw [← hFW1] at hw
    have k1_s : W1 b = some (t, fw_obj 0 [.int (mc + (nI 1)), .ref (fw_ea G), .int (nI 0)]) := by rw [hFW1]; exact fw_up_self
    refine lv_aload_n hx hb dJx4a65c_add_9ea2d_10 rfl (lv_at hl 0 rfl) ?_
    refine lv_aload_n hx hb dJx4a65c_add_9ea2d_11 rfl (lv_at hl 1 rfl) ?_
    refine lv_aload_n hx hb dJx4a65c_add_9ea2d_12 rfl (lv_at hl 0 rfl) ?_
    refine fw_get (v := .ref (fw_ea G)) hx hb hT fi_RJx4a65c hown hz hw k1_s rfl 1 (by decide) (hT _ wd_47) (fun _ h9 => h9) rfl dJx4a65c_add_9ea2d_13 ?_
    refine lv_aload_n hx hb dJx4a65c_add_9ea2d_16 rfl (lv_at hl 0 rfl) ?_
    refine fw_get (v := .int (nI 0)) hx hb hT fi_RJx4a65c hown hz hw k1_s rfl 2 (by decide) (hT _ wd_48) (fun _ h9 => h9) rfl dJx4a65c_add_9ea2d_17 ?_
    have kv1 : W1 v = some (tv, fw_obj civ fsv) := by rw [hFW1, va_up_ne _ _ hvb]; exact kv
    have ho1 : ∀ a, a ≠ b → a ≠ arr → W1 a = F a := fun a e1 e2 => by rw [hFW1, va_up_ne _ _ e1, hFo, va_up_ne _ _ e1]
    refine fw_callv (fw_runV (As := [.ref v, .ref (fw_ea G), .int (nI 0)]) (rest := []) C hz hw (c_Jx4a65c_add_72be8_E l G _ _ b arr t (mc + nI 1) row v civ tv fsv ht hea k1_s kv1) (fw_cwV hT wd_119 yVJx4a65c_add_72be8 rfl rfl ⟨Nat.le_of_ble_eq_true rfl, Nat.le_of_ble_eq_true rfl⟩) (fw_rec hz hw k1_s (q := vwCl[0]) rfl) rfl hl.1 rfl (Nat.le_of_ble_eq_true rfl) dJx4a65c_add_9ea2d_20 ⟨Nat.le_of_ble_eq_true rfl, Nat.le_of_ble_eq_true rfl⟩) hw (fun F1 H locs hw hp => ?_)
    refine W.widen (k := 1) (n := 240) (Nat.le_of_ble_eq_true rfl) (Nat.le_of_ble_eq_true rfl) ?_
    obtain ⟨q, cap9, row9, mc9, z1, z2, z3, z4, z5, z6, z7, z8, z9, z10⟩ := hp
    have hw := fw_reclose (f' := va_up f 0 v) hF hP0 ho1 (fun h => absurd hea h) (fun h => by rw [hFW1, va_up_ne _ _ (heb hea), hFo, va_up_ne _ _ (heb hea)]) ⟨_, _, k1_s⟩ z1 z2 z3 z4 z5 z6 z7 (fun i hi => by obtain rfl : i = 0 := (by omega); rw [va_up_self]; exact z9) z10 hels hw
    refine lv_iconst (v := (nI 1)) hx hb dJx4a65c_add_9ea2d_23 (by decide) ?_
    exact fw_zret hx hb hr (by decide) hlk (Nat.le_of_ble_eq_true rfl) (Nat.le_of_ble_eq_true rfl) hw dJx4a65c_add_9ea2d_24 (⟨rfl, q, rfl⟩)
  · have hva : v ≠ arr := fun z => by rw [z, hF0] at hv; cases hv
    obtain ⟨Fo, hFo⟩ : ∃ z, z = va_up (va_up F b (some (t, fw_obj 0 [.int mc, .ref arr, .int (nI cnt)]))) arr (some ((999, 0, 0), fw_oa G cap row)) := ⟨_, rfl⟩
    rw [← hFo] at hw
    have ko : Fo b = some (t, fw_obj 0 [.int mc, .ref arr, .int (nI cnt)]) := by rw [hFo, va_up_ne _ _ hba]; exact fw_up_self
    have ka : Fo arr = some ((999, 0, 0), fw_oa G cap row) := by rw [hFo]; exact fw_up_self
    have kv : Fo v = some (tv, fw_obj civ fsv) := by rw [hFo, va_up_ne _ _ hva, va_up_ne _ _ hvb]; exact hv
    refine lv_aload_n hx hb dJx4a65c_add_9ea2d_0 rfl (lv_at hl 0 rfl) ?_
    refine lv_dup hx hb dJx4a65c_add_9ea2d_1 rfl ?_
    refine fw_get (v := .int mc) hx hb hT fi_RJx4a65c hown hz hw ko rfl 0 (by decide) (hT _ wd_50) (fun x9 h9 => u_same (hT _ wd_51) x9 h9) rfl dJx4a65c_add_9ea2d_2 ?_
    refine lv_iconst (v := (nI 1)) hx hb dJx4a65c_add_9ea2d_5 (by decide) ?_
    refine lv_iadd hx hb dJx4a65c_add_9ea2d_6 ?_
    refine fw_put (v := .int (mc + (nI 1))) (fs' := [.int (mc + (nI 1)), .ref arr, .int (nI cnt)]) hx hb hT fi_RJx4a65c tyJx4a65c tyJx4a65c_ok nmJx4a65c hown hz hw ko rfl 0 (by decide) (hT _ wd_50) (fun x9 h9 => u_same (hT _ wd_51) x9 h9) rfl (ty := tyJx4a65c 0) (by decide +kernel) rfl rfl (Nat.le_of_ble_eq_true rfl) rfl dJx4a65c_add_9ea2d_7 (fun H locs hw => ?_)
    obtain ⟨W1, hFW1⟩ : ∃ z, z = va_up Fo b (some (t, fw_obj 0 [.int (mc + (nI 1)), .ref arr, .int (nI cnt)])) := ⟨_, rfl⟩
    rw [← hFW1] at hw
    have k1_0 : W1 arr = some ((999, 0, 0), fw_oa G cap row) := by rw [hFW1]; exact fw_up_tag ka ko (Ne.symm hn9)
    have k1_s : W1 b = some (t, fw_obj 0 [.int (mc + (nI 1)), .ref arr, .int (nI cnt)]) := by rw [hFW1]; exact fw_up_self
    refine lv_aload_n hx hb dJx4a65c_add_9ea2d_10 rfl (lv_at hl 0 rfl) ?_
    refine lv_aload_n hx hb dJx4a65c_add_9ea2d_11 rfl (lv_at hl 1 rfl) ?_
    refine lv_aload_n hx hb dJx4a65c_add_9ea2d_12 rfl (lv_at hl 0 rfl) ?_
    refine fw_get (v := .ref arr) hx hb hT fi_RJx4a65c hown hz hw k1_s rfl 1 (by decide) (hT _ wd_47) (fun _ h9 => h9) rfl dJx4a65c_add_9ea2d_13 ?_
    refine lv_aload_n hx hb dJx4a65c_add_9ea2d_16 rfl (lv_at hl 0 rfl) ?_
    refine fw_get (v := .int (nI cnt)) hx hb hT fi_RJx4a65c hown hz hw k1_s rfl 2 (by decide) (hT _ wd_48) (fun _ h9 => h9) rfl dJx4a65c_add_9ea2d_17 ?_
    have kv1 : W1 v = some (tv, fw_obj civ fsv) := by rw [hFW1, va_up_ne _ _ hvb]; exact kv
    have ho1 : ∀ a, a ≠ b → a ≠ arr → W1 a = F a := fun a e1 e2 => by rw [hFW1, va_up_ne _ _ e1, hFo, va_up_ne _ _ e2, va_up_ne _ _ e1]
    have hel9 : ∀ i y, i < cap → row i = some y → ∃ t1 ci fs, W1 y = some (t1, fw_obj ci fs) := fun i y hi hy => by
      rcases Nat.lt_or_ge i cnt with h9 | h9
      · rw [r3 i h9] at hy; injection hy with hy; subst hy
        obtain ⟨t1, ci, fs, g1⟩ := hP0.2.2 b t arr cnt f hF i h9
        have e1 : f i ≠ b := fun z => by rw [z, hF] at g1; cases g1
        have e2 : f i ≠ arr := fun z => by rw [z, hF0] at g1; cases g1
        exact ⟨t1, ci, fs, by rw [ho1 _ e1 e2]; exact g1⟩
      · rw [r4 i h9] at hy; cases hy
    refine fw_callv (fw_runV (As := [.ref v, .ref arr, .int (nI cnt)]) (rest := []) C hz hw (c_Jx4a65c_add_72be8 l G _ _ b arr cap cnt t (mc + nI 1) row v civ tv fsv ht k1_s k1_0 hne r2 hcn r1 r4 hel9 kv1) (fw_cwV hT wd_119 yVJx4a65c_add_72be8 rfl rfl ⟨Nat.le_of_ble_eq_true rfl, Nat.le_of_ble_eq_true rfl⟩) (fw_rec hz hw k1_s (q := vwCl[0]) rfl) rfl hl.1 rfl (Nat.le_of_ble_eq_true rfl) dJx4a65c_add_9ea2d_20 ⟨Nat.le_of_ble_eq_true rfl, Nat.le_of_ble_eq_true rfl⟩) hw (fun F1 H locs hw hp => ?_)
    refine W.widen (k := 1) (n := 240) (Nat.le_of_ble_eq_true rfl) (Nat.le_of_ble_eq_true rfl) ?_
    obtain ⟨q, cap9, row9, mc9, z1, z2, z3, z4, z5, z6, z7, z8, z9, z10⟩ := hp
    have hw := fw_reclose (f' := va_up f cnt v) hF hP0 ho1 (fun _ => ⟨_, _, k1_0⟩) (fun h => absurd h hne) ⟨_, _, k1_s⟩ z1 z2 z3 z4 z5 z6 z7 (fun i hi => by
      by_cases z : i = cnt
      · rw [z, va_up_self]; exact z9
      · rw [va_up_ne _ _ z, z8 i (by omega)]; exact r3 i (by omega)) z10 hels hw
    refine lv_iconst (v := (nI 1)) hx hb dJx4a65c_add_9ea2d_23 (by decide) ?_
    exact fw_zret hx hb hr (by decide) hlk (Nat.le_of_ble_eq_true rfl) (Nat.le_of_ble_eq_true rfl) hw dJx4a65c_add_9ea2d_24 (⟨rfl, q, rfl⟩)
