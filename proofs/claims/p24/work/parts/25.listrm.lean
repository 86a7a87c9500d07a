/-! ArrayList: removing; constructors. -/
theorem fw_closeE {G : fw_G} {A : Nat → Prop} {s : State} {F1 : fw_F} {H : Heap} {locs : List Loc} {b : Nat} {t : fw_T} {mc : Int32} (f : Nat → Nat) (hw : fw_S G A s F1 H locs) (hb : F1 b = some (t, fw_obj 0 [.int mc, .ref (fw_ea G), .int (nI 0)]))
    (hnb : ∀ a t' arr' n' f', F1 a = some (t', fw_ls arr' n' f') → ∀ i, i < n' → f' i ≠ b) : fw_S G A s (va_up F1 b (some (t, fw_ls (fw_ea G) 0 f))) H locs := by
  have old : ∀ a x, a ≠ b → va_up F1 b (some (t, fw_ls (fw_ea G) 0 f)) a = some x → F1 a = some x := fun a x e h => by rwa [va_up_ne _ _ e] at h
  refine ⟨⟨fun a t' e he => ?_, fun a t' arr' n' f' he hne => ?_, fun a t' arr' n' f' he i hi => ?_⟩, hw.2.1, ?_⟩
  · by_cases q : a = b
    · subst q
      rw [va_up_self] at he
      cases he
      exact ⟨mc, 0, fun _ => none, hw.1.1 _ _ _ hb, Nat.le_refl _, by decide, fun i h => absurd h (Nat.not_lt_zero _), fun _ _ => rfl, Or.inl ⟨rfl, rfl⟩⟩
    · exact hw.1.1 a t' e (old a _ q he)
  · by_cases q : a = b
    · subst q
      rw [va_up_self] at he
      cases he
      exact absurd rfl hne
    · obtain ⟨z1, z2⟩ := hw.1.2.1 a t' arr' n' f' (old a _ q he) hne
      refine ⟨by rw [va_up_ne _ _ (fun z => by rw [z, hb] at z1; cases z1)]; exact z1, fun a' t'' n'' f'' h' => ?_⟩
      by_cases q' : a' = b
      · rw [q', va_up_self] at h'
        cases h'
        exact absurd rfl hne
      · exact z2 a' t'' n'' f'' (old a' _ q' h')
  · by_cases q : a = b
    · subst q
      rw [va_up_self] at he
      cases he
      exact absurd hi (Nat.not_lt_zero _)
    · obtain ⟨t1, ci, fs, z1⟩ := hw.1.2.2 a t' arr' n' f' (old a _ q he) i hi
      exact ⟨t1, ci, fs, by rw [va_up_ne _ _ (hnb a t' arr' n' f' (old a _ q he) i hi)]; exact z1⟩
  · intro q h
    rcases h with ⟨x, h⟩ | ⟨a, t', n', f', h, hne⟩ | h
    · by_cases e : q = b
      · exact hw.2.2 q (Or.inl ⟨_, by rw [e]; exact hb⟩)
      · exact hw.2.2 q (Or.inl ⟨_, old q x e h⟩)
    · by_cases e : a = b
      · rw [e, va_up_self] at h
        injection h with h; injection h with _ h; injection h with h; injection h with h _
        exact absurd h.symm hne
      · exact hw.2.2 q (Or.inr (Or.inl ⟨a, t', n', f', old a _ e h, hne⟩))
    · exact hw.2.2 q (Or.inr (Or.inr h))
def fw_rm (f : Nat → Nat) (i k : Nat) : Nat := if k < i then f k else f (k + 1)
set_option maxHeartbeats 4000000 in
set_option maxRecDepth 100000 in
theorem c_Jx4a65c_fastRemove_b59b0 (l : Launch) (G : fw_G) (F : fw_F) (sz : Nat) (b arr cap cnt i : Nat) (t : fw_T) (mc : Int32) (row : Nat → Option Nat) (ht : t.1 < 900) (hF : F b = some (t, fw_obj 0 [.int mc, .ref arr, .int (nI (cnt + 1))])) (hAr : F arr = some ((999, 0, 0), fw_oa G cap row)) (hc : cap ≤ 160) (hle : cnt + 1 ≤ cap) (hi : i ≤ cnt) (hel : ∀ j y, j < cap → row j = some y → ∃ t1 ci fs, F y = some (t1, fw_obj ci fs)) : Met l yJx4a65c_fastRemove_b59b0 (fw_ws yJx4a65c_fastRemove_b59b0 cJx4a65c_fastRemove_b59b0 4 none) { frames := 1, cells := 0, slots := 0, locals := 40 } (va_Pc [.ref b, .ref arr, .int (nI i)] (fw_Pre G F sz)) (va_Qv (fun F1 => ∃ (row1 : Nat → Option Nat) (mc1 : Int32), F1 arr = some ((999, 0, 0), fw_oa G cap row1) ∧ F1 b = some (t, fw_obj 0 [.int mc1, .ref arr, .int (nI cnt)]) ∧ (∀ a, a ≠ arr → a ≠ b → F1 a = F a) ∧ (∀ k, k < i → row1 k = row k) ∧ (∀ k, i ≤ k → k < cnt → row1 k = row (k + 1)) ∧ (∀ k, cnt < k → row1 k = row k) ∧ row1 cnt = none) (fw_B G (fw_W G F sz)) (fw_W G F sz)) 0 0 (fw_W G F sz) := by
  refine fw_met (lv := [(0, .ref b), (1, .ref arr), (2, .int (nI i))]) (by decide +kernel) (Nat.le_of_ble_eq_true rfl) rfl ?_
  intro A hA p e s m below meth c ls hx hb hml hown hT hr hlk hin hz hsz hw hAn hl
  rw [← hA]
  have hown : s.vm.findClass RJx4a65c = some m.cls := hown
  have C : CallFix p m c cJx4a65c_fastRemove_b59b0 4 s _ fw_tb RJx4a65c := ⟨hx, hb, hml, hown, hT⟩
  have hn9 : t ≠ (999, 0, 0) := fun z => by rw [z] at ht; exact absurd ht (by decide)
  have hba : b ≠ arr := fun z => by rw [z, hAr] at hF; cases hF
  refine lv_aload_n hx hb dJx4a65c_fastRemove_b59b0_0 rfl (lv_at hl 0 rfl) ?_
  refine lv_dup hx hb dJx4a65c_fastRemove_b59b0_1 rfl ?_
  refine fw_get (v := .int mc) hx hb hT fi_RJx4a65c hown hz hw hF rfl 0 (by decide) (hT _ wd_50) (fun x9 h9 => u_same (hT _ wd_51) x9 h9) rfl dJx4a65c_fastRemove_b59b0_2 ?_
  refine lv_iconst (v := (nI 1)) hx hb dJx4a65c_fastRemove_b59b0_5 (by decide) ?_
  refine lv_iadd hx hb dJx4a65c_fastRemove_b59b0_6 ?_
  refine fw_put (v := .int (mc + (nI 1))) (fs' := [.int (mc + (nI 1)), .ref arr, .int (nI (cnt + 1))]) hx hb hT fi_RJx4a65c tyJx4a65c tyJx4a65c_ok nmJx4a65c hown hz hw hF rfl 0 (by decide) (hT _ wd_50) (fun x9 h9 => u_same (hT _ wd_51) x9 h9) rfl (ty := tyJx4a65c 0) (by decide +kernel) rfl rfl (Nat.le_of_ble_eq_true rfl) rfl dJx4a65c_fastRemove_b59b0_7 (fun H locs hw => ?_)
  obtain ⟨W1, hFW1⟩ : ∃ z, z = va_up F b (some (t, fw_obj 0 [.int (mc + (nI 1)), .ref arr, .int (nI (cnt + 1))])) := ⟨_, rfl⟩
  rw [← hFW1] at hw
  have k1_0 : W1 arr = some ((999, 0, 0), fw_oa G cap row) := by rw [hFW1]; exact fw_up_tag hAr hF (Ne.symm hn9)
  have k1_s : W1 b = some (t, fw_obj 0 [.int (mc + (nI 1)), .ref arr, .int (nI (cnt + 1))]) := by rw [hFW1]; exact fw_up_self
  refine lv_aload_n hx hb dJx4a65c_fastRemove_b59b0_10 rfl (lv_at hl 0 rfl) ?_
  refine fw_get (v := .int (nI (cnt + 1))) hx hb hT fi_RJx4a65c hown hz hw k1_s rfl 2 (by decide) (hT _ wd_48) (fun _ h9 => h9) rfl dJx4a65c_fastRemove_b59b0_11 ?_
  refine lv_iconst (v := (nI 1)) hx hb dJx4a65c_fastRemove_b59b0_14 (by decide) ?_
  refine lv_isub hx hb dJx4a65c_fastRemove_b59b0_15 ?_
  refine fw_top (pk_sub (by omega)) ?_
  refine fw_top (x' := (nI cnt)) (by rw [Nat.add_sub_cancel]) ?_
  refine lv_dup hx hb dJx4a65c_fastRemove_b59b0_16 rfl ?_
  refine lv_istore_n (lv' := [(3, .int (nI cnt)), (0, .ref b), (1, .ref arr), (2, .int (nI i))]) hx hb dJx4a65c_fastRemove_b59b0_17 rfl hl (by decide) rfl (fun ls hl => ?_)
  refine lv_iload_n hx hb dJx4a65c_fastRemove_b59b0_18 rfl (lv_at hl 3 rfl) ?_
  refine lv_icmp_le (tgt := 34) hx hb dJx4a65c_fastRemove_b59b0_19 (by decide) (fun d => ?_) (fun d => ?_)
  · have d := (nI_leI (a := cnt) (b := i) (by omega) (by omega)).mp d
    refine lv_aload_n hx hb dJx4a65c_fastRemove_b59b0_34 rfl (lv_at hl 2 rfl) ?_
    refine lv_aload_n hx hb dJx4a65c_fastRemove_b59b0_35 rfl (lv_at hl 1 rfl) ?_
    refine lv_iload_n hx hb dJx4a65c_fastRemove_b59b0_36 rfl (lv_at hl 0 rfl) ?_
    refine lv_dup_x1 hx hb dJx4a65c_fastRemove_b59b0_37 rfl rfl ?_
    refine fw_put (v := .int (nI cnt)) (fs' := [.int (mc + (nI 1)), .ref arr, .int (nI cnt)]) hx hb hT fi_RJx4a65c tyJx4a65c tyJx4a65c_ok nmJx4a65c hown hz hw k1_s rfl 2 (by decide) (hT _ wd_48) (fun _ h9 => h9) rfl (ty := tyJx4a65c 2) (by decide +kernel) rfl rfl (Nat.le_of_ble_eq_true rfl) rfl dJx4a65c_fastRemove_b59b0_38 (fun H locs hw => ?_)
    obtain ⟨W2, hFW2⟩ : ∃ z, z = va_up W1 b (some (t, fw_obj 0 [.int (mc + (nI 1)), .ref arr, .int (nI cnt)])) := ⟨_, rfl⟩
    rw [← hFW2] at hw
    have k2_0 : W2 arr = some ((999, 0, 0), fw_oa G cap row) := by rw [hFW2]; exact fw_up_tag k1_0 k1_s (Ne.symm hn9)
    have k2_s : W2 b = some (t, fw_obj 0 [.int (mc + (nI 1)), .ref arr, .int (nI cnt)]) := by rw [hFW2]; exact fw_up_self
    refine lv_null hx hb dJx4a65c_fastRemove_b59b0_41 ?_
    refine fw_aastN hx hb hz hw k2_0 (cnt) rfl (by omega) (by omega) dJx4a65c_fastRemove_b59b0_42 (fun H locs hw => ?_)
    obtain ⟨W3, hFW3⟩ : ∃ z, z = va_up W2 arr (some ((999, 0, 0), fw_oa G cap (va_up row cnt none))) := ⟨_, rfl⟩
    rw [← hFW3] at hw
    have k3_0 : W3 b = some (t, fw_obj 0 [.int (mc + (nI 1)), .ref arr, .int (nI cnt)]) := by rw [hFW3]; exact fw_up_tag k2_s k2_0 hn9
    have k3_s : W3 arr = some ((999, 0, 0), fw_oa G cap (va_up row cnt none)) := by rw [hFW3]; exact fw_up_self
    exact fw_vret hx hb hr hlk (Nat.le_of_ble_eq_true rfl) (Nat.le_of_ble_eq_true rfl) hw dJx4a65c_fastRemove_b59b0_43 (⟨_, _, k3_s, k3_0, fun a e1 e2 => by rw [hFW3, va_up_ne _ _ e1, hFW2, va_up_ne _ _ e2, hFW1, va_up_ne _ _ e2], fun k hk => va_up_ne _ _ (by omega), fun k h1 h2 => absurd h2 (by omega), fun k hk => va_up_ne _ _ (by omega), va_up_self _ _ _⟩)
  · have d : ¬ cnt ≤ i := fun h9 => d ((nI_leI (a := cnt) (b := i) (by omega) (by omega)).mpr h9)
    refine lv_aload_n hx hb dJx4a65c_fastRemove_b59b0_22 rfl (lv_at hl 2 rfl) ?_
    refine lv_iload_n hx hb dJx4a65c_fastRemove_b59b0_23 rfl (lv_at hl 3 rfl) ?_
    refine lv_iconst (v := (nI 1)) hx hb dJx4a65c_fastRemove_b59b0_24 (by decide) ?_
    refine lv_iadd hx hb dJx4a65c_fastRemove_b59b0_25 ?_
    refine fw_top (nI_add _ _) ?_
    refine lv_aload_n hx hb dJx4a65c_fastRemove_b59b0_26 rfl (lv_at hl 2 rfl) ?_
    refine lv_iload_n hx hb dJx4a65c_fastRemove_b59b0_27 rfl (lv_at hl 3 rfl) ?_
    refine lv_iload_n hx hb dJx4a65c_fastRemove_b59b0_28 rfl (lv_at hl 0 rfl) ?_
    refine lv_iload_n hx hb dJx4a65c_fastRemove_b59b0_29 rfl (lv_at hl 3 rfl) ?_
    refine lv_isub hx hb dJx4a65c_fastRemove_b59b0_30 ?_
    refine fw_top (x' := (nI (cnt - i))) (pk_sub (by omega)) ?_
    refine fw_acopy (R := { frames := 1, cells := 0, slots := 0, locals := 40 }) (rest := []) hx hb (hml.trans hl.1.symm) hown (hT _ wd_543) (hT _ wd_172) (hT _ wd_171) (hT _ wd_11) hz hw k1_0 k1_0 (i + 1) (i) (cnt - i) (by omega) (by omega) (by omega) (by omega) (fun j hj y hy => by
          obtain ⟨t1, ci, fs, g1⟩ := hel (i + 1 + j) y (by omega) hy
          have e2 : y ≠ arr := fun z => by rw [z, hAr] at g1; cases g1
          by_cases e1 : y = b
          · rw [e1]; exact fw_any hz hw k1_s
          · exact fw_any hz hw (by rw [hFW1, va_up_ne _ _ e1]; exact g1)) (Nat.le_of_ble_eq_true rfl) (by decide) dJx4a65c_fastRemove_b59b0_31 (fun H locs hw => ?_)
    obtain ⟨W2, hFW2⟩ : ∃ z, z = va_up W1 arr (some ((999, 0, 0), fw_oa G cap (va_cpy row row (i + 1) i (cnt - i)))) := ⟨_, rfl⟩
    rw [← hFW2] at hw
    have k2_0 : W2 b = some (t, fw_obj 0 [.int (mc + (nI 1)), .ref arr, .int (nI (cnt + 1))]) := by rw [hFW2]; exact fw_up_tag k1_s k1_0 hn9
    have k2_s : W2 arr = some ((999, 0, 0), fw_oa G cap (va_cpy row row (i + 1) i (cnt - i))) := by rw [hFW2]; exact fw_up_self
    refine lv_aload_n hx hb dJx4a65c_fastRemove_b59b0_34 rfl (lv_at hl 2 rfl) ?_
    refine lv_aload_n hx hb dJx4a65c_fastRemove_b59b0_35 rfl (lv_at hl 1 rfl) ?_
    refine lv_iload_n hx hb dJx4a65c_fastRemove_b59b0_36 rfl (lv_at hl 0 rfl) ?_
    refine lv_dup_x1 hx hb dJx4a65c_fastRemove_b59b0_37 rfl rfl ?_
    refine fw_put (v := .int (nI cnt)) (fs' := [.int (mc + (nI 1)), .ref arr, .int (nI cnt)]) hx hb hT fi_RJx4a65c tyJx4a65c tyJx4a65c_ok nmJx4a65c hown hz hw k2_0 rfl 2 (by decide) (hT _ wd_48) (fun _ h9 => h9) rfl (ty := tyJx4a65c 2) (by decide +kernel) rfl rfl (Nat.le_of_ble_eq_true rfl) rfl dJx4a65c_fastRemove_b59b0_38 (fun H locs hw => ?_)
    obtain ⟨W3, hFW3⟩ : ∃ z, z = va_up W2 b (some (t, fw_obj 0 [.int (mc + (nI 1)), .ref arr, .int (nI cnt)])) := ⟨_, rfl⟩
    rw [← hFW3] at hw
    have k3_0 : W3 arr = some ((999, 0, 0), fw_oa G cap (va_cpy row row (i + 1) i (cnt - i))) := by rw [hFW3]; exact fw_up_tag k2_s k2_0 (Ne.symm hn9)
    have k3_s : W3 b = some (t, fw_obj 0 [.int (mc + (nI 1)), .ref arr, .int (nI cnt)]) := by rw [hFW3]; exact fw_up_self
    refine lv_null hx hb dJx4a65c_fastRemove_b59b0_41 ?_
    refine fw_aastN hx hb hz hw k3_0 (cnt) rfl (by omega) (by omega) dJx4a65c_fastRemove_b59b0_42 (fun H locs hw => ?_)
    obtain ⟨W4, hFW4⟩ : ∃ z, z = va_up W3 arr (some ((999, 0, 0), fw_oa G cap (va_up (va_cpy row row (i + 1) i (cnt - i)) cnt none))) := ⟨_, rfl⟩
    rw [← hFW4] at hw
    have k4_0 : W4 b = some (t, fw_obj 0 [.int (mc + (nI 1)), .ref arr, .int (nI cnt)]) := by rw [hFW4]; exact fw_up_tag k3_s k3_0 hn9
    have k4_s : W4 arr = some ((999, 0, 0), fw_oa G cap (va_up (va_cpy row row (i + 1) i (cnt - i)) cnt none)) := by rw [hFW4]; exact fw_up_self
    exact fw_vret hx hb hr hlk (Nat.le_of_ble_eq_true rfl) (Nat.le_of_ble_eq_true rfl) hw dJx4a65c_fastRemove_b59b0_43 (⟨_, _, k4_s, k4_0, fun a e1 e2 => by rw [hFW4, va_up_ne _ _ e1, hFW3, va_up_ne _ _ e2, hFW2, va_up_ne _ _ e1, hFW1, va_up_ne _ _ e2], fun k hk => by rw [va_up_ne _ _ (by omega)]; exact pk_cpy_out (Or.inl hk), fun k z1 z2 => by rw [va_up_ne _ _ (by omega), pk_cpy_in z1 (by omega)]; congr 1; omega, fun k hk => by rw [va_up_ne _ _ (by omega)]; exact pk_cpy_out (Or.inr (by omega)), va_up_self _ _ _⟩)
set_option maxHeartbeats 4000000 in
set_option maxRecDepth 100000 in
theorem c_Jx4a65c_remove_915e3 (l : Launch) (G : fw_G) (F : fw_F) (sz : Nat) (b arr cnt i : Nat) (t : fw_T) (f : Nat → Nat) (ht : t.1 < 900) (hF : F b = some (t, fw_ls arr (cnt + 1) f)) (hcn : cnt < 160) (hi : i ≤ cnt) : Met l yJx4a65c_remove_915e3 (fw_ws yJx4a65c_remove_915e3 cJx4a65c_remove_915e3 4 (some ((.object "java/lang/Object")))) { frames := 2, cells := 0, slots := 0, locals := 63 } (va_Pc [.ref b, .int (nI i)] (fw_Pre G F sz)) (fw_Qo (fun r F1 => r = some (f i) ∧ F1 = va_up F b (some (t, fw_ls arr cnt (fw_rm f i)))) (fw_B G (fw_W G F sz)) (fw_W G F sz)) 0 0 (fw_W G F sz) := by
  refine fw_met (lv := [(0, .ref b), (1, .int (nI i))]) (by decide +kernel) (Nat.le_of_ble_eq_true rfl) rfl ?_
  intro A hA p e s m below meth c ls hx hb hml hown hT hr hlk hin hz hsz hw hAn hl
  rw [← hA]
  have hown : s.vm.findClass RJx4a65c = some m.cls := hown
  have C : CallFix p m c cJx4a65c_remove_915e3 4 s _ fw_tb RJx4a65c := ⟨hx, hb, hml, hown, hT⟩
  have hn9 : t ≠ (999, 0, 0) := fun z => by rw [z] at ht; exact absurd ht (by decide)
  refine lv_iload_n hx hb dJx4a65c_remove_915e3_0 rfl (lv_at hl 1 rfl) ?_
  refine lv_aload_n hx hb dJx4a65c_remove_915e3_1 rfl (lv_at hl 0 rfl) ?_
  refine fw_lsz hx hb hT hown hz hw hF (hT _ wd_48) dJx4a65c_remove_915e3_2 ?_
  refine fw_calli (fw_runS (As := [.int (nI i), .int (nI ((cnt + 1)))]) (rest := []) C hz hw (c_J15_checkIndex_7cf53 l G _ _ i (cnt + 1) (by omega) (by omega)) (fw_cwS hT wd_327 ySJ15_checkIndex_7cf53 rfl rfl ⟨Nat.le_of_ble_eq_true rfl, Nat.le_of_ble_eq_true rfl⟩) rfl hl.1 rfl (Nat.le_of_ble_eq_true rfl) dJx4a65c_remove_915e3_5 ⟨Nat.le_of_ble_eq_true rfl, Nat.le_of_ble_eq_true rfl⟩) hw (fun r F1 H locs hw hp => ?_)
  obtain ⟨hp0, hp⟩ := hp
  rw [hp0] at hw
  refine W.widen (k := 0) (n := 0) (Nat.le_of_ble_eq_true rfl) (Nat.le_of_ble_eq_true rfl) ?_
  subst hp
  refine lv_pop hx hb dJx4a65c_remove_915e3_8 rfl ?_
  refine lv_aload_n hx hb dJx4a65c_remove_915e3_9 rfl (lv_at hl 0 rfl) ?_
  refine fw_larr hx hb hT hown hz hw hF (hT _ wd_47) dJx4a65c_remove_915e3_10 ?_
  refine lv_astore_n (lv' := [(2, .ref arr), (0, .ref b), (1, .int (nI i))]) hx hb dJx4a65c_remove_915e3_13 rfl hl (by decide) rfl (fun ls hl => ?_)
  refine lv_aload_n hx hb dJx4a65c_remove_915e3_14 rfl (lv_at hl 0 rfl) ?_
  refine lv_iload_n hx hb dJx4a65c_remove_915e3_15 rfl (lv_at hl 2 rfl) ?_
  refine fw_llald hx hb hz hw hF (i) rfl (by omega) dJx4a65c_remove_915e3_16 ?_
  refine lv_astore_n (lv' := [(3, .ref (f i)), (2, .ref arr), (0, .ref b), (1, .int (nI i))]) hx hb dJx4a65c_remove_915e3_17 rfl hl (by decide) rfl (fun ls hl => ?_)
  refine lv_aload_n hx hb dJx4a65c_remove_915e3_18 rfl (lv_at hl 2 rfl) ?_
  refine lv_aload_n hx hb dJx4a65c_remove_915e3_19 rfl (lv_at hl 1 rfl) ?_
  refine lv_iload_n hx hb dJx4a65c_remove_915e3_20 rfl (lv_at hl 3 rfl) ?_
  have hP0 := hw.1
  obtain ⟨mc, cap, row, r1, r2, r3, r4, hop⟩ := fw_open hw hF (999, 0, 0)
  obtain ⟨hne, hba, hF0, hw⟩ := hop.resolve_left (fun h => by omega)
  obtain ⟨Fo, hFo⟩ : ∃ z, z = va_up (va_up F b (some (t, fw_obj 0 [.int mc, .ref arr, .int (nI (cnt + 1))]))) arr (some ((999, 0, 0), fw_oa G cap row)) := ⟨_, rfl⟩
  rw [← hFo] at hw
  have ko : Fo b = some (t, fw_obj 0 [.int mc, .ref arr, .int (nI (cnt + 1))]) := by rw [hFo, va_up_ne _ _ hba]; exact fw_up_self
  have ka : Fo arr = some ((999, 0, 0), fw_oa G cap row) := by rw [hFo]; exact fw_up_self
  have ho1 : ∀ a, a ≠ b → a ≠ arr → Fo a = F a := fun a e1 e2 => by rw [hFo, va_up_ne _ _ e2, va_up_ne _ _ e1]
  have hel9 : ∀ j y, j < cap → row j = some y → ∃ t1 ci fs, Fo y = some (t1, fw_obj ci fs) := fun j y hj hy => by
    rcases Nat.lt_or_ge j (cnt + 1) with h9 | h9
    · rw [r3 j h9] at hy; injection hy with hy; subst hy
      obtain ⟨t1, ci, fs, g1⟩ := hP0.2.2 b t arr (cnt + 1) f hF j h9
      have e1 : f j ≠ b := fun z => by rw [z, hF] at g1; cases g1
      have e2 : f j ≠ arr := fun z => by rw [z, hF0] at g1; cases g1
      exact ⟨t1, ci, fs, by rw [ho1 _ e1 e2]; exact g1⟩
    · rw [r4 j h9] at hy; cases hy
  refine fw_callv (fw_runV (As := [.ref arr, .int (nI i)]) (rest := []) C hz hw (c_Jx4a65c_fastRemove_b59b0 l G _ _ b arr cap cnt i t mc row ht ko ka r2 r1 hi hel9) (fw_cwV hT wd_539 yVJx4a65c_fastRemove_b59b0 rfl rfl ⟨Nat.le_of_ble_eq_true rfl, Nat.le_of_ble_eq_true rfl⟩) (fw_rec hz hw ko (q := vwCl[0]) rfl) rfl hl.1 rfl (Nat.le_of_ble_eq_true rfl) dJx4a65c_remove_915e3_21 ⟨Nat.le_of_ble_eq_true rfl, Nat.le_of_ble_eq_true rfl⟩) hw (fun F1 H locs hw hp => ?_)
  refine W.widen (k := 0) (n := 0) (Nat.le_of_ble_eq_true rfl) (Nat.le_of_ble_eq_true rfl) ?_
  obtain ⟨row1, mc1, z1, z2, z3, z4, z5, z6, z7⟩ := hp
  have hw := fw_reclose (f' := fw_rm f i) hF hP0 ho1 (fun _ => ⟨_, _, ka⟩) (fun h => absurd h hne) ⟨_, _, ko⟩ hne (Or.inl rfl) z1 z2 z3 (by omega) r2 (fun k hk => by
    rw [fw_rm]
    by_cases h : k < i
    · rw [if_pos h, z4 k h]; exact r3 k (by omega)
    · rw [if_neg h, z5 k (by omega) hk]; exact r3 (k + 1) (by omega)) (fun k hk => by
    rcases Nat.eq_or_lt_of_le hk with h | h
    · rw [← h]; exact z7
    · rw [z6 k h]; exact r4 k h) (fun k hk => by
    rw [fw_rm]
    split
    · exact hP0.2.2 b t arr (cnt + 1) f hF k (by omega)
    · exact hP0.2.2 b t arr (cnt + 1) f hF (k + 1) (by omega)) hw
  refine lv_aload_n hx hb dJx4a65c_remove_915e3_24 rfl (lv_at hl 0 rfl) ?_
  exact fw_aret (v := some (f i)) hx hb hr hlk (Nat.le_of_ble_eq_true rfl) (Nat.le_of_ble_eq_true rfl) hw dJx4a65c_remove_915e3_25 rfl (⟨rfl, rfl⟩)
set_option maxHeartbeats 4000000 in
set_option maxRecDepth 100000 in
theorem c_Jxa1e45_init_da8c8 (l : Launch) (G : fw_G) (F : fw_F) (sz : Nat) (b : Nat) : Met l yJxa1e45_init_da8c8 (fw_ws yJxa1e45_init_da8c8 cJxa1e45_init_da8c8 1 none) { frames := 1, cells := 0, slots := 0, locals := 20 } (va_Pc [.ref b] (fw_Pre G F sz)) (va_Qv (fun F1 => F1 = F) (fw_B G (fw_W G F sz)) (fw_W G F sz)) 0 0 (fw_W G F sz) := by
  refine fw_met (lv := [(0, .ref b)]) (by decide +kernel) (Nat.le_of_ble_eq_true rfl) rfl ?_
  intro A hA p e s m below meth c ls hx hb hml hown hT hr hlk hin hz hsz hw hAn hl
  rw [← hA]
  have hown : s.vm.findClass RJxa1e45 = some m.cls := hown
  have C : CallFix p m c cJxa1e45_init_da8c8 1 s _ fw_tb RJxa1e45 := ⟨hx, hb, hml, hown, hT⟩
  refine lv_aload_n hx hb dJxa1e45_init_da8c8_0 rfl (lv_at hl 0 rfl) ?_
  refine W.objInit hx hb hown (hT _ wd_44) (hT _ wd_31) (hT _ wd_32) rfl (hl.1.trans hml.symm) rfl dJxa1e45_init_da8c8_1 (Nat.le_of_ble_eq_true rfl) (Nat.le_of_ble_eq_true rfl) ?_
  refine W.eq (g2 := F0 m 4 ls []) rfl ?_
  exact fw_vret hx hb hr hlk (Nat.le_of_ble_eq_true rfl) (Nat.le_of_ble_eq_true rfl) hw dJxa1e45_init_da8c8_4 (rfl)
set_option maxHeartbeats 4000000 in
set_option maxRecDepth 100000 in
theorem c_Jxc12de_init_da8c8 (l : Launch) (G : fw_G) (F : fw_F) (sz : Nat) (b : Nat) (t : fw_T) (mc : Int32) (v2 : Value) (k : Int32) (hF : F b = some (t, fw_obj 0 [.int mc, v2, .int k])) : Met l yJxc12de_init_da8c8 (fw_ws yJxc12de_init_da8c8 cJxc12de_init_da8c8 1 none) { frames := 2, cells := 0, slots := 0, locals := 40 } (va_Pc [.ref b] (fw_Pre G F sz)) (va_Qv (fun F1 => F1 = va_up F b (some (t, fw_obj 0 [.int (nI 0), v2, .int k]))) (fw_B G (fw_W G F sz)) (fw_W G F sz)) 0 0 (fw_W G F sz) := by
  refine fw_met (lv := [(0, .ref b)]) (by decide +kernel) (Nat.le_of_ble_eq_true rfl) rfl ?_
  intro A hA p e s m below meth c ls hx hb hml hown hT hr hlk hin hz hsz hw hAn hl
  rw [← hA]
  have hown : s.vm.findClass RJxc12de = some m.cls := hown
  have C : CallFix p m c cJxc12de_init_da8c8 1 s _ fw_tb RJxc12de := ⟨hx, hb, hml, hown, hT⟩
  refine lv_aload_n hx hb dJxc12de_init_da8c8_0 rfl (lv_at hl 0 rfl) ?_
  refine fw_callv (fw_runI (As := []) (rest := []) C hz hw (c_Jxa1e45_init_da8c8 l G _ _ b) (fw_cwI hT wd_41 yIJxa1e45_init_da8c8 rfl rfl ⟨Nat.le_of_ble_eq_true rfl, Nat.le_of_ble_eq_true rfl⟩) rfl hl.1 rfl (Nat.le_of_ble_eq_true rfl) dJxc12de_init_da8c8_1 ⟨Nat.le_of_ble_eq_true rfl, Nat.le_of_ble_eq_true rfl⟩) hw (fun F1 H locs hw hp => ?_)
  refine W.widen (k := 0) (n := 0) (Nat.le_of_ble_eq_true rfl) (Nat.le_of_ble_eq_true rfl) ?_
  rw [hp] at hw
  refine lv_aload_n hx hb dJxc12de_init_da8c8_4 rfl (lv_at hl 0 rfl) ?_
  refine lv_iconst (v := (nI 0)) hx hb dJxc12de_init_da8c8_5 (by decide) ?_
  refine fw_put (v := .int (nI 0)) (fs' := [.int (nI 0), v2, .int k]) hx hb hT fi_RJx4a65c tyJx4a65c tyJx4a65c_ok nmJx4a65c hown hz hw hF rfl 0 (by decide) (hT _ wd_49) (fun _ h9 => h9) rfl (ty := tyJx4a65c 0) (by decide +kernel) rfl rfl (Nat.le_of_ble_eq_true rfl) rfl dJxc12de_init_da8c8_6 (fun H locs hw => ?_)
  obtain ⟨W1, hFW1⟩ : ∃ z, z = va_up F b (some (t, fw_obj 0 [.int (nI 0), v2, .int k])) := ⟨_, rfl⟩
  rw [← hFW1] at hw
  have k1_s : W1 b = some (t, fw_obj 0 [.int (nI 0), v2, .int k]) := by rw [hFW1]; exact fw_up_self
  exact fw_vret hx hb hr hlk (Nat.le_of_ble_eq_true rfl) (Nat.le_of_ble_eq_true rfl) hw dJxc12de_init_da8c8_9 (hFW1)
set_option maxHeartbeats 4000000 in
set_option maxRecDepth 100000 in
theorem c_Jx4a65c_init_da8c8 (l : Launch) (G : fw_G) (F : fw_F) (sz : Nat) (b : Nat) (t : fw_T) (ht : t.1 < 900) (hF : F b = some (t, fw_obj 0 [.int (nI 0), .null, .int (nI 0)])) (hnb : ∀ a t1 arr1 n1 f1, F a = some (t1, fw_ls arr1 n1 f1) → ∀ i, i < n1 → f1 i ≠ b) : Met l yJx4a65c_init_da8c8 (fw_ws yJx4a65c_init_da8c8 cJx4a65c_init_da8c8 1 none) { frames := 3, cells := 0, slots := 0, locals := 60 } (va_Pc [.ref b] (fw_Pre G F sz)) (va_Qv (fun F1 => F1 = va_up F b (some (t, fw_ls (fw_ea G) 0 (fun _ => 0)))) (fw_B G (fw_W G F sz)) (fw_W G F sz)) 0 0 (fw_W G F sz) := by
  refine fw_met (lv := [(0, .ref b)]) (by decide +kernel) (Nat.le_of_ble_eq_true rfl) rfl ?_
  intro A hA p e s m below meth c ls hx hb hml hown hT hr hlk hin hz hsz hw hAn hl
  rw [← hA]
  have hown : s.vm.findClass RJx4a65c = some m.cls := hown
  have C : CallFix p m c cJx4a65c_init_da8c8 1 s _ fw_tb RJx4a65c := ⟨hx, hb, hml, hown, hT⟩
  refine lv_aload_n hx hb dJx4a65c_init_da8c8_0 rfl (lv_at hl 0 rfl) ?_
  refine fw_callv (fw_runI (As := []) (rest := []) C hz hw (c_Jxc12de_init_da8c8 l G _ _ b t (nI 0) .null (nI 0) hF) (fw_cwI hT wd_38 yIJxc12de_init_da8c8 rfl rfl ⟨Nat.le_of_ble_eq_true rfl, Nat.le_of_ble_eq_true rfl⟩) rfl hl.1 rfl (Nat.le_of_ble_eq_true rfl) dJx4a65c_init_da8c8_1 ⟨Nat.le_of_ble_eq_true rfl, Nat.le_of_ble_eq_true rfl⟩) hw (fun F1 H locs hw hp => ?_)
  refine W.widen (k := 0) (n := 0) (Nat.le_of_ble_eq_true rfl) (Nat.le_of_ble_eq_true rfl) ?_
  rw [hp, va_up_same hF] at hw
  refine lv_aload_n hx hb dJx4a65c_init_da8c8_4 rfl (lv_at hl 0 rfl) ?_
  refine va_gets hx hb hz.2.1 hw.2.1 hown (hT _ wd_45) (fun _ h9 => h9) dJx4a65c_init_da8c8_5 ?_
  refine fw_put (v := .ref (fw_ea G)) (fs' := [.int (nI 0), .ref (fw_ea G), .int (nI 0)]) hx hb hT fi_RJx4a65c tyJx4a65c tyJx4a65c_ok nmJx4a65c hown hz hw hF rfl 1 (by decide) (hT _ wd_47) (fun _ h9 => h9) rfl (ty := tyJx4a65c 1) (by decide +kernel) rfl rfl (Nat.le_of_ble_eq_true rfl) rfl dJx4a65c_init_da8c8_8 (fun H locs hw => ?_)
  obtain ⟨W1, hFW1⟩ : ∃ z, z = va_up F b (some (t, fw_obj 0 [.int (nI 0), .ref (fw_ea G), .int (nI 0)])) := ⟨_, rfl⟩
  rw [← hFW1] at hw
  have k1_s : W1 b = some (t, fw_obj 0 [.int (nI 0), .ref (fw_ea G), .int (nI 0)]) := by rw [hFW1]; exact fw_up_self
  have hw := fw_closeE (fun _ => 0) hw k1_s (fun a t1 arr1 n1 f1 h => by
    have e : a ≠ b := fun z => by rw [z, k1_s] at h; cases h
    rw [hFW1, va_up_ne _ _ e] at h
    exact hnb a t1 arr1 n1 f1 h)
  rw [hFW1, bx_uu] at hw
  exact fw_vret hx hb hr hlk (Nat.le_of_ble_eq_true rfl) (Nat.le_of_ble_eq_true rfl) hw dJx4a65c_init_da8c8_11 (rfl)
