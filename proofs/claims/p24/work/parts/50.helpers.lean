/-! The law's helpers: low, cell. -/
set_option maxHeartbeats 4000000 in
set_option maxRecDepth 100000 in
theorem c_L_low (l : Launch) (G : fw_G) (F : fw_F) (sz : Nat) (v : Int32) (q : Nat) (hq0 : 0 < q) (hq : q < 2 ^ 31) : Met l yL_low (fw_ws yL_low cL_low 2 (some (.int))) { frames := 0, cells := 0, slots := 0, locals := 0 } (va_Pc [.int v, .int (nI q)] (fw_Pre G F sz)) (va_Qi (fun r F1 => F1 = F ∧ (fun r => ∃ j, j < q ∧ r = nI j) r) (fw_B G (fw_W G F sz)) (fw_W G F sz)) 0 0 (fw_W G F sz) := by
  refine fw_met (lv := [(0, .int v), (1, .int (nI q))]) (by decide +kernel) (Nat.le_of_ble_eq_true rfl) rfl ?_
  intro A hA p e s m below meth c ls hx hb hml hown hT hr hlk hin hz hsz hw hAn hl
  rw [← hA]
  have hown : s.vm.findClass RL = some m.cls := hown
  have C : CallFix p m c cL_low 2 s _ fw_tb RL := ⟨hx, hb, hml, hown, hT⟩
  refine lv_iload_n hx hb dL_low_0 rfl (lv_at hl 0 rfl) ?_
  refine lv_ldc (v := 2147483647) hx hb hown (hT _ wd_604) dL_low_1 ?_
  refine lv_iand hx hb dL_low_3 ?_
  obtain ⟨a, ha, ea⟩ := pk_andE v (m := 2147483647) 31 (by decide)
  refine fw_top (x' := (nI a)) (ea) ?_
  refine lv_iload_n hx hb dL_low_4 rfl (lv_at hl 1 rfl) ?_
  refine lv_irem hx hb dL_low_5 (nI_ne0 (by omega) (by omega)) ?_
  refine fw_top (x' := (nI (a % q))) (pk_rem ha hq0 hq) ?_
  exact fw_iret hx hb hr hlk (Nat.le_of_ble_eq_true rfl) (Nat.le_of_ble_eq_true rfl) hw dL_low_6 (⟨rfl, ⟨_, Nat.mod_lt _ hq0, rfl⟩⟩)
set_option maxHeartbeats 4000000 in
set_option maxRecDepth 100000 in
theorem c_L_cell (l : Launch) (G : fw_G) (F : fw_F) (sz : Nat) (b L k : Nat) (xs : Nat → Int32) (hL : L ≤ 260) (hk : k < 1000) : Met l yL_cell (fw_ws yL_cell cL_cell 2 (some (.int))) { frames := 0, cells := 0, slots := 0, locals := 0 } (va_Pc [.ref b, .int (nI k)] (fw_PreC G F sz b L xs)) (va_Qi (fun r F1 => F1 = F ∧ (fun r => True) r) (fw_B G (fw_W G F sz)) (fw_W G F sz)) 0 0 (fw_W G F sz) := by
  refine fw_metC (lv := [(0, .ref b), (1, .int (nI k))]) (by decide +kernel) (Nat.le_of_ble_eq_true rfl) rfl ?_
  intro A hA p e s m below meth c ls hx hb hml hown hT hr hlk hX9 hbl hbA hz hsz hw hAn hl
  rw [← hA]
  have hown : s.vm.findClass RL = some m.cls := hown
  have C : CallFix p m c cL_cell 2 s _ fw_tb RL := ⟨hx, hb, hml, hown, hT⟩
  refine lv_iload_n hx hb dL_cell_0 rfl (lv_at hl 1 rfl) ?_
  refine lv_aload_n hx hb dL_cell_1 rfl (lv_at hl 0 rfl) ?_
  refine va_slen hx hb hX9 hbl hbA hw.2.1 dL_cell_2 ?_
  refine lv_icmp_ge (tgt := 12) hx hb dL_cell_3 (by decide) (fun d => ?_) (fun d => ?_)
  · have d := (nI_leI (a := L) (b := k) (by omega) (by omega)).mp d
    refine lv_sipush (v := (nI 7919)) hx hb dL_cell_12 (by decide) ?_
    refine lv_iload_n hx hb dL_cell_15 rfl (lv_at hl 1 rfl) ?_
    refine lv_iconst (v := (nI 3)) hx hb dL_cell_16 (by decide) ?_
    refine lv_iadd hx hb dL_cell_17 ?_
    refine fw_top (nI_add _ _) ?_
    refine lv_imul hx hb dL_cell_18 ?_
    refine fw_top (pk_mul _ _) ?_
    refine lv_iload_n hx hb dL_cell_19 rfl (lv_at hl 1 rfl) ?_
    refine lv_bipush (v := (nI 11)) hx hb dL_cell_20 (by decide) ?_
    refine lv_iadd hx hb dL_cell_22 ?_
    refine fw_top (nI_add _ _) ?_
    refine lv_imul hx hb dL_cell_23 ?_
    refine fw_top (pk_mul _ _) ?_
    exact fw_iret hx hb hr hlk (Nat.le_of_ble_eq_true rfl) (Nat.le_of_ble_eq_true rfl) hw dL_cell_24 (⟨rfl, trivial⟩)
  · have d : ¬ L ≤ k := fun h9 => d ((nI_leI (a := L) (b := k) (by omega) (by omega)).mpr h9)
    refine lv_aload_n hx hb dL_cell_6 rfl (lv_at hl 0 rfl) ?_
    refine lv_iload_n hx hb dL_cell_7 rfl (lv_at hl 1 rfl) ?_
    refine va_sld hx hb hX9 hbl hbA hw.2.1 (vp_in_nI (show k < L by omega) (by omega)) dL_cell_8 ?_
    refine lv_goto (tgt := 24) hx hb dL_cell_9 (by decide) ?_
    exact fw_iret hx hb hr hlk (Nat.le_of_ble_eq_true rfl) (Nat.le_of_ble_eq_true rfl) hw dL_cell_24 (⟨rfl, trivial⟩)
