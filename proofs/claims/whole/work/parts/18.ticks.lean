/-! The reference's methods: ticks. -/
theorem va_up_same {α : Type} {f : Nat → α} {k : Nat} {v : α} (h : f k = v) : va_up f k v = f := by
  funext j
  by_cases e : j = k
  · rw [e, va_up_self, h]
  · rw [va_up_ne f v e]
theorem rf_left_cong {f g : mm_A} {o : Int32} (h1 : f 17 = g 17) (h2 : f 20 = g 20) : ∀ n, rf_left f o n = rf_left g o n
  | 0 => rfl
  | n + 1 => by rw [rf_left_s, rf_left_s, rf_left_cong h1 h2 n, h1, h2]
set_option maxHeartbeats 4000000 in
set_option maxRecDepth 100000 in
theorem c_X9_tick (l : Launch) (G : fw_G) (F : fw_F) (sz y : Nat) (ad : Nat → Nat) (sc : mm_S) (f : mm_A) (nJ nO : Nat) (hW : mm_W G F y ad sc f) (e16 : sc 16 = nI nJ) (hJ : nJ ≤ 96) (hO : nO ≤ 12) (hj : rf_jok f nJ nO) : mm_Ci l G F sz y ad yX9_tick cX9_tick 4 (.int) { frames := 3, cells := 0, slots := 0, locals := 71 } [] (fun r sc1 f1 => sc1 = va_up sc 21 (sc 21 + 1) ∧ f1 = rf_tickf nJ (sc 21) f ∧ r = nI (rf_tickn nJ (sc 21) f)) := by
  refine fw_met (lv := [(0, .ref y)]) (by decide +kernel) (Nat.le_of_ble_eq_true rfl) rfl ?_
  intro A hA p e s m below meth c ls hx hb hml hown hT hr hlk hin hz hsz hw hAn hl
  rw [← hA]
  have hown : s.vm.findClass RX9 = some m.cls := hown
  have C : CallFix p m c cX9_tick 4 s _ fw_tb RX9 := ⟨hx, hb, hml, hown, hT⟩
  have hm : mm_M G A s F y ad sc f F s.heap [] := ⟨hw, hW, mm_keep.rf⟩
  refine lv_iconst (v := (nI 0)) hx hb dX9_tick_0 (by decide) ?_
  refine lv_istore_n (lv' := [(1, .int (nI 0)), (0, .ref y)]) hx hb dX9_tick_1 rfl hl (by decide) rfl (fun ls hl => ?_)
  refine lv_aload_n hx hb dX9_tick_2 rfl (lv_at hl 1 rfl) ?_
  refine lv_dup hx hb dX9_tick_3 rfl ?_
  refine mm_get hx hb hT hown hz hm 21 (by decide) wd_756 rfl (v := .int (sc 21)) rfl dX9_tick_4 ?_
  refine lv_iconst (v := (nI 1)) hx hb dX9_tick_7 (by decide) ?_
  refine lv_iadd hx hb dX9_tick_8 ?_
  refine fw_top (x' := (sc 21 + 1)) (rfl) ?_
  refine mm_put hx hb hT hown hz hm 21 (by decide) wd_756 dX9_tick_9 (fun F1 H locs hm => ?_)
  refine lv_iconst (v := (nI 0)) hx hb dX9_tick_12 (by decide) ?_
  refine lv_istore_n (lv' := [(2, .int (nI 0)), (1, .int (nI 0)), (0, .ref y)]) hx hb dX9_tick_13 rfl hl (by decide) rfl (fun ls hl => ?_)
  suffices hlp : ∀ (d k : Nat), k + d = 3 →  ∀ (F1 : fw_F) (H : Heap) (locs : List Loc) (ls : Array Slot), mm_M G A s F y ad (va_up sc 21 (sc 21 + 1)) (rf_give f nJ k) F1 H locs → lv_has ls 4 [(2, .int (nI k)), (1, .int (nI 0)), (0, .ref y)] → W p l e { frames := 3, cells := 0, slots := 0, locals := 71 } s m ([.ref y] : List Value).toArray below meth c H locs 0 0 (MQ below (va_Qi (mm_post G y ad F (fun r sc1 f1 => sc1 = va_up sc 21 (sc 21 + 1) ∧ f1 = rf_tickf nJ (sc 21) f ∧ r = nI (rf_tickn nJ (sc 21) f))) (fw_B G A) A) ([.ref y] : List Value).toArray s 0 0 A) (F0 m 14 ls []) by
    exact hlp 3 0  (Nat.zero_add _)  _ _ _ _ hm (lv_sub hl [0, 1, 2] rfl)
  intro d
  induction d with
  | succ d ih =>
    intro k  hk  F1 H locs ls hm hl
    have hk3 : k < 3 := by omega
    refine lv_iload_n hx hb dX9_tick_14 rfl (lv_at hl 0 rfl) ?_
    refine lv_iconst (v := (nI 3)) hx hb dX9_tick_15 (by decide) ?_
    refine lv_icmp_ge (tgt := 40) hx hb dX9_tick_16 (by decide) (fun c0 => ?_) (fun c0 => ?_)
    · have c0 := (nI_leI (a := 3) (b := k) (by omega) (by omega)).mp c0
      omega
    · have c0 : ¬ 3 ≤ k := fun h9 => c0 ((nI_leI (a := 3) (b := k) (by omega) (by omega)).mpr h9)
      refine lv_aload_n hx hb dX9_tick_19 rfl (lv_at hl 2 rfl) ?_
      refine mm_get hx hb hT hown hz hm 23 (by decide) wd_758 rfl (v := .ref (ad 23)) rfl dX9_tick_20 ?_
      refine lv_iload_n hx hb dX9_tick_23 rfl (lv_at hl 0 rfl) ?_
      refine mm_ald hx hb hz hm 23 (k) (by decide) rfl (show k < 3 by omega) dX9_tick_24 ?_
      refine lv_iconst (v := (-1)) hx hb dX9_tick_25 (by decide) ?_
      refine lv_icmp_ne (tgt := 34) hx hb dX9_tick_26 (by decide) (fun c => ?_) (fun c => ?_)
      · rw [show rf_give f nJ k = rf_give f nJ (k + 1) by rw [rf_give_s, if_neg c]] at hm
        refine lv_iinc (v := (nI (k + 1))) (lv' := [(2, .int (nI (k + 1))), (1, .int (nI 0)), (0, .ref y)]) hx hb dX9_tick_34 hl (k := 0) rfl (nI_1 _) (by decide) rfl (fun ls hl => ?_)
        refine lv_goto (tgt := 14) hx hb dX9_tick_37 (by decide) ?_
        exact ih (k + 1)  (by omega)  _ _ _ _ hm (lv_sub hl [0, 1, 2] rfl)
      · refine lv_aload_n hx hb dX9_tick_29 rfl (lv_at hl 2 rfl) ?_
        refine lv_iload_n hx hb dX9_tick_30 rfl (lv_at hl 0 rfl) ?_
        refine mm_callv (As := [.int (nI k)]) (rest := []) C hz hm (c_X9_takes l G _ _ y ad _ _ nJ k hm.2.1 e16 hJ hk3) wd_893 yVX9_takes ⟨Nat.le_of_ble_eq_true rfl, Nat.le_of_ble_eq_true rfl⟩ rfl hl.1 rfl (Nat.le_of_ble_eq_true rfl) dX9_tick_31 ⟨Nat.le_of_ble_eq_true rfl, Nat.le_of_ble_eq_true rfl⟩ (fun sc1 f1 F1 H locs hm hp => ?_)
        refine W.widen (k := 0) (n := 0) (Nat.le_of_ble_eq_true rfl) (Nat.le_of_ble_eq_true rfl) ?_
        obtain ⟨h7, h8⟩ := hp
        rw [h7, h8, show rf_takes (rf_give f nJ k) nJ k = rf_give f nJ (k + 1) by rw [rf_give_s, if_pos c]] at hm
        refine lv_iinc (v := (nI (k + 1))) (lv' := [(2, .int (nI (k + 1))), (1, .int (nI 0)), (0, .ref y)]) hx hb dX9_tick_34 hl (k := 0) rfl (nI_1 _) (by decide) rfl (fun ls hl => ?_)
        refine lv_goto (tgt := 14) hx hb dX9_tick_37 (by decide) ?_
        exact ih (k + 1)  (by omega)  _ _ _ _ hm (lv_sub hl [0, 1, 2] rfl)
  | zero =>
    intro k  hk  F1 H locs ls hm hl
    obtain rfl : k = 3 := by omega
    refine lv_iload_n hx hb dX9_tick_14 rfl (lv_at hl 0 rfl) ?_
    refine lv_iconst (v := (nI 3)) hx hb dX9_tick_15 (by decide) ?_
    refine lv_icmp_ge (tgt := 40) hx hb dX9_tick_16 (by decide) (fun cx => ?_) (fun cx => absurd cx (by decide))
    refine lv_iconst (v := (nI 0)) hx hb dX9_tick_40 (by decide) ?_
    refine lv_istore_n (lv' := [(2, .int (nI 0)), (1, .int (nI 0)), (0, .ref y)]) hx hb dX9_tick_41 rfl hl (by decide) rfl (fun ls hl => ?_)
    have hjg : rf_jok (rf_give f nJ 3) nJ nO := rf_jok_give hJ hj 3
    clear hk
    suffices hlp : ∀ (d k : Nat), k + d = 3 →  ∀ (F1 : fw_F) (H : Heap) (locs : List Loc) (ls : Array Slot), mm_M G A s F y ad (va_up sc 21 (sc 21 + 1)) (rf_work nJ (sc 21 + 1) (rf_give f nJ 3) k) F1 H locs → lv_has ls 4 [(2, .int (nI k)), (1, .int (nI (rf_cnt nJ (sc 21 + 1) (rf_give f nJ 3) k))), (0, .ref y)] → W p l e { frames := 3, cells := 0, slots := 0, locals := 71 } s m ([.ref y] : List Value).toArray below meth c H locs 0 0 (MQ below (va_Qi (mm_post G y ad F (fun r sc1 f1 => sc1 = va_up sc 21 (sc 21 + 1) ∧ f1 = rf_tickf nJ (sc 21) f ∧ r = nI (rf_tickn nJ (sc 21) f))) (fw_B G A) A) ([.ref y] : List Value).toArray s 0 0 A) (F0 m 42 ls []) by
      exact hlp 3 0  (Nat.zero_add _)  _ _ _ _ hm (lv_sub hl [0, 1, 2] rfl)
    intro d
    induction d with
    | zero =>
      intro k  hk  F1 H locs ls hm hl
      obtain rfl : k = 3 := by omega
      refine lv_iload_n hx hb dX9_tick_42 rfl (lv_at hl 0 rfl) ?_
      refine lv_iconst (v := (nI 3)) hx hb dX9_tick_43 (by decide) ?_
      refine lv_icmp_ge (tgt := 139) hx hb dX9_tick_44 (by decide) (fun cx => ?_) (fun cx => absurd cx (by decide))
      refine lv_iload_n hx hb dX9_tick_139 rfl (lv_at hl 1 rfl) ?_
      exact mm_iret hx hb hr hlk (Nat.le_of_ble_eq_true rfl) (Nat.le_of_ble_eq_true rfl) hm dX9_tick_140 (⟨rfl, rfl, rfl⟩)
    | succ d ih =>
      intro k  hk  F1 H locs ls hm hl
      have hk3 : k < 3 := by omega
      generalize hWd : rf_work nJ (sc 21 + 1) (rf_give f nJ 3) k = X at hm
      have hjW : rf_jok X nJ nO := hWd ▸ rf_jok_work hjg k
      refine lv_iload_n hx hb dX9_tick_42 rfl (lv_at hl 0 rfl) ?_
      refine lv_iconst (v := (nI 3)) hx hb dX9_tick_43 (by decide) ?_
      refine lv_icmp_ge (tgt := 139) hx hb dX9_tick_44 (by decide) (fun c0 => ?_) (fun c0 => ?_)
      · have c0 := (nI_leI (a := 3) (b := k) (by omega) (by omega)).mp c0
        omega
      · have c0 : ¬ 3 ≤ k := fun h9 => c0 ((nI_leI (a := 3) (b := k) (by omega) (by omega)).mpr h9)
        refine lv_aload_n hx hb dX9_tick_47 rfl (lv_at hl 2 rfl) ?_
        refine mm_get hx hb hT hown hz hm 23 (by decide) wd_758 rfl (v := .ref (ad 23)) rfl dX9_tick_48 ?_
        refine lv_iload_n hx hb dX9_tick_51 rfl (lv_at hl 0 rfl) ?_
        refine mm_ald hx hb hz hm 23 (k) (by decide) rfl (show k < 3 by omega) dX9_tick_52 ?_
        refine lv_iconst (v := (-1)) hx hb dX9_tick_53 (by decide) ?_
        refine lv_icmp_eq (tgt := 133) hx hb dX9_tick_54 (by decide) (fun c => ?_) (fun c => ?_)
        · have e9 : X = rf_work nJ (sc 21 + 1) (rf_give f nJ 3) (k + 1) := by
            rw [rf_work_s, hWd]
            rw [rf_wk, if_pos c]
          have hm := Eq.mp (congrArg (fun z => mm_M G A s F y ad (va_up sc 21 (sc 21 + 1)) z F1 H locs) e9) hm
          have c9 : nI (rf_cnt nJ (sc 21 + 1) (rf_give f nJ 3) k) = nI (rf_cnt nJ (sc 21 + 1) (rf_give f nJ 3) (k + 1)) := by rw [rf_cnt_s, hWd, rf_wc, if_pos c, Nat.add_zero]
          rw [c9] at hl
          refine lv_iinc (v := (nI (k + 1))) (lv' := [(2, .int (nI (k + 1))), (1, .int (nI (rf_cnt nJ (sc 21 + 1) (rf_give f nJ 3) (k + 1)))), (0, .ref y)]) hx hb dX9_tick_133 hl (k := 0) rfl (nI_1 _) (by decide) rfl (fun ls hl => ?_)
          refine lv_goto (tgt := 42) hx hb dX9_tick_136 (by decide) ?_
          exact ih (k + 1)  (by omega)  _ _ _ _ hm (lv_sub hl [0, 1, 2] rfl)
        · refine lv_aload_n hx hb dX9_tick_57 rfl (lv_at hl 2 rfl) ?_
          refine mm_get hx hb hT hown hz hm 24 (by decide) wd_759 rfl (v := .ref (ad 24)) rfl dX9_tick_58 ?_
          refine lv_iload_n hx hb dX9_tick_61 rfl (lv_at hl 0 rfl) ?_
          refine lv_dup2_11 hx hb dX9_tick_62 rfl rfl ?_
          refine mm_ald hx hb hz hm 24 (k) (by decide) rfl (show k < 3 by omega) dX9_tick_63 ?_
          refine lv_iconst (v := (nI 1)) hx hb dX9_tick_64 (by decide) ?_
          refine lv_isub hx hb dX9_tick_65 ?_
          refine mm_ast hx hb hz hm 24 (k) (by decide) rfl (show k < 3 by omega) dX9_tick_66 (fun F1 H locs hm => ?_)
          refine lv_aload_n hx hb dX9_tick_67 rfl (lv_at hl 2 rfl) ?_
          refine mm_get hx hb hT hown hz hm 24 (by decide) wd_759 rfl (v := .ref (ad 24)) rfl dX9_tick_68 ?_
          refine lv_iload_n hx hb dX9_tick_71 rfl (lv_at hl 0 rfl) ?_
          refine mm_ald hx hb hz hm 24 (k) (by decide) rfl (show k < 3 by omega) dX9_tick_72 ?_
          refine fw_top (x' := (X 24 k - 1)) (show upd (X 24) k (X 24 k - nI 1) k = _ from pk_us) ?_
          refine lv_if_ne (tgt := 133) hx hb dX9_tick_73 (by decide) (fun d => ?_) (fun d => ?_)
          · have e9 : va_up X 24 (upd (X 24) k (X 24 k - nI 1)) = rf_work nJ (sc 21 + 1) (rf_give f nJ 3) (k + 1) := by
              rw [rf_work_s, hWd]
              rw [rf_wk, if_neg c, if_neg d]
              rfl
            have hm := Eq.mp (congrArg (fun z => mm_M G A s F y ad (va_up sc 21 (sc 21 + 1)) z F1 H locs) e9) hm
            have c9 : nI (rf_cnt nJ (sc 21 + 1) (rf_give f nJ 3) k) = nI (rf_cnt nJ (sc 21 + 1) (rf_give f nJ 3) (k + 1)) := by rw [rf_cnt_s, hWd, rf_wc, if_neg c, if_neg d, Nat.add_zero]
            rw [c9] at hl
            refine lv_iinc (v := (nI (k + 1))) (lv' := [(2, .int (nI (k + 1))), (1, .int (nI (rf_cnt nJ (sc 21 + 1) (rf_give f nJ 3) (k + 1)))), (0, .ref y)]) hx hb dX9_tick_133 hl (k := 0) rfl (nI_1 _) (by decide) rfl (fun ls hl => ?_)
            refine lv_goto (tgt := 42) hx hb dX9_tick_136 (by decide) ?_
            exact ih (k + 1)  (by omega)  _ _ _ _ hm (lv_sub hl [0, 1, 2] rfl)
          · obtain ⟨i, hi, hi9⟩ := (hjW.1 k hk3).resolve_left c
            obtain ⟨o, ho, ho9⟩ := hjW.2 i hi
            refine lv_aload_n hx hb dX9_tick_76 rfl (lv_at hl 2 rfl) ?_
            refine mm_get hx hb hT hown hz hm 23 (by decide) wd_758 rfl (v := .ref (ad 23)) rfl dX9_tick_77 ?_
            refine lv_iload_n hx hb dX9_tick_80 rfl (lv_at hl 0 rfl) ?_
            refine mm_ald hx hb hz hm 23 (k) (by decide) rfl (show k < 3 by omega) dX9_tick_81 ?_
            refine fw_top (x' := (nI i)) (hi9) ?_
            refine lv_istore_n (lv' := [(3, .int (nI i)), (2, .int (nI k)), (1, .int (nI (rf_cnt nJ (sc 21 + 1) (rf_give f nJ 3) k))), (0, .ref y)]) hx hb dX9_tick_82 rfl hl (by decide) rfl (fun ls hl => ?_)
            refine lv_aload_n hx hb dX9_tick_83 rfl (lv_at hl 3 rfl) ?_
            refine mm_get hx hb hT hown hz hm 20 (by decide) wd_755 rfl (v := .ref (ad 20)) rfl dX9_tick_84 ?_
            refine lv_iload_n hx hb dX9_tick_87 rfl (lv_at hl 0 rfl) ?_
            refine lv_bipush (v := (-2)) hx hb dX9_tick_88 (by decide) ?_
            refine mm_ast hx hb hz hm 20 (i) (by decide) rfl (show i < 96 by omega) dX9_tick_90 (fun F1 H locs hm => ?_)
            refine lv_aload_n hx hb dX9_tick_91 rfl (lv_at hl 3 rfl) ?_
            refine mm_get hx hb hT hown hz hm 23 (by decide) wd_758 rfl (v := .ref (ad 23)) rfl dX9_tick_92 ?_
            refine lv_iload_n hx hb dX9_tick_95 rfl (lv_at hl 1 rfl) ?_
            refine lv_iconst (v := (-1)) hx hb dX9_tick_96 (by decide) ?_
            refine mm_ast hx hb hz hm 23 (k) (by decide) rfl (show k < 3 by omega) dX9_tick_97 (fun F1 H locs hm => ?_)
            refine lv_iinc (v := (nI (rf_cnt nJ (sc 21 + 1) (rf_give f nJ 3) k + 1))) (lv' := [(1, .int (nI (rf_cnt nJ (sc 21 + 1) (rf_give f nJ 3) k + 1))), (3, .int (nI i)), (2, .int (nI k)), (0, .ref y)]) hx hb dX9_tick_98 hl (k := 2) rfl (nI_1 _) (by decide) rfl (fun ls hl => ?_)
            refine lv_aload_n hx hb dX9_tick_101 rfl (lv_at hl 3 rfl) ?_
            refine mm_get hx hb hT hown hz hm 13 (by decide) wd_748 rfl (v := .ref (ad 13)) rfl dX9_tick_102 ?_
            refine lv_aload_n hx hb dX9_tick_105 rfl (lv_at hl 3 rfl) ?_
            refine mm_get hx hb hT hown hz hm 17 (by decide) wd_752 rfl (v := .ref (ad 17)) rfl dX9_tick_106 ?_
            refine lv_iload_n hx hb dX9_tick_109 rfl (lv_at hl 1 rfl) ?_
            refine mm_ald hx hb hz hm 17 (i) (by decide) rfl (show i < 96 by omega) dX9_tick_110 ?_
            refine fw_top (x' := (nI o)) (ho9) ?_
            refine lv_aload_n hx hb dX9_tick_111 rfl (lv_at hl 3 rfl) ?_
            refine lv_aload_n hx hb dX9_tick_112 rfl (lv_at hl 3 rfl) ?_
            refine mm_get hx hb hT hown hz hm 17 (by decide) wd_752 rfl (v := .ref (ad 17)) rfl dX9_tick_113 ?_
            refine lv_iload_n hx hb dX9_tick_116 rfl (lv_at hl 1 rfl) ?_
            refine mm_ald hx hb hz hm 17 (i) (by decide) rfl (show i < 96 by omega) dX9_tick_117 ?_
            refine fw_top (x' := (nI o)) (ho9) ?_
            refine mm_calli (As := [.int (nI o)]) (rest := [.int (nI o), .ref (ad 13)]) C hz hm (c_X9_toCut l G _ _ y ad _ _ nJ (nI o) hm.2.1 e16 hJ) wd_905 yVX9_toCut ⟨Nat.le_of_ble_eq_true rfl, Nat.le_of_ble_eq_true rfl⟩ rfl hl.1 rfl (Nat.le_of_ble_eq_true rfl) dX9_tick_118 ⟨Nat.le_of_ble_eq_true rfl, Nat.le_of_ble_eq_true rfl⟩ (fun r sc1 f1 F1 H locs hm hp => ?_)
            refine W.widen (k := 0) (n := 0) (Nat.le_of_ble_eq_true rfl) (Nat.le_of_ble_eq_true rfl) ?_
            obtain ⟨h7, h8, h9⟩ := hp
            rw [h7, h8] at hm
            subst h9
            refine fw_top (x' := nI (rf_left (va_up (rf_less X k) 20 (upd (rf_less X k 20) i (-2))) (nI o) nJ)) (congrArg nI (rf_left_cong (f := va_up (va_up (rf_less X k) 20 (upd (rf_less X k 20) i (-2))) 23 (upd (X 23) k (-1))) (g := va_up (rf_less X k) 20 (upd (rf_less X k 20) i (-2))) rfl rfl nJ)) ?_
            have hll := rf_left_le (va_up (rf_less X k) 20 (upd (rf_less X k 20) i (-2))) (nI o) nJ
            refine lv_if_ne (tgt := 131) hx hb dX9_tick_121 (by decide) (fun d3 => ?_) (fun d3 => ?_)
            · have d3 : ¬ (rf_left (va_up (rf_less X k) 20 (upd (rf_less X k 20) i (-2))) (nI o) nJ) = 0 := fun h9 => d3 ((nI_eq (a := rf_left (va_up (rf_less X k) 20 (upd (rf_less X k 20) i (-2))) (nI o) nJ) (b := 0) (by omega) (by omega)).mpr h9)
              refine lv_iconst (v := (-1)) hx hb dX9_tick_131 (by decide) ?_
              refine mm_ast hx hb hz hm 13 (o) (by decide) rfl (show o < 12 by omega) dX9_tick_132 (fun F1 H locs hm => ?_)
              have e9 : va_up (va_up (va_up (rf_less X k) 20 (upd (rf_less X k 20) i (-2))) 23 (upd (X 23) k (-1))) 13 (upd (X 13) o (-1)) = rf_work nJ (sc 21 + 1) (rf_give f nJ 3) (k + 1) := by
                rw [rf_work_s, hWd]
                rw [rf_wk, if_neg c, if_pos d, hi9, rf_n_nI (by omega), rf_done, show rf_less X k 17 i = nI o from ho9, if_neg d3, rf_n_nI (by omega)]
                rfl
              have hm := Eq.mp (congrArg (fun z => mm_M G A s F y ad (va_up sc 21 (sc 21 + 1)) z F1 H locs) e9) hm
              have c9 : nI (rf_cnt nJ (sc 21 + 1) (rf_give f nJ 3) k + 1) = nI (rf_cnt nJ (sc 21 + 1) (rf_give f nJ 3) (k + 1)) := by rw [rf_cnt_s, hWd, rf_wc, if_neg c, if_pos d]
              rw [c9] at hl
              refine lv_iinc (v := (nI (k + 1))) (lv' := [(2, .int (nI (k + 1))), (1, .int (nI (rf_cnt nJ (sc 21 + 1) (rf_give f nJ 3) (k + 1)))), (3, .int (nI i)), (0, .ref y)]) hx hb dX9_tick_133 hl (k := 2) rfl (nI_1 _) (by decide) rfl (fun ls hl => ?_)
              refine lv_goto (tgt := 42) hx hb dX9_tick_136 (by decide) ?_
              exact ih (k + 1)  (by omega)  _ _ _ _ hm (lv_sub hl [0, 1, 3] rfl)
            · have d3 := (nI_eq (a := rf_left (va_up (rf_less X k) 20 (upd (rf_less X k 20) i (-2))) (nI o) nJ) (b := 0) (by omega) (by omega)).mp d3
              refine lv_aload_n hx hb dX9_tick_124 rfl (lv_at hl 3 rfl) ?_
              refine mm_get hx hb hT hown hz hm 21 (by decide) wd_756 rfl (v := .int ((va_up sc 21 (sc 21 + 1)) 21)) rfl dX9_tick_125 ?_
              refine lv_goto (tgt := 132) hx hb dX9_tick_128 (by decide) ?_
              refine mm_ast hx hb hz hm 13 (o) (by decide) rfl (show o < 12 by omega) dX9_tick_132 (fun F1 H locs hm => ?_)
              have e9 : va_up (va_up (va_up (rf_less X k) 20 (upd (rf_less X k 20) i (-2))) 23 (upd (X 23) k (-1))) 13 (upd (X 13) o (sc 21 + 1)) = rf_work nJ (sc 21 + 1) (rf_give f nJ 3) (k + 1) := by
                rw [rf_work_s, hWd]
                rw [rf_wk, if_neg c, if_pos d, hi9, rf_n_nI (by omega), rf_done, show rf_less X k 17 i = nI o from ho9, if_pos d3, rf_n_nI (by omega)]
                rfl
              have hm := Eq.mp (congrArg (fun z => mm_M G A s F y ad (va_up sc 21 (sc 21 + 1)) z F1 H locs) e9) hm
              have c9 : nI (rf_cnt nJ (sc 21 + 1) (rf_give f nJ 3) k + 1) = nI (rf_cnt nJ (sc 21 + 1) (rf_give f nJ 3) (k + 1)) := by rw [rf_cnt_s, hWd, rf_wc, if_neg c, if_pos d]
              rw [c9] at hl
              refine lv_iinc (v := (nI (k + 1))) (lv' := [(2, .int (nI (k + 1))), (1, .int (nI (rf_cnt nJ (sc 21 + 1) (rf_give f nJ 3) (k + 1)))), (3, .int (nI i)), (0, .ref y)]) hx hb dX9_tick_133 hl (k := 2) rfl (nI_1 _) (by decide) rfl (fun ls hl => ?_)
              refine lv_goto (tgt := 42) hx hb dX9_tick_136 (by decide) ?_
              exact ih (k + 1)  (by omega)  _ _ _ _ hm (lv_sub hl [0, 1, 3] rfl)
set_option maxHeartbeats 4000000 in
set_option maxRecDepth 100000 in
theorem c_X9_pass (l : Launch) (G : fw_G) (F : fw_F) (sz y : Nat) (ad : Nat → Nat) (sc : mm_S) (f : mm_A) (nJ nO : Nat) (q : Int32) (hW : mm_W G F y ad sc f) (e16 : sc 16 = nI nJ) (hJ : nJ ≤ 96) (hO : nO ≤ 12) (hj : rf_jok f nJ nO) : mm_Ci l G F sz y ad yX9_pass cX9_pass 4 (.int) { frames := 4, cells := 0, slots := 0, locals := 94 } [.int q] (fun r sc1 f1 => (rf_in q (nI 1) (nI 200) = false → f1 = f ∧ sc1 = va_up sc 0 (nI 1)) ∧ (∀ j, q = nI j → 1 ≤ j → j ≤ 200 → sc1 = va_up (va_up sc 0 (nI 0)) 21 (sc 21 + nI j) ∧ f1 = rf_passf nJ (sc 21) f j ∧ r = nI (rf_passn nJ (sc 21) f j))) := by
  refine fw_met (lv := [(0, .ref y), (1, .int q)]) (by decide +kernel) (Nat.le_of_ble_eq_true rfl) rfl ?_
  intro A hA p e s m below meth c ls hx hb hml hown hT hr hlk hin hz hsz hw hAn hl
  rw [← hA]
  have hown : s.vm.findClass RX9 = some m.cls := hown
  have C : CallFix p m c cX9_pass 4 s _ fw_tb RX9 := ⟨hx, hb, hml, hown, hT⟩
  have hm : mm_M G A s F y ad sc f F s.heap [] := ⟨hw, hW, mm_keep.rf⟩
  refine lv_aload_n hx hb dX9_pass_0 rfl (lv_at hl 0 rfl) ?_
  refine lv_iload_n hx hb dX9_pass_1 rfl (lv_at hl 1 rfl) ?_
  refine lv_iconst (v := (nI 1)) hx hb dX9_pass_2 (by decide) ?_
  refine lv_sipush (v := (nI 200)) hx hb dX9_pass_3 (by decide) ?_
  refine mm_calls (As := [.int q, .int (nI 1), .int (nI 200)]) (rest := [.ref y]) C hz hm (c_X9_in l G _ _ q (nI 1) (nI 200)) wd_821 ySX9_in ⟨Nat.le_of_ble_eq_true rfl, Nat.le_of_ble_eq_true rfl⟩ rfl hl.1 rfl (Nat.le_of_ble_eq_true rfl) dX9_pass_6 ⟨Nat.le_of_ble_eq_true rfl, Nat.le_of_ble_eq_true rfl⟩ (fun r H locs hm hp => ?_)
  refine W.widen (k := 0) (n := 0) (Nat.le_of_ble_eq_true rfl) (Nat.le_of_ble_eq_true rfl) ?_
  subst hp
  refine lv_if_eq (tgt := 16) hx hb dX9_pass_9 (by decide) (fun cq => ?_) (fun cq => ?_)
  · have cq := fw_b0 cq
    refine lv_iconst (v := (nI 1)) hx hb dX9_pass_16 (by decide) ?_
    refine mm_put hx hb hT hown hz hm 0 (by decide) wd_735 dX9_pass_17 (fun F1 H locs hm => ?_)
    refine lv_iconst (v := (nI 0)) hx hb dX9_pass_20 (by decide) ?_
    refine lv_istore_n (lv' := [(2, .int (nI 0)), (0, .ref y), (1, .int q)]) hx hb dX9_pass_21 rfl hl (by decide) rfl (fun ls hl => ?_)
    refine lv_iconst (v := (nI 0)) hx hb dX9_pass_22 (by decide) ?_
    refine lv_istore_n (lv' := [(3, .int (nI 0)), (2, .int (nI 0)), (0, .ref y), (1, .int q)]) hx hb dX9_pass_23 rfl hl (by decide) rfl (fun ls hl => ?_)
    refine lv_iload_n hx hb dX9_pass_24 rfl (lv_at hl 0 rfl) ?_
    refine lv_iload_n hx hb dX9_pass_25 rfl (lv_at hl 3 rfl) ?_
    refine lv_icmp_ge (tgt := 49) hx hb dX9_pass_26 (by decide) (fun d => ?_) (fun d => ?_)
    · refine lv_iload_n hx hb dX9_pass_49 rfl (lv_at hl 1 rfl) ?_
      exact mm_iret hx hb hr hlk (Nat.le_of_ble_eq_true rfl) (Nat.le_of_ble_eq_true rfl) hm dX9_pass_50 (⟨fun _ => ⟨rfl, rfl⟩, fun i h1 h2 h3 => by subst h1; rw [rf_in_t.mpr ⟨nI_le h2 (by omega), nI_le h3 (by decide)⟩] at cq; cases cq⟩)
    · refine lv_aload_n hx hb dX9_pass_29 rfl (lv_at hl 2 rfl) ?_
      refine mm_get hx hb hT hown hz hm 0 (by decide) wd_735 rfl (v := .int (nI 1)) rfl dX9_pass_30 ?_
      refine lv_if_ne (tgt := 49) hx hb dX9_pass_33 (by decide) (fun cx => ?_) (fun cx => absurd cx (by decide))
      refine lv_iload_n hx hb dX9_pass_49 rfl (lv_at hl 1 rfl) ?_
      exact mm_iret hx hb hr hlk (Nat.le_of_ble_eq_true rfl) (Nat.le_of_ble_eq_true rfl) hm dX9_pass_50 (⟨fun _ => ⟨rfl, rfl⟩, fun i h1 h2 h3 => by subst h1; rw [rf_in_t.mpr ⟨nI_le h2 (by omega), nI_le h3 (by decide)⟩] at cq; cases cq⟩)
  · have cq := fw_b1 cq
    obtain ⟨i, hi, rfl⟩ : ∃ i, i ≤ 200 ∧ q = nI i := nI_of2 (M := nI 200) (by decide) (Int32.not_lt.mpr (Int32.le_trans (show (0 : Int32) ≤ nI 1 by decide) (rf_in_t.mp cq).1)) (rf_in_t.mp cq).2
    refine lv_iconst (v := (nI 0)) hx hb dX9_pass_12 (by decide) ?_
    refine lv_goto (tgt := 17) hx hb dX9_pass_13 (by decide) ?_
    refine mm_put hx hb hT hown hz hm 0 (by decide) wd_735 dX9_pass_17 (fun F1 H locs hm => ?_)
    refine lv_iconst (v := (nI 0)) hx hb dX9_pass_20 (by decide) ?_
    refine lv_istore_n (lv' := [(2, .int (nI 0)), (0, .ref y), (1, .int (nI i))]) hx hb dX9_pass_21 rfl hl (by decide) rfl (fun ls hl => ?_)
    refine lv_iconst (v := (nI 0)) hx hb dX9_pass_22 (by decide) ?_
    refine lv_istore_n (lv' := [(3, .int (nI 0)), (2, .int (nI 0)), (0, .ref y), (1, .int (nI i))]) hx hb dX9_pass_23 rfl hl (by decide) rfl (fun ls hl => ?_)
    rw [show va_up sc 0 (nI 0) = va_up (va_up sc 0 (nI 0)) 21 (sc 21 + nI 0) from (va_up_same (f := va_up sc 0 (nI 0)) (k := 21) (v := sc 21 + nI 0) (by show sc 21 = sc 21 + nI 0; rw [show nI 0 = (0 : Int32) from rfl, Int32.add_zero])).symm] at hm
    suffices hlp : ∀ (d k : Nat), k + d = i →  ∀ (F1 : fw_F) (H : Heap) (locs : List Loc) (ls : Array Slot), mm_M G A s F y ad (va_up (va_up sc 0 (nI 0)) 21 (sc 21 + nI k)) (rf_passf nJ (sc 21) f k) F1 H locs → lv_has ls 4 [(3, .int (nI k)), (2, .int (nI (rf_passn nJ (sc 21) f k))), (0, .ref y), (1, .int (nI i))] → W p l e { frames := 4, cells := 0, slots := 0, locals := 94 } s m ([.ref y, .int (nI i)] : List Value).toArray below meth c H locs 0 0 (MQ below (va_Qi (mm_post G y ad F (fun r sc1 f1 => (rf_in (nI i) (nI 1) (nI 200) = false → f1 = f ∧ sc1 = va_up sc 0 (nI 1)) ∧ (∀ j, nI i = nI j → 1 ≤ j → j ≤ 200 → sc1 = va_up (va_up sc 0 (nI 0)) 21 (sc 21 + nI j) ∧ f1 = rf_passf nJ (sc 21) f j ∧ r = nI (rf_passn nJ (sc 21) f j)))) (fw_B G A) A) ([.ref y, .int (nI i)] : List Value).toArray s 0 0 A) (F0 m 24 ls []) by
      exact hlp i 0  (Nat.zero_add _)  _ _ _ _ hm (lv_sub hl [0, 1, 2, 3] rfl)
    intro d
    induction d with
    | zero =>
      intro k  hk  F1 H locs ls hm hl
      obtain rfl : k = i := by omega
      refine lv_iload_n hx hb dX9_pass_24 rfl (lv_at hl 0 rfl) ?_
      refine lv_iload_n hx hb dX9_pass_25 rfl (lv_at hl 3 rfl) ?_
      refine lv_icmp_ge (tgt := 49) hx hb dX9_pass_26 (by decide) (fun d => ?_) (fun d => ?_)
      · have d := (nI_leI (a := k) (b := k) (by omega) (by omega)).mp d
        refine lv_iload_n hx hb dX9_pass_49 rfl (lv_at hl 1 rfl) ?_
        exact mm_iret hx hb hr hlk (Nat.le_of_ble_eq_true rfl) (Nat.le_of_ble_eq_true rfl) hm dX9_pass_50 (⟨fun h => (by rw [cq] at h; cases h), fun j h1 h2 h3 => by rw [← nI_j (by omega) (by omega) h1]; exact ⟨rfl, rfl, rfl⟩⟩)
      · have d : ¬ k ≤ k := fun h9 => d ((nI_leI (a := k) (b := k) (by omega) (by omega)).mpr h9)
        omega
    | succ d ih =>
      intro k  hk  F1 H locs ls hm hl
      refine lv_iload_n hx hb dX9_pass_24 rfl (lv_at hl 0 rfl) ?_
      refine lv_iload_n hx hb dX9_pass_25 rfl (lv_at hl 3 rfl) ?_
      refine lv_icmp_ge (tgt := 49) hx hb dX9_pass_26 (by decide) (fun d => ?_) (fun d => ?_)
      · have d := (nI_leI (a := i) (b := k) (by omega) (by omega)).mp d
        omega
      · have d : ¬ i ≤ k := fun h9 => d ((nI_leI (a := i) (b := k) (by omega) (by omega)).mpr h9)
        refine lv_aload_n hx hb dX9_pass_29 rfl (lv_at hl 2 rfl) ?_
        refine mm_get hx hb hT hown hz hm 0 (by decide) wd_735 rfl (v := .int ((va_up (va_up sc 0 (nI 0)) 21 (sc 21 + nI k)) 0)) rfl dX9_pass_30 ?_
        refine fw_top (x' := (nI 0)) (rfl) ?_
        refine lv_if_ne (tgt := 49) hx hb dX9_pass_33 (by decide) (fun cx => absurd cx (by decide)) (fun cx => ?_)
        refine lv_iload_n hx hb dX9_pass_36 rfl (lv_at hl 1 rfl) ?_
        refine lv_aload_n hx hb dX9_pass_37 rfl (lv_at hl 2 rfl) ?_
        refine mm_calli (As := []) (rest := [.int (nI (rf_passn nJ (sc 21) f k))]) C hz hm (c_X9_tick l G _ _ y ad _ _ nJ nO hm.2.1 e16 hJ hO (rf_jok_pass hJ hj k)) wd_889 yVX9_tick ⟨Nat.le_of_ble_eq_true rfl, Nat.le_of_ble_eq_true rfl⟩ rfl hl.1 rfl (Nat.le_of_ble_eq_true rfl) dX9_pass_38 ⟨Nat.le_of_ble_eq_true rfl, Nat.le_of_ble_eq_true rfl⟩ (fun r sc1 f1 F1 H locs hm hp => ?_)
        refine W.widen (k := 0) (n := 0) (Nat.le_of_ble_eq_true rfl) (Nat.le_of_ble_eq_true rfl) ?_
        obtain ⟨h7, h8, h9⟩ := hp
        have h6 : va_up (va_up (va_up sc 0 (nI 0)) 21 (sc 21 + nI k)) 21 ((va_up (va_up sc 0 (nI 0)) 21 (sc 21 + nI k)) 21 + 1) = va_up (va_up sc 0 (nI 0)) 21 (sc 21 + nI (k + 1)) := by
          show va_up (va_up (va_up sc 0 (nI 0)) 21 (sc 21 + nI k)) 21 (sc 21 + nI k + 1) = _
          rw [bx_uu, Int32.add_assoc, nI_1]
        rw [h7, h8, h6] at hm
        subst h9
        refine lv_iadd hx hb dX9_pass_41 ?_
        refine fw_top (nI_add _ _) ?_
        refine fw_top (x' := (nI (rf_passn nJ (sc 21) f (k + 1)))) (rfl) ?_
        refine lv_istore_n (lv' := [(2, .int (nI (rf_passn nJ (sc 21) f (k + 1)))), (3, .int (nI k)), (0, .ref y), (1, .int (nI i))]) hx hb dX9_pass_42 rfl hl (by decide) rfl (fun ls hl => ?_)
        refine lv_iinc (v := (nI (k + 1))) (lv' := [(3, .int (nI (k + 1))), (2, .int (nI (rf_passn nJ (sc 21) f (k + 1)))), (0, .ref y), (1, .int (nI i))]) hx hb dX9_pass_43 hl (k := 1) rfl (nI_1 _) (by decide) rfl (fun ls hl => ?_)
        refine lv_goto (tgt := 24) hx hb dX9_pass_46 (by decide) ?_
        exact ih (k + 1)  (by omega)  _ _ _ _ hm (lv_sub hl [0, 1, 2, 3] rfl)
