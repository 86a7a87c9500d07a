/-! The reference's methods: tests, least new gears. -/
theorem vp_nar_b (b : Bool) : vp_nar .boolean (fw_b b) = fw_b b := by cases b <;> rfl
def rf_les (f : mm_A) (t k : Nat) : Nat := if rf_st f (12 * t + 3 * k + 1) < rf_st f (12 * t + 3 * k + 2) then rf_st f (12 * t + 3 * k + 1) else rf_st f (12 * t + 3 * k + 2)
def rf_tst (f : mm_A) (o t lh : Nat) : Nat → mm_A
  | 0 => f
  | k + 1 => va_up (va_up (rf_tst f o t lh k) 15 (upd (rf_tst f o t lh k 15) (4 * o + k) (rf_tst f o t lh k 15 (4 * o + k) + nI (lh / rf_st f (12 * t + 3 * k))))) 14 (upd (rf_tst f o t lh k 14) o (fw_b (!(decide (rf_tst f o t lh k 14 o = 0)) || decide (nI (10 * rf_les f t k) < rf_tst f o t lh k 15 (4 * o + k) + nI (lh / rf_st f (12 * t + 3 * k))))))
theorem rf_tst_s (f : mm_A) (o t lh k : Nat) : rf_tst f o t lh (k + 1) = va_up (va_up (rf_tst f o t lh k) 15 (upd (rf_tst f o t lh k 15) (4 * o + k) (rf_tst f o t lh k 15 (4 * o + k) + nI (lh / rf_st f (12 * t + 3 * k))))) 14 (upd (rf_tst f o t lh k 14) o (fw_b (!(decide (rf_tst f o t lh k 14 o = 0)) || decide (nI (10 * rf_les f t k) < rf_tst f o t lh k 15 (4 * o + k) + nI (lh / rf_st f (12 * t + 3 * k)))))) := rfl
theorem rf_tst_9 (f : mm_A) (o t lh : Nat) : ∀ k, rf_tst f o t lh k 9 = f 9 ∧ rf_tst f o t lh k 8 = f 8
  | 0 => ⟨rfl, rfl⟩
  | k + 1 => rf_tst_9 f o t lh k
theorem rf_tst_b (f : mm_A) (o t lh : Nat) (h : f 14 o = 0) : ∀ k, rf_tst f o t lh k 14 o = 0 ∨ rf_tst f o t lh k 14 o = 1
  | 0 => Or.inl h
  | k + 1 => by
    rw [rf_tst_s]
    show upd _ o _ o = 0 ∨ upd _ o _ o = 1
    rw [pk_us]
    exact fw_b01 _
def rf_testf (f : mm_A) (o t lh : Nat) : mm_A := va_up (rf_tst f o t lh (rf_sm f t)) 10 (upd (rf_tst f o t lh (rf_sm f t) 10) t (rf_tst f o t lh (rf_sm f t) 10 t + (if rf_tst f o t lh (rf_sm f t) 14 o = 0 then nI 0 else nI 1)))
def rf_okT (a b : Int32) : Bool := rf_in a (nI 1) (nI 100) && rf_in b (nI 1) (nI 100)
theorem rf_in_n {x : Int32} {n : Nat} (hn : n < 1000) (h : rf_in x (nI 1) (nI n) = true) : ∃ i, 1 ≤ i ∧ i ≤ n ∧ x = nI i := by
  obtain ⟨h1, h2⟩ := rf_in_t.mp h
  obtain ⟨i, hi, rfl⟩ := nI_of (x := x) (Int32.not_lt.mpr (Int32.le_trans (show (0 : Int32) ≤ nI 1 by decide) h1))
  rw [nI_leI (by omega) (by omega)] at h1 h2
  exact ⟨i, h1, h2, rfl⟩
theorem rf_in_of_n {n i : Nat} (hn : n < 1000) (h1 : 1 ≤ i) (h2 : i ≤ n) : rf_in (nI i) (nI 1) (nI n) = true := rf_in_t.mpr ⟨nI_le h1 (by omega), nI_le h2 (by omega)⟩
set_option maxHeartbeats 4000000 in
set_option maxRecDepth 100000 in
theorem c_X9_test (l : Launch) (G : fw_G) (F : fw_F) (sz y : Nat) (ad : Nat → Nat) (sc : mm_S) (f : mm_A) (nO nT : Nat) (o u v : Int32) (hW : mm_W G F y ad sc f) (e11 : sc 11 = nI nO) (hO : nO ≤ 12) (hn : nT ≤ 8) (htok : ∀ j, j < nT → rf_tok f j) (hot : ∀ j, j < nO → f 12 j = nI (rf_ot f j) ∧ rf_ot f j < nT) : mm_Ci l G F sz y ad yX9_test cX9_test 9 (.boolean) { frames := 2, cells := 0, slots := 0, locals := 43 } [.int o, .int u, .int v] (fun r sc1 f1 => (rf_ix o nO = false → f1 = f ∧ sc1 = va_up sc 0 (nI 1)) ∧ (rf_ix o nO = true → rf_okT u v = false → f1 = f ∧ sc1 = va_up sc 0 (nI 2)) ∧ (∀ i, i < nO → o = nI i → rf_okT u v = true → (f 13 i = -1 ∨ ¬ f 14 i = 0) → f1 = f ∧ sc1 = va_up sc 0 (nI 3)) ∧ (∀ i i1 i2, i < nO → o = nI i → rf_okT u v = true → u = nI i1 → v = nI i2 → 1 ≤ i1 → i1 ≤ 100 → 1 ≤ i2 → i2 ≤ 100 → ¬ f 13 i = -1 → f 14 i = 0 → sc1 = va_up sc 0 (nI 0) ∧ f1 = rf_testf f i (rf_ot f i) (i1 * i2) ∧ r = rf_testf f i (rf_ot f i) (i1 * i2) 14 i)) := by
  refine fw_met (lv := [(0, .ref y), (1, .int o), (2, .int u), (3, .int v)]) (by decide +kernel) (Nat.le_of_ble_eq_true rfl) rfl ?_
  intro A hA p e s m below meth c ls hx hb hml hown hT hr hlk hin hz hsz hw hAn hl
  rw [← hA]
  have hown : s.vm.findClass RX9 = some m.cls := hown
  have C : CallFix p m c cX9_test 9 s _ fw_tb RX9 := ⟨hx, hb, hml, hown, hT⟩
  have hm : mm_M G A s F y ad sc f F s.heap [] := ⟨hw, hW, mm_keep.rf⟩
  refine lv_aload_n hx hb dX9_test_0 rfl (lv_at hl 0 rfl) ?_
  refine lv_iload_n hx hb dX9_test_1 rfl (lv_at hl 1 rfl) ?_
  refine mm_calli (As := [.int o]) (rest := []) C hz hm (c_X9_isOrder l G _ _ y ad _ _ nO o hm.2.1 e11) wd_933 yVX9_isOrder ⟨Nat.le_of_ble_eq_true rfl, Nat.le_of_ble_eq_true rfl⟩ rfl hl.1 rfl (Nat.le_of_ble_eq_true rfl) dX9_test_2 ⟨Nat.le_of_ble_eq_true rfl, Nat.le_of_ble_eq_true rfl⟩ (fun r sc1 f1 F1 H locs hm hp => ?_)
  refine W.widen (k := 0) (n := 0) (Nat.le_of_ble_eq_true rfl) (Nat.le_of_ble_eq_true rfl) ?_
  obtain ⟨h7, h8, h9⟩ := hp
  rw [h7, h8] at hm
  subst h9
  refine lv_istore (lv' := [(4, .int (fw_b (rf_ix o nO))), (0, .ref y), (1, .int o), (2, .int u), (3, .int v)]) hx hb dX9_test_5 hl (by decide) rfl (fun ls hl => ?_)
  refine lv_aload_n hx hb dX9_test_7 rfl (lv_at hl 1 rfl) ?_
  refine lv_iload hx hb dX9_test_8 (lv_at hl 0 rfl) ?_
  refine lv_if_ne (tgt := 17) hx hb dX9_test_10 (by decide) (fun h1 => ?_) (fun h1 => ?_)
  · have h1 := fw_b1 h1
    obtain ⟨j, hj, rfl⟩ := rf_ix_t (by omega) h1
    obtain ⟨h2, h3⟩ := hot j hj
    have h4 := htok _ h3
    have h5 := h4.2.2.1
    refine lv_iload_n hx hb dX9_test_17 rfl (lv_at hl 3 rfl) ?_
    refine lv_iconst (v := (nI 1)) hx hb dX9_test_18 (by decide) ?_
    refine lv_bipush (v := (nI 100)) hx hb dX9_test_19 (by decide) ?_
    refine mm_calls (As := [.int u, .int (nI 1), .int (nI 100)]) (rest := [.ref y]) C hz hm (c_X9_in l G _ _ u (nI 1) (nI 100)) wd_821 ySX9_in ⟨Nat.le_of_ble_eq_true rfl, Nat.le_of_ble_eq_true rfl⟩ rfl hl.1 rfl (Nat.le_of_ble_eq_true rfl) dX9_test_21 ⟨Nat.le_of_ble_eq_true rfl, Nat.le_of_ble_eq_true rfl⟩ (fun r H locs hm hp => ?_)
    refine W.widen (k := 0) (n := 0) (Nat.le_of_ble_eq_true rfl) (Nat.le_of_ble_eq_true rfl) ?_
    subst hp
    refine lv_if_eq (tgt := 37) hx hb dX9_test_24 (by decide) (fun h6 => ?_) (fun h6 => ?_)
    · have h6 := fw_b0 h6
      refine lv_iconst (v := (nI 2)) hx hb dX9_test_37 (by decide) ?_
      refine lv_goto (tgt := 65) hx hb dX9_test_38 (by decide) ?_
      refine mm_put hx hb hT hown hz hm 0 (by decide) wd_735 dX9_test_65 (fun F1 H locs hm => ?_)
      refine lv_aload_n hx hb dX9_test_68 rfl (lv_at hl 1 rfl) ?_
      refine mm_get hx hb hT hown hz hm 0 (by decide) wd_735 rfl (v := .int (nI 2)) rfl dX9_test_69 ?_
      refine lv_if_le (tgt := 77) hx hb dX9_test_72 (by decide) (fun cx => absurd cx (by decide)) (fun cx => ?_)
      refine lv_iconst (v := (nI 0)) hx hb dX9_test_75 (by decide) ?_
      exact mm_zret hx hb hr (Or.inl rfl) hlk (Nat.le_of_ble_eq_true rfl) (Nat.le_of_ble_eq_true rfl) hm dX9_test_76 (⟨fun h => absurd h (by rw [h1]; decide), fun _ _ => ⟨rfl, bx_uu _ _ _ _⟩, fun i g1 g2 g3 => absurd g3 (by simp [rf_okT, h6]), fun i i1 i2 g1 g2 g3 => absurd g3 (by simp [rf_okT, h6])⟩)
    · have h6 := fw_b1 h6
      refine lv_iload_n hx hb dX9_test_27 rfl (lv_at hl 4 rfl) ?_
      refine lv_iconst (v := (nI 1)) hx hb dX9_test_28 (by decide) ?_
      refine lv_bipush (v := (nI 100)) hx hb dX9_test_29 (by decide) ?_
      refine mm_calls (As := [.int v, .int (nI 1), .int (nI 100)]) (rest := [.ref y]) C hz hm (c_X9_in l G _ _ v (nI 1) (nI 100)) wd_821 ySX9_in ⟨Nat.le_of_ble_eq_true rfl, Nat.le_of_ble_eq_true rfl⟩ rfl hl.1 rfl (Nat.le_of_ble_eq_true rfl) dX9_test_31 ⟨Nat.le_of_ble_eq_true rfl, Nat.le_of_ble_eq_true rfl⟩ (fun r H locs hm hp => ?_)
      refine W.widen (k := 0) (n := 0) (Nat.le_of_ble_eq_true rfl) (Nat.le_of_ble_eq_true rfl) ?_
      subst hp
      refine lv_if_ne (tgt := 41) hx hb dX9_test_34 (by decide) (fun h7 => ?_) (fun h7 => ?_)
      · have h7 := fw_b1 h7
        have h8 : rf_okT u v = true := by rw [rf_okT, h6, h7]; rfl
        obtain ⟨a1, ha1, ha2, rfl⟩ := rf_in_n (by decide) h6
        obtain ⟨b1, hb1, hb2, rfl⟩ := rf_in_n (by decide) h7
        refine lv_aload_n hx hb dX9_test_41 rfl (lv_at hl 1 rfl) ?_
        refine mm_get hx hb hT hown hz hm 13 (by decide) wd_748 rfl (v := .ref (ad 13)) rfl dX9_test_42 ?_
        refine lv_iload_n hx hb dX9_test_45 rfl (lv_at hl 2 rfl) ?_
        refine mm_ald hx hb hz hm 13 (j) (by decide) rfl (show j < 12 by omega) dX9_test_46 ?_
        refine lv_iconst (v := (-1)) hx hb dX9_test_47 (by decide) ?_
        refine lv_icmp_eq (tgt := 60) hx hb dX9_test_48 (by decide) (fun d1 => ?_) (fun d1 => ?_)
        · refine lv_iconst (v := (nI 3)) hx hb dX9_test_60 (by decide) ?_
          refine lv_goto (tgt := 65) hx hb dX9_test_61 (by decide) ?_
          refine mm_put hx hb hT hown hz hm 0 (by decide) wd_735 dX9_test_65 (fun F1 H locs hm => ?_)
          refine lv_aload_n hx hb dX9_test_68 rfl (lv_at hl 1 rfl) ?_
          refine mm_get hx hb hT hown hz hm 0 (by decide) wd_735 rfl (v := .int (nI 3)) rfl dX9_test_69 ?_
          refine lv_if_le (tgt := 77) hx hb dX9_test_72 (by decide) (fun cx => absurd cx (by decide)) (fun cx => ?_)
          refine lv_iconst (v := (nI 0)) hx hb dX9_test_75 (by decide) ?_
          exact mm_zret hx hb hr (Or.inl rfl) hlk (Nat.le_of_ble_eq_true rfl) (Nat.le_of_ble_eq_true rfl) hm dX9_test_76 (⟨fun h => absurd h (by rw [h1]; decide), fun _ h => absurd h (by rw [h8]; decide), fun i g1 g2 _ _ => ⟨rfl, bx_uu _ _ _ _⟩, fun i i1 i2 g1 g2 g3 g4 g5 g6 g7 g8 g9 y1 y2 => by obtain rfl := nI_j (by omega) (by omega) g2; exact absurd d1 y1⟩)
        · refine lv_aload_n hx hb dX9_test_51 rfl (lv_at hl 1 rfl) ?_
          refine mm_get hx hb hT hown hz hm 14 (by decide) wd_749 rfl (v := .ref (ad 14)) rfl dX9_test_52 ?_
          refine lv_iload_n hx hb dX9_test_55 rfl (lv_at hl 2 rfl) ?_
          refine mm_zald hx hb hz hm (j) rfl (show j < 12 by omega) dX9_test_56 ?_
          refine lv_if_eq (tgt := 64) hx hb dX9_test_57 (by decide) (fun d2 => ?_) (fun d2 => ?_)
          · refine lv_iconst (v := (nI 0)) hx hb dX9_test_64 (by decide) ?_
            refine mm_put hx hb hT hown hz hm 0 (by decide) wd_735 dX9_test_65 (fun F1 H locs hm => ?_)
            refine lv_aload_n hx hb dX9_test_68 rfl (lv_at hl 1 rfl) ?_
            refine mm_get hx hb hT hown hz hm 0 (by decide) wd_735 rfl (v := .int (nI 0)) rfl dX9_test_69 ?_
            refine lv_if_le (tgt := 77) hx hb dX9_test_72 (by decide) (fun cx => ?_) (fun cx => absurd cx (by decide))
            refine lv_aload_n hx hb dX9_test_77 rfl (lv_at hl 1 rfl) ?_
            refine mm_get hx hb hT hown hz hm 12 (by decide) wd_747 rfl (v := .ref (ad 12)) rfl dX9_test_78 ?_
            refine lv_iload_n hx hb dX9_test_81 rfl (lv_at hl 2 rfl) ?_
            rw [bx_uu] at hm
            refine mm_ald hx hb hz hm 12 (j) (by decide) rfl (show j < 12 by omega) dX9_test_82 ?_
            refine fw_top (x' := (nI (rf_ot f j))) (h2) ?_
            refine lv_istore (lv' := [(5, .int (nI (rf_ot f j))), (4, .int (fw_b (rf_ix (nI j) nO))), (0, .ref y), (1, .int (nI j)), (2, .int (nI a1)), (3, .int (nI b1))]) hx hb dX9_test_83 hl (by decide) rfl (fun ls hl => ?_)
            refine lv_iconst (v := (nI 0)) hx hb dX9_test_85 (by decide) ?_
            refine lv_istore (lv' := [(6, .int (nI 0)), (5, .int (nI (rf_ot f j))), (4, .int (fw_b (rf_ix (nI j) nO))), (0, .ref y), (1, .int (nI j)), (2, .int (nI a1)), (3, .int (nI b1))]) hx hb dX9_test_86 hl (by decide) rfl (fun ls hl => ?_)
            suffices hlp : ∀ (d k : Nat), k + d = rf_sm f (rf_ot f j) →  ∀ (F1 : fw_F) (H : Heap) (locs : List Loc) (ls : Array Slot), mm_M G A s F y ad (va_up sc 0 (nI 0)) (rf_tst f j (rf_ot f j) (a1 * b1) k) F1 H locs → lv_has ls 9 [(6, .int (nI k)), (5, .int (nI (rf_ot f j))), (0, .ref y), (1, .int (nI j)), (2, .int (nI a1)), (3, .int (nI b1))] → W p l e { frames := 2, cells := 0, slots := 0, locals := 43 } s m ([.ref y, .int (nI j), .int (nI a1), .int (nI b1)] : List Value).toArray below meth c H locs 0 0 (MQ below (va_Qi (mm_post G y ad F (fun r sc1 f1 => (rf_ix (nI j) nO = false → f1 = f ∧ sc1 = va_up sc 0 (nI 1)) ∧ (rf_ix (nI j) nO = true → rf_okT (nI a1) (nI b1) = false → f1 = f ∧ sc1 = va_up sc 0 (nI 2)) ∧ (∀ i, i < nO → nI j = nI i → rf_okT (nI a1) (nI b1) = true → (f 13 i = -1 ∨ ¬ f 14 i = 0) → f1 = f ∧ sc1 = va_up sc 0 (nI 3)) ∧ (∀ i i1 i2, i < nO → nI j = nI i → rf_okT (nI a1) (nI b1) = true → nI a1 = nI i1 → nI b1 = nI i2 → 1 ≤ i1 → i1 ≤ 100 → 1 ≤ i2 → i2 ≤ 100 → ¬ f 13 i = -1 → f 14 i = 0 → sc1 = va_up sc 0 (nI 0) ∧ f1 = rf_testf f i (rf_ot f i) (i1 * i2) ∧ r = rf_testf f i (rf_ot f i) (i1 * i2) 14 i))) (fw_B G A) A) ([.ref y, .int (nI j), .int (nI a1), .int (nI b1)] : List Value).toArray s 0 0 A) (F0 m 88 ls []) by
              exact hlp (rf_sm f (rf_ot f j)) 0  (Nat.zero_add _)  _ _ _ _ hm (lv_sub hl [0, 1, 3, 4, 5, 6] rfl)
            intro d
            induction d with
            | zero =>
              intro k  hk  F1 H locs ls hm hl
              obtain ⟨o9, o8⟩ := rf_tst_9 f j (rf_ot f j) (a1 * b1) k
              refine lv_iload hx hb dX9_test_88 (lv_at hl 0 rfl) ?_
              refine lv_aload_n hx hb dX9_test_90 rfl (lv_at hl 2 rfl) ?_
              refine mm_get hx hb hT hown hz hm 8 (by decide) wd_743 rfl (v := .ref (ad 8)) rfl dX9_test_91 ?_
              refine lv_iload hx hb dX9_test_94 (lv_at hl 1 rfl) ?_
              refine mm_ald hx hb hz hm 8 (rf_ot f j) (by decide) rfl (show rf_ot f j < 8 by omega) dX9_test_96 ?_
              refine fw_top (x' := (nI (rf_sm f (rf_ot f j)))) (by rw [o8]; exact h4.1) ?_
              refine lv_icmp_ge (tgt := 226) hx hb dX9_test_97 (by decide) (fun g => ?_) (fun g => ?_)
              · have g := (nI_leI (a := rf_sm f (rf_ot f j)) (b := k) (by omega) (by omega)).mp g
                have hkk : k = rf_sm f (rf_ot f j) := by omega
                have hbb := rf_tst_b f j (rf_ot f j) (a1 * b1) d2 k
                refine lv_aload_n hx hb dX9_test_226 rfl (lv_at hl 2 rfl) ?_
                refine mm_get hx hb hT hown hz hm 10 (by decide) wd_745 rfl (v := .ref (ad 10)) rfl dX9_test_227 ?_
                refine lv_iload hx hb dX9_test_230 (lv_at hl 1 rfl) ?_
                refine lv_dup2_11 hx hb dX9_test_232 rfl rfl ?_
                refine mm_ald hx hb hz hm 10 (rf_ot f j) (by decide) rfl (show rf_ot f j < 8 by omega) dX9_test_233 ?_
                refine lv_aload_n hx hb dX9_test_234 rfl (lv_at hl 2 rfl) ?_
                refine mm_get hx hb hT hown hz hm 14 (by decide) wd_749 rfl (v := .ref (ad 14)) rfl dX9_test_235 ?_
                refine lv_iload_n hx hb dX9_test_238 rfl (lv_at hl 3 rfl) ?_
                refine mm_zald hx hb hz hm (j) rfl (show j < 12 by omega) dX9_test_239 ?_
                refine lv_if_eq (tgt := 247) hx hb dX9_test_240 (by decide) (fun d3 => ?_) (fun d3 => ?_)
                · refine lv_iconst (v := (nI 0)) hx hb dX9_test_247 (by decide) ?_
                  refine lv_iadd hx hb dX9_test_248 ?_
                  refine mm_ast hx hb hz hm 10 (rf_ot f j) (by decide) rfl (show rf_ot f j < 8 by omega) dX9_test_249 (fun F1 H locs hm => ?_)
                  refine lv_aload_n hx hb dX9_test_250 rfl (lv_at hl 2 rfl) ?_
                  refine mm_get hx hb hT hown hz hm 14 (by decide) wd_749 rfl (v := .ref (ad 14)) rfl dX9_test_251 ?_
                  refine lv_iload_n hx hb dX9_test_254 rfl (lv_at hl 3 rfl) ?_
                  refine mm_zald hx hb hz hm (j) rfl (show j < 12 by omega) dX9_test_255 ?_
                  exact mm_zret hx hb hr (hbb) hlk (Nat.le_of_ble_eq_true rfl) (Nat.le_of_ble_eq_true rfl) hm dX9_test_256 (⟨fun h => absurd h (by rw [h1]; decide), fun _ h => absurd h (by rw [h8]; decide), fun i g1 g2 _ h => by obtain rfl := nI_j (by omega) (by omega) g2; exact absurd h (fun h => h.elim d1 (fun h => h d2)), fun i i1 i2 g1 g2 g3 g4 g5 g6 g7 g8 g9 _ _ => by obtain rfl := nI_j (by omega) (by omega) g2; obtain rfl := nI_j (by omega) (by omega) g4; obtain rfl := nI_j (by omega) (by omega) g5; rw [rf_testf, ← hkk, if_pos d3]; exact ⟨rfl, rfl, rfl⟩⟩)
                · refine lv_iconst (v := (nI 1)) hx hb dX9_test_243 (by decide) ?_
                  refine lv_goto (tgt := 248) hx hb dX9_test_244 (by decide) ?_
                  refine lv_iadd hx hb dX9_test_248 ?_
                  refine mm_ast hx hb hz hm 10 (rf_ot f j) (by decide) rfl (show rf_ot f j < 8 by omega) dX9_test_249 (fun F1 H locs hm => ?_)
                  refine lv_aload_n hx hb dX9_test_250 rfl (lv_at hl 2 rfl) ?_
                  refine mm_get hx hb hT hown hz hm 14 (by decide) wd_749 rfl (v := .ref (ad 14)) rfl dX9_test_251 ?_
                  refine lv_iload_n hx hb dX9_test_254 rfl (lv_at hl 3 rfl) ?_
                  refine mm_zald hx hb hz hm (j) rfl (show j < 12 by omega) dX9_test_255 ?_
                  exact mm_zret hx hb hr (hbb) hlk (Nat.le_of_ble_eq_true rfl) (Nat.le_of_ble_eq_true rfl) hm dX9_test_256 (⟨fun h => absurd h (by rw [h1]; decide), fun _ h => absurd h (by rw [h8]; decide), fun i g1 g2 _ h => by obtain rfl := nI_j (by omega) (by omega) g2; exact absurd h (fun h => h.elim d1 (fun h => h d2)), fun i i1 i2 g1 g2 g3 g4 g5 g6 g7 g8 g9 _ _ => by obtain rfl := nI_j (by omega) (by omega) g2; obtain rfl := nI_j (by omega) (by omega) g4; obtain rfl := nI_j (by omega) (by omega) g5; rw [rf_testf, ← hkk, if_neg d3]; exact ⟨rfl, rfl, rfl⟩⟩)
              · have g : ¬ (rf_sm f (rf_ot f j)) ≤ k := fun h9 => g ((nI_leI (a := rf_sm f (rf_ot f j)) (b := k) (by omega) (by omega)).mpr h9)
                omega
            | succ d ih =>
              intro k  hk  F1 H locs ls hm hl
              obtain ⟨o9, o8⟩ := rf_tst_9 f j (rf_ot f j) (a1 * b1) k
              refine lv_iload hx hb dX9_test_88 (lv_at hl 0 rfl) ?_
              refine lv_aload_n hx hb dX9_test_90 rfl (lv_at hl 2 rfl) ?_
              refine mm_get hx hb hT hown hz hm 8 (by decide) wd_743 rfl (v := .ref (ad 8)) rfl dX9_test_91 ?_
              refine lv_iload hx hb dX9_test_94 (lv_at hl 1 rfl) ?_
              refine mm_ald hx hb hz hm 8 (rf_ot f j) (by decide) rfl (show rf_ot f j < 8 by omega) dX9_test_96 ?_
              refine fw_top (x' := (nI (rf_sm f (rf_ot f j)))) (by rw [o8]; exact h4.1) ?_
              refine lv_icmp_ge (tgt := 226) hx hb dX9_test_97 (by decide) (fun g => ?_) (fun g => ?_)
              · have g := (nI_leI (a := rf_sm f (rf_ot f j)) (b := k) (by omega) (by omega)).mp g
                omega
              · have g : ¬ (rf_sm f (rf_ot f j)) ≤ k := fun h9 => g ((nI_leI (a := rf_sm f (rf_ot f j)) (b := k) (by omega) (by omega)).mpr h9)
                have hk4 : k < rf_sm f (rf_ot f j) := by omega
                obtain ⟨s0, s1⟩ := h4.2.2.2 k hk4
                have s2 := s1 1 (Or.inl rfl)
                have s3 := s1 2 (Or.inr rfl)
                refine lv_bipush (v := (nI 12)) hx hb dX9_test_100 (by decide) ?_
                refine lv_iload hx hb dX9_test_102 (lv_at hl 1 rfl) ?_
                refine lv_imul hx hb dX9_test_104 ?_
                refine fw_top (pk_mul _ _) ?_
                refine lv_iconst (v := (nI 3)) hx hb dX9_test_105 (by decide) ?_
                refine lv_iload hx hb dX9_test_106 (lv_at hl 0 rfl) ?_
                refine lv_imul hx hb dX9_test_108 ?_
                refine fw_top (pk_mul _ _) ?_
                refine lv_iadd hx hb dX9_test_109 ?_
                refine fw_top (nI_add _ _) ?_
                refine lv_istore (lv' := [(7, .int (nI ((12 * (rf_ot f j)) + (3 * k)))), (6, .int (nI k)), (5, .int (nI (rf_ot f j))), (0, .ref y), (1, .int (nI j)), (2, .int (nI a1)), (3, .int (nI b1))]) hx hb dX9_test_110 hl (by decide) rfl (fun ls hl => ?_)
                have hle : rf_les f (rf_ot f j) k ≤ 60 := by unfold rf_les; split <;> omega
                have hJ : ∀ (F1 : fw_F) (H : Heap) (locs : List Loc) (ls : Array Slot), mm_M G A s F y ad (va_up sc 0 (nI 0)) (rf_tst f j (rf_ot f j) (a1 * b1) k) F1 H locs → lv_has ls 9 [(7, .int (nI ((12 * (rf_ot f j)) + (3 * k)))), (6, .int (nI k)), (5, .int (nI (rf_ot f j))), (0, .ref y), (1, .int (nI j)), (2, .int (nI a1)), (3, .int (nI b1))] → W p l e { frames := 2, cells := 0, slots := 0, locals := 43 } s m ([.ref y, .int (nI j), .int (nI a1), .int (nI b1)] : List Value).toArray below meth c H locs 0 0 (MQ below (va_Qi (mm_post G y ad F (fun r sc1 f1 => (rf_ix (nI j) nO = false → f1 = f ∧ sc1 = va_up sc 0 (nI 1)) ∧ (rf_ix (nI j) nO = true → rf_okT (nI a1) (nI b1) = false → f1 = f ∧ sc1 = va_up sc 0 (nI 2)) ∧ (∀ i, i < nO → nI j = nI i → rf_okT (nI a1) (nI b1) = true → (f 13 i = -1 ∨ ¬ f 14 i = 0) → f1 = f ∧ sc1 = va_up sc 0 (nI 3)) ∧ (∀ i i1 i2, i < nO → nI j = nI i → rf_okT (nI a1) (nI b1) = true → nI a1 = nI i1 → nI b1 = nI i2 → 1 ≤ i1 → i1 ≤ 100 → 1 ≤ i2 → i2 ≤ 100 → ¬ f 13 i = -1 → f 14 i = 0 → sc1 = va_up sc 0 (nI 0) ∧ f1 = rf_testf f i (rf_ot f i) (i1 * i2) ∧ r = rf_testf f i (rf_ot f i) (i1 * i2) 14 i))) (fw_B G A) A) ([.ref y, .int (nI j), .int (nI a1), .int (nI b1)] : List Value).toArray s 0 0 A) (F0 m 154 ls [.int (nI (rf_les f (rf_ot f j) k))]) := by
                  intro F1 H locs ls hm hl
                  refine lv_istore (lv' := [(8, .int (nI (rf_les f (rf_ot f j) k))), (7, .int (nI ((12 * (rf_ot f j)) + (3 * k)))), (6, .int (nI k)), (5, .int (nI (rf_ot f j))), (0, .ref y), (1, .int (nI j)), (2, .int (nI a1)), (3, .int (nI b1))]) hx hb dX9_test_154 hl (by decide) rfl (fun ls hl => ?_)
                  refine lv_aload_n hx hb dX9_test_156 rfl (lv_at hl 4 rfl) ?_
                  refine mm_get hx hb hT hown hz hm 15 (by decide) wd_750 rfl (v := .ref (ad 15)) rfl dX9_test_157 ?_
                  refine lv_iconst (v := (nI 4)) hx hb dX9_test_160 (by decide) ?_
                  refine lv_iload_n hx hb dX9_test_161 rfl (lv_at hl 5 rfl) ?_
                  refine lv_imul hx hb dX9_test_162 ?_
                  refine fw_top (pk_mul _ _) ?_
                  refine lv_iload hx hb dX9_test_163 (lv_at hl 2 rfl) ?_
                  refine lv_iadd hx hb dX9_test_165 ?_
                  refine fw_top (nI_add _ _) ?_
                  refine lv_dup2_11 hx hb dX9_test_166 rfl rfl ?_
                  refine mm_ald hx hb hz hm 15 ((4 * j) + k) (by decide) rfl (show (4 * j) + k < 48 by omega) dX9_test_167 ?_
                  refine lv_iload_n hx hb dX9_test_168 rfl (lv_at hl 6 rfl) ?_
                  refine lv_iload_n hx hb dX9_test_169 rfl (lv_at hl 7 rfl) ?_
                  refine lv_imul hx hb dX9_test_170 ?_
                  refine fw_top (pk_mul _ _) ?_
                  refine lv_aload_n hx hb dX9_test_171 rfl (lv_at hl 4 rfl) ?_
                  refine mm_get hx hb hT hown hz hm 9 (by decide) wd_744 rfl (v := .ref (ad 9)) rfl dX9_test_172 ?_
                  refine lv_iload hx hb dX9_test_175 (lv_at hl 1 rfl) ?_
                  refine mm_ald hx hb hz hm 9 ((12 * (rf_ot f j)) + (3 * k)) (by decide) rfl (show (12 * (rf_ot f j)) + (3 * k) < 96 by omega) dX9_test_177 ?_
                  refine fw_top (x' := (nI (rf_st f (12 * rf_ot f j + 3 * k)))) (by rw [o9]; exact s0.1) ?_
                  refine lv_idiv hx hb dX9_test_178 (nI_ne0 (by omega) (by omega)) ?_
                  have hab : a1 * b1 ≤ 100 * 100 := Nat.mul_le_mul ha2 hb2
                  refine fw_top (x' := (nI (a1 * b1 / rf_st f (12 * rf_ot f j + 3 * k)))) (pk_div (by omega) (by omega) (by omega)) ?_
                  refine lv_iadd hx hb dX9_test_179 ?_
                  refine mm_ast hx hb hz hm 15 ((4 * j) + k) (by decide) rfl (show (4 * j) + k < 48 by omega) dX9_test_180 (fun F1 H locs hm => ?_)
                  refine lv_aload_n hx hb dX9_test_181 rfl (lv_at hl 4 rfl) ?_
                  refine mm_get hx hb hT hown hz hm 14 (by decide) wd_749 rfl (v := .ref (ad 14)) rfl dX9_test_182 ?_
                  refine lv_iload_n hx hb dX9_test_185 rfl (lv_at hl 5 rfl) ?_
                  refine lv_aload_n hx hb dX9_test_186 rfl (lv_at hl 4 rfl) ?_
                  refine mm_get hx hb hT hown hz hm 14 (by decide) wd_749 rfl (v := .ref (ad 14)) rfl dX9_test_187 ?_
                  refine lv_iload_n hx hb dX9_test_190 rfl (lv_at hl 5 rfl) ?_
                  refine mm_zald hx hb hz hm (j) rfl (show j < 12 by omega) dX9_test_191 ?_
                  refine lv_if_ne (tgt := 214) hx hb dX9_test_192 (by decide) (fun d3 => ?_) (fun d3 => ?_)
                  · refine lv_iconst (v := (nI 1)) hx hb dX9_test_214 (by decide) ?_
                    refine lv_goto (tgt := 219) hx hb dX9_test_215 (by decide) ?_
                    refine fw_top (x' := (fw_b (!(decide ((rf_tst f j (rf_ot f j) (a1 * b1) k) 14 j = 0)) || decide (nI (10 * rf_les f (rf_ot f j) k) < (rf_tst f j (rf_ot f j) (a1 * b1) k) 15 (4 * j + k) + nI (a1 * b1 / rf_st f (12 * rf_ot f j + 3 * k)))))) (by rw [decide_eq_false (show ¬ (rf_tst f j (rf_ot f j) (a1 * b1) k) 14 j = 0 from d3)]; rfl) ?_
                    have hin9 : j < 12 := by omega
                    refine mm_zast hx hb hz hm (j) rfl (show j < 12 by omega) dX9_test_219 (fun F1 H locs hm => ?_)
                    rw [vp_nar_b] at hm
                    have hm : mm_M G A s F y ad (va_up sc 0 (nI 0)) (rf_tst f j (rf_ot f j) (a1 * b1) (k + 1)) F1 H locs := hm
                    refine lv_iinc (v := (nI (k + 1))) (lv' := [(6, .int (nI (k + 1))), (8, .int (nI (rf_les f (rf_ot f j) k))), (7, .int (nI ((12 * (rf_ot f j)) + (3 * k)))), (5, .int (nI (rf_ot f j))), (0, .ref y), (1, .int (nI j)), (2, .int (nI a1)), (3, .int (nI b1))]) hx hb dX9_test_220 hl (k := 2) rfl (nI_1 _) (by decide) rfl (fun ls hl => ?_)
                    refine lv_goto (tgt := 88) hx hb dX9_test_223 (by decide) ?_
                    exact ih (k + 1)  (by omega)  _ _ _ _ hm (lv_sub hl [0, 3, 4, 5, 6, 7] rfl)
                  · refine lv_aload_n hx hb dX9_test_195 rfl (lv_at hl 4 rfl) ?_
                    refine mm_get hx hb hT hown hz hm 15 (by decide) wd_750 rfl (v := .ref (ad 15)) rfl dX9_test_196 ?_
                    refine lv_iconst (v := (nI 4)) hx hb dX9_test_199 (by decide) ?_
                    refine lv_iload_n hx hb dX9_test_200 rfl (lv_at hl 5 rfl) ?_
                    refine lv_imul hx hb dX9_test_201 ?_
                    refine fw_top (pk_mul _ _) ?_
                    refine lv_iload hx hb dX9_test_202 (lv_at hl 2 rfl) ?_
                    refine lv_iadd hx hb dX9_test_204 ?_
                    refine fw_top (nI_add _ _) ?_
                    refine mm_ald hx hb hz hm 15 ((4 * j) + k) (by decide) rfl (show (4 * j) + k < 48 by omega) dX9_test_205 ?_
                    refine fw_top (x' := ((rf_tst f j (rf_ot f j) (a1 * b1) k) 15 (4 * j + k) + nI (a1 * b1 / rf_st f (12 * rf_ot f j + 3 * k)))) (pk_us) ?_
                    refine lv_bipush (v := (nI 10)) hx hb dX9_test_206 (by decide) ?_
                    refine lv_iload hx hb dX9_test_208 (lv_at hl 0 rfl) ?_
                    refine lv_imul hx hb dX9_test_210 ?_
                    refine fw_top (pk_mul _ _) ?_
                    refine lv_icmp_le (tgt := 218) hx hb dX9_test_211 (by decide) (fun d4 => ?_) (fun d4 => ?_)
                    · refine lv_iconst (v := (nI 0)) hx hb dX9_test_218 (by decide) ?_
                      refine fw_top (x' := (fw_b (!(decide ((rf_tst f j (rf_ot f j) (a1 * b1) k) 14 j = 0)) || decide (nI (10 * rf_les f (rf_ot f j) k) < (rf_tst f j (rf_ot f j) (a1 * b1) k) 15 (4 * j + k) + nI (a1 * b1 / rf_st f (12 * rf_ot f j + 3 * k)))))) (by rw [decide_eq_true (show (rf_tst f j (rf_ot f j) (a1 * b1) k) 14 j = 0 from d3), decide_eq_false (Int32.not_lt.mpr d4)]; rfl) ?_
                      have hin9 : j < 12 := by omega
                      refine mm_zast hx hb hz hm (j) rfl (show j < 12 by omega) dX9_test_219 (fun F1 H locs hm => ?_)
                      rw [vp_nar_b] at hm
                      have hm : mm_M G A s F y ad (va_up sc 0 (nI 0)) (rf_tst f j (rf_ot f j) (a1 * b1) (k + 1)) F1 H locs := hm
                      refine lv_iinc (v := (nI (k + 1))) (lv' := [(6, .int (nI (k + 1))), (8, .int (nI (rf_les f (rf_ot f j) k))), (7, .int (nI ((12 * (rf_ot f j)) + (3 * k)))), (5, .int (nI (rf_ot f j))), (0, .ref y), (1, .int (nI j)), (2, .int (nI a1)), (3, .int (nI b1))]) hx hb dX9_test_220 hl (k := 2) rfl (nI_1 _) (by decide) rfl (fun ls hl => ?_)
                      refine lv_goto (tgt := 88) hx hb dX9_test_223 (by decide) ?_
                      exact ih (k + 1)  (by omega)  _ _ _ _ hm (lv_sub hl [0, 3, 4, 5, 6, 7] rfl)
                    · refine lv_iconst (v := (nI 1)) hx hb dX9_test_214 (by decide) ?_
                      refine lv_goto (tgt := 219) hx hb dX9_test_215 (by decide) ?_
                      refine fw_top (x' := (fw_b (!(decide ((rf_tst f j (rf_ot f j) (a1 * b1) k) 14 j = 0)) || decide (nI (10 * rf_les f (rf_ot f j) k) < (rf_tst f j (rf_ot f j) (a1 * b1) k) 15 (4 * j + k) + nI (a1 * b1 / rf_st f (12 * rf_ot f j + 3 * k)))))) (by rw [decide_eq_true (show (rf_tst f j (rf_ot f j) (a1 * b1) k) 14 j = 0 from d3), decide_eq_true (Int32.not_le.mp d4)]; rfl) ?_
                      have hin9 : j < 12 := by omega
                      refine mm_zast hx hb hz hm (j) rfl (show j < 12 by omega) dX9_test_219 (fun F1 H locs hm => ?_)
                      rw [vp_nar_b] at hm
                      have hm : mm_M G A s F y ad (va_up sc 0 (nI 0)) (rf_tst f j (rf_ot f j) (a1 * b1) (k + 1)) F1 H locs := hm
                      refine lv_iinc (v := (nI (k + 1))) (lv' := [(6, .int (nI (k + 1))), (8, .int (nI (rf_les f (rf_ot f j) k))), (7, .int (nI ((12 * (rf_ot f j)) + (3 * k)))), (5, .int (nI (rf_ot f j))), (0, .ref y), (1, .int (nI j)), (2, .int (nI a1)), (3, .int (nI b1))]) hx hb dX9_test_220 hl (k := 2) rfl (nI_1 _) (by decide) rfl (fun ls hl => ?_)
                      refine lv_goto (tgt := 88) hx hb dX9_test_223 (by decide) ?_
                      exact ih (k + 1)  (by omega)  _ _ _ _ hm (lv_sub hl [0, 3, 4, 5, 6, 7] rfl)
                refine lv_aload_n hx hb dX9_test_112 rfl (lv_at hl 3 rfl) ?_
                refine mm_get hx hb hT hown hz hm 9 (by decide) wd_744 rfl (v := .ref (ad 9)) rfl dX9_test_113 ?_
                refine lv_iload hx hb dX9_test_116 (lv_at hl 0 rfl) ?_
                refine lv_iconst (v := (nI 1)) hx hb dX9_test_118 (by decide) ?_
                refine lv_iadd hx hb dX9_test_119 ?_
                refine fw_top (nI_add _ _) ?_
                refine mm_ald hx hb hz hm 9 (((12 * (rf_ot f j)) + (3 * k)) + 1) (by decide) rfl (show ((12 * (rf_ot f j)) + (3 * k)) + 1 < 96 by omega) dX9_test_120 ?_
                refine fw_top (x' := (nI (rf_st f (12 * rf_ot f j + 3 * k + 1)))) (by rw [o9]; exact s2.1) ?_
                refine lv_aload_n hx hb dX9_test_121 rfl (lv_at hl 3 rfl) ?_
                refine mm_get hx hb hT hown hz hm 9 (by decide) wd_744 rfl (v := .ref (ad 9)) rfl dX9_test_122 ?_
                refine lv_iload hx hb dX9_test_125 (lv_at hl 0 rfl) ?_
                refine lv_iconst (v := (nI 2)) hx hb dX9_test_127 (by decide) ?_
                refine lv_iadd hx hb dX9_test_128 ?_
                refine fw_top (nI_add _ _) ?_
                refine mm_ald hx hb hz hm 9 (((12 * (rf_ot f j)) + (3 * k)) + 2) (by decide) rfl (show ((12 * (rf_ot f j)) + (3 * k)) + 2 < 96 by omega) dX9_test_129 ?_
                refine fw_top (x' := (nI (rf_st f (12 * rf_ot f j + 3 * k + 2)))) (by rw [o9]; exact s3.1) ?_
                refine lv_icmp_ge (tgt := 145) hx hb dX9_test_130 (by decide) (fun d5 => ?_) (fun d5 => ?_)
                · have d5 := (nI_leI (a := rf_st f (12 * rf_ot f j + 3 * k + 2)) (b := rf_st f (12 * rf_ot f j + 3 * k + 1)) (by omega) (by omega)).mp d5
                  refine lv_aload_n hx hb dX9_test_145 rfl (lv_at hl 3 rfl) ?_
                  refine mm_get hx hb hT hown hz hm 9 (by decide) wd_744 rfl (v := .ref (ad 9)) rfl dX9_test_146 ?_
                  refine lv_iload hx hb dX9_test_149 (lv_at hl 0 rfl) ?_
                  refine lv_iconst (v := (nI 2)) hx hb dX9_test_151 (by decide) ?_
                  refine lv_iadd hx hb dX9_test_152 ?_
                  refine fw_top (nI_add _ _) ?_
                  refine mm_ald hx hb hz hm 9 (((12 * (rf_ot f j)) + (3 * k)) + 2) (by decide) rfl (show ((12 * (rf_ot f j)) + (3 * k)) + 2 < 96 by omega) dX9_test_153 ?_
                  refine fw_top (x' := (nI (rf_les f (rf_ot f j) k))) (by rw [o9, rf_les, if_neg (by omega)]; exact s3.1) ?_
                  exact hJ _ _ _ _ hm (lv_sub hl [0, 1, 2, 3, 4, 5, 6] rfl)
                · have d5 : ¬ (rf_st f (12 * rf_ot f j + 3 * k + 2)) ≤ (rf_st f (12 * rf_ot f j + 3 * k + 1)) := fun h9 => d5 ((nI_leI (a := rf_st f (12 * rf_ot f j + 3 * k + 2)) (b := rf_st f (12 * rf_ot f j + 3 * k + 1)) (by omega) (by omega)).mpr h9)
                  refine lv_aload_n hx hb dX9_test_133 rfl (lv_at hl 3 rfl) ?_
                  refine mm_get hx hb hT hown hz hm 9 (by decide) wd_744 rfl (v := .ref (ad 9)) rfl dX9_test_134 ?_
                  refine lv_iload hx hb dX9_test_137 (lv_at hl 0 rfl) ?_
                  refine lv_iconst (v := (nI 1)) hx hb dX9_test_139 (by decide) ?_
                  refine lv_iadd hx hb dX9_test_140 ?_
                  refine fw_top (nI_add _ _) ?_
                  refine mm_ald hx hb hz hm 9 (((12 * (rf_ot f j)) + (3 * k)) + 1) (by decide) rfl (show ((12 * (rf_ot f j)) + (3 * k)) + 1 < 96 by omega) dX9_test_141 ?_
                  refine fw_top (x' := (nI (rf_les f (rf_ot f j) k))) (by rw [o9, rf_les, if_pos (by omega)]; exact s2.1) ?_
                  refine lv_goto (tgt := 154) hx hb dX9_test_142 (by decide) ?_
                  exact hJ _ _ _ _ hm (lv_sub hl [0, 1, 2, 3, 4, 5, 6] rfl)
          · refine lv_iconst (v := (nI 3)) hx hb dX9_test_60 (by decide) ?_
            refine lv_goto (tgt := 65) hx hb dX9_test_61 (by decide) ?_
            refine mm_put hx hb hT hown hz hm 0 (by decide) wd_735 dX9_test_65 (fun F1 H locs hm => ?_)
            refine lv_aload_n hx hb dX9_test_68 rfl (lv_at hl 1 rfl) ?_
            refine mm_get hx hb hT hown hz hm 0 (by decide) wd_735 rfl (v := .int (nI 3)) rfl dX9_test_69 ?_
            refine lv_if_le (tgt := 77) hx hb dX9_test_72 (by decide) (fun cx => absurd cx (by decide)) (fun cx => ?_)
            refine lv_iconst (v := (nI 0)) hx hb dX9_test_75 (by decide) ?_
            exact mm_zret hx hb hr (Or.inl rfl) hlk (Nat.le_of_ble_eq_true rfl) (Nat.le_of_ble_eq_true rfl) hm dX9_test_76 (⟨fun h => absurd h (by rw [h1]; decide), fun _ h => absurd h (by rw [h8]; decide), fun i g1 g2 _ _ => ⟨rfl, bx_uu _ _ _ _⟩, fun i i1 i2 g1 g2 g3 g4 g5 g6 g7 g8 g9 y1 y2 => by obtain rfl := nI_j (by omega) (by omega) g2; exact absurd y2 d2⟩)
      · have h7 := fw_b0 h7
        refine lv_iconst (v := (nI 2)) hx hb dX9_test_37 (by decide) ?_
        refine lv_goto (tgt := 65) hx hb dX9_test_38 (by decide) ?_
        refine mm_put hx hb hT hown hz hm 0 (by decide) wd_735 dX9_test_65 (fun F1 H locs hm => ?_)
        refine lv_aload_n hx hb dX9_test_68 rfl (lv_at hl 1 rfl) ?_
        refine mm_get hx hb hT hown hz hm 0 (by decide) wd_735 rfl (v := .int (nI 2)) rfl dX9_test_69 ?_
        refine lv_if_le (tgt := 77) hx hb dX9_test_72 (by decide) (fun cx => absurd cx (by decide)) (fun cx => ?_)
        refine lv_iconst (v := (nI 0)) hx hb dX9_test_75 (by decide) ?_
        exact mm_zret hx hb hr (Or.inl rfl) hlk (Nat.le_of_ble_eq_true rfl) (Nat.le_of_ble_eq_true rfl) hm dX9_test_76 (⟨fun h => absurd h (by rw [h1]; decide), fun _ _ => ⟨rfl, bx_uu _ _ _ _⟩, fun i g1 g2 g3 => absurd g3 (by simp [rf_okT, h6, h7]), fun i i1 i2 g1 g2 g3 => absurd g3 (by simp [rf_okT, h6, h7])⟩)
  · have h1 := fw_b0 h1
    refine lv_iconst (v := (nI 1)) hx hb dX9_test_13 (by decide) ?_
    refine lv_goto (tgt := 65) hx hb dX9_test_14 (by decide) ?_
    refine mm_put hx hb hT hown hz hm 0 (by decide) wd_735 dX9_test_65 (fun F1 H locs hm => ?_)
    refine lv_aload_n hx hb dX9_test_68 rfl (lv_at hl 1 rfl) ?_
    refine mm_get hx hb hT hown hz hm 0 (by decide) wd_735 rfl (v := .int (nI 1)) rfl dX9_test_69 ?_
    refine lv_if_le (tgt := 77) hx hb dX9_test_72 (by decide) (fun cx => absurd cx (by decide)) (fun cx => ?_)
    refine lv_iconst (v := (nI 0)) hx hb dX9_test_75 (by decide) ?_
    exact mm_zret hx hb hr (Or.inl rfl) hlk (Nat.le_of_ble_eq_true rfl) (Nat.le_of_ble_eq_true rfl) hm dX9_test_76 (⟨fun _ => ⟨rfl, bx_uu _ _ _ _⟩, fun h => absurd h (by rw [h1]; decide), fun i g1 g2 => absurd (rf_in_of (by omega) g1 g2) (by rw [h1]; decide), fun i i1 i2 g1 g2 => absurd (rf_in_of (by omega) g1 g2) (by rw [h1]; decide)⟩)
set_option maxHeartbeats 4000000 in
set_option maxRecDepth 100000 in
theorem c_X9_leastNew (l : Launch) (G : fw_G) (F : fw_F) (sz y : Nat) (ad : Nat → Nat) (sc : mm_S) (f : mm_A) (nC : Nat) (mo u v : Int32) (hW : mm_W G F y ad sc f) (e1 : sc 1 = nI nC) (hC : nC ≤ 10) : mm_Ci l G F sz y ad yX9_leastNew cX9_leastNew 11 (.int) { frames := 4, cells := 0, slots := 0, locals := 94 } [.int mo, .int u, .int v] (fun r sc1 f1 => f1 = f ∧ (rf_okL mo u v = false → sc1 = va_up sc 0 (nI 1)) ∧ (∀ i1 i2, rf_okL mo u v = true → u = nI i1 → v = nI i2 → i1 ≤ 400 → i2 ≤ 400 → sc1 = va_up sc 0 (nI 0) ∧ r = rf_ln f nC mo i1 i2 28561)) := by
  refine fw_met (lv := [(0, .ref y), (1, .int mo), (2, .int u), (3, .int v)]) (by decide +kernel) (Nat.le_of_ble_eq_true rfl) rfl ?_
  intro A hA p e s m below meth c ls hx hb hml hown hT hr hlk hin hz hsz hw hAn hl
  rw [← hA]
  have hown : s.vm.findClass RX9 = some m.cls := hown
  have C : CallFix p m c cX9_leastNew 11 s _ fw_tb RX9 := ⟨hx, hb, hml, hown, hT⟩
  have hm : mm_M G A s F y ad sc f F s.heap [] := ⟨hw, hW, mm_keep.rf⟩
  refine lv_aload_n hx hb dX9_leastNew_0 rfl (lv_at hl 0 rfl) ?_
  refine lv_iload_n hx hb dX9_leastNew_1 rfl (lv_at hl 1 rfl) ?_
  refine lv_iconst (v := (nI 1)) hx hb dX9_leastNew_2 (by decide) ?_
  refine lv_iconst (v := (nI 4)) hx hb dX9_leastNew_3 (by decide) ?_
  refine mm_calls (As := [.int mo, .int (nI 1), .int (nI 4)]) (rest := [.ref y]) C hz hm (c_X9_in l G _ _ mo (nI 1) (nI 4)) wd_821 ySX9_in ⟨Nat.le_of_ble_eq_true rfl, Nat.le_of_ble_eq_true rfl⟩ rfl hl.1 rfl (Nat.le_of_ble_eq_true rfl) dX9_leastNew_4 ⟨Nat.le_of_ble_eq_true rfl, Nat.le_of_ble_eq_true rfl⟩ (fun r H locs hm hp => ?_)
  refine W.widen (k := 0) (n := 0) (Nat.le_of_ble_eq_true rfl) (Nat.le_of_ble_eq_true rfl) ?_
  subst hp
  refine lv_if_eq (tgt := 36) hx hb dX9_leastNew_7 (by decide) (fun h0 => ?_) (fun h0 => ?_)
  · have h0 := fw_b0 h0
    refine lv_iconst (v := (nI 1)) hx hb dX9_leastNew_36 (by decide) ?_
    refine mm_put hx hb hT hown hz hm 0 (by decide) wd_735 dX9_leastNew_37 (fun F1 H locs hm => ?_)
    refine lv_iconst (v := (-1)) hx hb dX9_leastNew_40 (by decide) ?_
    refine lv_istore (lv' := [(4, .int (-1)), (0, .ref y), (1, .int mo), (2, .int u), (3, .int v)]) hx hb dX9_leastNew_41 hl (by decide) rfl (fun ls hl => ?_)
    refine lv_iconst (v := (nI 0)) hx hb dX9_leastNew_43 (by decide) ?_
    refine lv_istore (lv' := [(5, .int (nI 0)), (4, .int (-1)), (0, .ref y), (1, .int mo), (2, .int u), (3, .int v)]) hx hb dX9_leastNew_44 hl (by decide) rfl (fun ls hl => ?_)
    refine lv_iload hx hb dX9_leastNew_46 (lv_at hl 0 rfl) ?_
    refine lv_sipush (v := (nI 28561)) hx hb dX9_leastNew_48 (by decide) ?_
    refine lv_icmp_ge (tgt := 169) hx hb dX9_leastNew_51 (by decide) (fun cx => absurd cx (by decide)) (fun cx => ?_)
    refine lv_aload_n hx hb dX9_leastNew_54 rfl (lv_at hl 2 rfl) ?_
    refine mm_get hx hb hT hown hz hm 0 (by decide) wd_735 rfl (v := .int (nI 1)) rfl dX9_leastNew_55 ?_
    refine fw_top (x' := (nI 1)) (rfl) ?_
    refine lv_if_ne (tgt := 169) hx hb dX9_leastNew_58 (by decide) (fun cx => ?_) (fun cx => absurd cx (by decide))
    refine lv_aload_n hx hb dX9_leastNew_169 rfl (lv_at hl 2 rfl) ?_
    refine mm_get hx hb hT hown hz hm 0 (by decide) wd_735 rfl (v := .int (nI 1)) rfl dX9_leastNew_170 ?_
    refine lv_if_le (tgt := 180) hx hb dX9_leastNew_173 (by decide) (fun cx => absurd cx (by decide)) (fun cx => ?_)
    refine lv_iconst (v := (nI 0)) hx hb dX9_leastNew_176 (by decide) ?_
    refine lv_goto (tgt := 182) hx hb dX9_leastNew_177 (by decide) ?_
    exact mm_iret hx hb hr hlk (Nat.le_of_ble_eq_true rfl) (Nat.le_of_ble_eq_true rfl) hm dX9_leastNew_182 (⟨rfl, fun _ => rfl, fun i1 i2 h => by simp [rf_okL, h0] at h⟩)
  · have h0 := fw_b1 h0
    refine lv_iload_n hx hb dX9_leastNew_10 rfl (lv_at hl 2 rfl) ?_
    refine lv_iconst (v := (nI 1)) hx hb dX9_leastNew_11 (by decide) ?_
    refine lv_sipush (v := (nI 400)) hx hb dX9_leastNew_12 (by decide) ?_
    refine mm_calls (As := [.int u, .int (nI 1), .int (nI 400)]) (rest := [.ref y]) C hz hm (c_X9_in l G _ _ u (nI 1) (nI 400)) wd_821 ySX9_in ⟨Nat.le_of_ble_eq_true rfl, Nat.le_of_ble_eq_true rfl⟩ rfl hl.1 rfl (Nat.le_of_ble_eq_true rfl) dX9_leastNew_15 ⟨Nat.le_of_ble_eq_true rfl, Nat.le_of_ble_eq_true rfl⟩ (fun r H locs hm hp => ?_)
    refine W.widen (k := 0) (n := 0) (Nat.le_of_ble_eq_true rfl) (Nat.le_of_ble_eq_true rfl) ?_
    subst hp
    refine lv_if_eq (tgt := 36) hx hb dX9_leastNew_18 (by decide) (fun h1 => ?_) (fun h1 => ?_)
    · have h1 := fw_b0 h1
      refine lv_iconst (v := (nI 1)) hx hb dX9_leastNew_36 (by decide) ?_
      refine mm_put hx hb hT hown hz hm 0 (by decide) wd_735 dX9_leastNew_37 (fun F1 H locs hm => ?_)
      refine lv_iconst (v := (-1)) hx hb dX9_leastNew_40 (by decide) ?_
      refine lv_istore (lv' := [(4, .int (-1)), (0, .ref y), (1, .int mo), (2, .int u), (3, .int v)]) hx hb dX9_leastNew_41 hl (by decide) rfl (fun ls hl => ?_)
      refine lv_iconst (v := (nI 0)) hx hb dX9_leastNew_43 (by decide) ?_
      refine lv_istore (lv' := [(5, .int (nI 0)), (4, .int (-1)), (0, .ref y), (1, .int mo), (2, .int u), (3, .int v)]) hx hb dX9_leastNew_44 hl (by decide) rfl (fun ls hl => ?_)
      refine lv_iload hx hb dX9_leastNew_46 (lv_at hl 0 rfl) ?_
      refine lv_sipush (v := (nI 28561)) hx hb dX9_leastNew_48 (by decide) ?_
      refine lv_icmp_ge (tgt := 169) hx hb dX9_leastNew_51 (by decide) (fun cx => absurd cx (by decide)) (fun cx => ?_)
      refine lv_aload_n hx hb dX9_leastNew_54 rfl (lv_at hl 2 rfl) ?_
      refine mm_get hx hb hT hown hz hm 0 (by decide) wd_735 rfl (v := .int (nI 1)) rfl dX9_leastNew_55 ?_
      refine fw_top (x' := (nI 1)) (rfl) ?_
      refine lv_if_ne (tgt := 169) hx hb dX9_leastNew_58 (by decide) (fun cx => ?_) (fun cx => absurd cx (by decide))
      refine lv_aload_n hx hb dX9_leastNew_169 rfl (lv_at hl 2 rfl) ?_
      refine mm_get hx hb hT hown hz hm 0 (by decide) wd_735 rfl (v := .int (nI 1)) rfl dX9_leastNew_170 ?_
      refine lv_if_le (tgt := 180) hx hb dX9_leastNew_173 (by decide) (fun cx => absurd cx (by decide)) (fun cx => ?_)
      refine lv_iconst (v := (nI 0)) hx hb dX9_leastNew_176 (by decide) ?_
      refine lv_goto (tgt := 182) hx hb dX9_leastNew_177 (by decide) ?_
      exact mm_iret hx hb hr hlk (Nat.le_of_ble_eq_true rfl) (Nat.le_of_ble_eq_true rfl) hm dX9_leastNew_182 (⟨rfl, fun _ => rfl, fun i1 i2 h => by simp [rf_okL, h0, h1] at h⟩)
    · have h1 := fw_b1 h1
      refine lv_iload_n hx hb dX9_leastNew_21 rfl (lv_at hl 3 rfl) ?_
      refine lv_iconst (v := (nI 1)) hx hb dX9_leastNew_22 (by decide) ?_
      refine lv_sipush (v := (nI 400)) hx hb dX9_leastNew_23 (by decide) ?_
      refine mm_calls (As := [.int v, .int (nI 1), .int (nI 400)]) (rest := [.ref y]) C hz hm (c_X9_in l G _ _ v (nI 1) (nI 400)) wd_821 ySX9_in ⟨Nat.le_of_ble_eq_true rfl, Nat.le_of_ble_eq_true rfl⟩ rfl hl.1 rfl (Nat.le_of_ble_eq_true rfl) dX9_leastNew_26 ⟨Nat.le_of_ble_eq_true rfl, Nat.le_of_ble_eq_true rfl⟩ (fun r H locs hm hp => ?_)
      refine W.widen (k := 0) (n := 0) (Nat.le_of_ble_eq_true rfl) (Nat.le_of_ble_eq_true rfl) ?_
      subst hp
      refine lv_if_eq (tgt := 36) hx hb dX9_leastNew_29 (by decide) (fun h2 => ?_) (fun h2 => ?_)
      · have h2 := fw_b0 h2
        refine lv_iconst (v := (nI 1)) hx hb dX9_leastNew_36 (by decide) ?_
        refine mm_put hx hb hT hown hz hm 0 (by decide) wd_735 dX9_leastNew_37 (fun F1 H locs hm => ?_)
        refine lv_iconst (v := (-1)) hx hb dX9_leastNew_40 (by decide) ?_
        refine lv_istore (lv' := [(4, .int (-1)), (0, .ref y), (1, .int mo), (2, .int u), (3, .int v)]) hx hb dX9_leastNew_41 hl (by decide) rfl (fun ls hl => ?_)
        refine lv_iconst (v := (nI 0)) hx hb dX9_leastNew_43 (by decide) ?_
        refine lv_istore (lv' := [(5, .int (nI 0)), (4, .int (-1)), (0, .ref y), (1, .int mo), (2, .int u), (3, .int v)]) hx hb dX9_leastNew_44 hl (by decide) rfl (fun ls hl => ?_)
        refine lv_iload hx hb dX9_leastNew_46 (lv_at hl 0 rfl) ?_
        refine lv_sipush (v := (nI 28561)) hx hb dX9_leastNew_48 (by decide) ?_
        refine lv_icmp_ge (tgt := 169) hx hb dX9_leastNew_51 (by decide) (fun cx => absurd cx (by decide)) (fun cx => ?_)
        refine lv_aload_n hx hb dX9_leastNew_54 rfl (lv_at hl 2 rfl) ?_
        refine mm_get hx hb hT hown hz hm 0 (by decide) wd_735 rfl (v := .int (nI 1)) rfl dX9_leastNew_55 ?_
        refine fw_top (x' := (nI 1)) (rfl) ?_
        refine lv_if_ne (tgt := 169) hx hb dX9_leastNew_58 (by decide) (fun cx => ?_) (fun cx => absurd cx (by decide))
        refine lv_aload_n hx hb dX9_leastNew_169 rfl (lv_at hl 2 rfl) ?_
        refine mm_get hx hb hT hown hz hm 0 (by decide) wd_735 rfl (v := .int (nI 1)) rfl dX9_leastNew_170 ?_
        refine lv_if_le (tgt := 180) hx hb dX9_leastNew_173 (by decide) (fun cx => absurd cx (by decide)) (fun cx => ?_)
        refine lv_iconst (v := (nI 0)) hx hb dX9_leastNew_176 (by decide) ?_
        refine lv_goto (tgt := 182) hx hb dX9_leastNew_177 (by decide) ?_
        exact mm_iret hx hb hr hlk (Nat.le_of_ble_eq_true rfl) (Nat.le_of_ble_eq_true rfl) hm dX9_leastNew_182 (⟨rfl, fun _ => rfl, fun i1 i2 h => by simp [rf_okL, h0, h1, h2] at h⟩)
      · have h2 := fw_b1 h2
        obtain ⟨a1, ha1, ha2, rfl⟩ := rf_in_n (by decide) h1
        obtain ⟨b1, hb1, hb2, rfl⟩ := rf_in_n (by decide) h2
        refine lv_iconst (v := (nI 0)) hx hb dX9_leastNew_32 (by decide) ?_
        refine lv_goto (tgt := 37) hx hb dX9_leastNew_33 (by decide) ?_
        refine mm_put hx hb hT hown hz hm 0 (by decide) wd_735 dX9_leastNew_37 (fun F1 H locs hm => ?_)
        refine lv_iconst (v := (-1)) hx hb dX9_leastNew_40 (by decide) ?_
        refine lv_istore (lv' := [(4, .int (-1)), (0, .ref y), (1, .int mo), (2, .int (nI a1)), (3, .int (nI b1))]) hx hb dX9_leastNew_41 hl (by decide) rfl (fun ls hl => ?_)
        refine lv_iconst (v := (nI 0)) hx hb dX9_leastNew_43 (by decide) ?_
        refine lv_istore (lv' := [(5, .int (nI 0)), (4, .int (-1)), (0, .ref y), (1, .int mo), (2, .int (nI a1)), (3, .int (nI b1))]) hx hb dX9_leastNew_44 hl (by decide) rfl (fun ls hl => ?_)
        suffices hlp : ∀ (d k : Nat), k + d = 28561 →  ∀ (F1 : fw_F) (H : Heap) (locs : List Loc) (ls : Array Slot), mm_M G A s F y ad (va_up sc 0 (nI 0)) f F1 H locs → lv_has ls 11 [(5, .int (nI k)), (4, .int (rf_ln f nC mo a1 b1 k)), (0, .ref y), (1, .int mo), (2, .int (nI a1)), (3, .int (nI b1))] → W p l e { frames := 4, cells := 0, slots := 0, locals := 94 } s m ([.ref y, .int mo, .int (nI a1), .int (nI b1)] : List Value).toArray below meth c H locs 0 0 (MQ below (va_Qi (mm_post G y ad F (fun r sc1 f1 => f1 = f ∧ (rf_okL mo (nI a1) (nI b1) = false → sc1 = va_up sc 0 (nI 1)) ∧ (∀ i1 i2, rf_okL mo (nI a1) (nI b1) = true → nI a1 = nI i1 → nI b1 = nI i2 → i1 ≤ 400 → i2 ≤ 400 → sc1 = va_up sc 0 (nI 0) ∧ r = rf_ln f nC mo i1 i2 28561))) (fw_B G A) A) ([.ref y, .int mo, .int (nI a1), .int (nI b1)] : List Value).toArray s 0 0 A) (F0 m 46 ls []) by
          exact hlp 28561 0  (Nat.zero_add _)  _ _ _ _ hm (lv_sub hl [0, 1, 2, 3, 4, 5] rfl)
        intro d
        induction d with
        | zero =>
          intro k  hk  F1 H locs ls hm hl
          obtain rfl : k = 28561 := by omega
          refine lv_iload hx hb dX9_leastNew_46 (lv_at hl 0 rfl) ?_
          refine lv_sipush (v := (nI 28561)) hx hb dX9_leastNew_48 (by decide) ?_
          refine lv_icmp_ge (tgt := 169) hx hb dX9_leastNew_51 (by decide) (fun cx => ?_) (fun cx => absurd cx (by decide))
          refine lv_aload_n hx hb dX9_leastNew_169 rfl (lv_at hl 2 rfl) ?_
          refine mm_get hx hb hT hown hz hm 0 (by decide) wd_735 rfl (v := .int ((va_up sc 0 (nI 0)) 0)) rfl dX9_leastNew_170 ?_
          refine fw_top (x' := (nI 0)) (rfl) ?_
          refine lv_if_le (tgt := 180) hx hb dX9_leastNew_173 (by decide) (fun cx => ?_) (fun cx => absurd cx (by decide))
          refine lv_iload hx hb dX9_leastNew_180 (lv_at hl 1 rfl) ?_
          exact mm_iret hx hb hr hlk (Nat.le_of_ble_eq_true rfl) (Nat.le_of_ble_eq_true rfl) hm dX9_leastNew_182 (⟨rfl, fun h => by simp [rf_okL, h0, h1, h2] at h, fun i1 i2 _ g1 g2 g3 g4 => by obtain rfl := nI_j (by omega) (by omega) g1; obtain rfl := nI_j (by omega) (by omega) g2; exact ⟨rfl, rfl⟩⟩)
        | succ d ih =>
          intro k  hk  F1 H locs ls hm hl
          have hk9 : k < 28561 := by omega
          refine lv_iload hx hb dX9_leastNew_46 (lv_at hl 0 rfl) ?_
          refine lv_sipush (v := (nI 28561)) hx hb dX9_leastNew_48 (by decide) ?_
          refine lv_icmp_ge (tgt := 169) hx hb dX9_leastNew_51 (by decide) (fun d => ?_) (fun d => ?_)
          · have d := (nI_leI (a := 28561) (b := k) (by omega) (by omega)).mp d
            omega
          · have d : ¬ 28561 ≤ k := fun h9 => d ((nI_leI (a := 28561) (b := k) (by omega) (by omega)).mpr h9)
            refine lv_aload_n hx hb dX9_leastNew_54 rfl (lv_at hl 2 rfl) ?_
            refine mm_get hx hb hT hown hz hm 0 (by decide) wd_735 rfl (v := .int ((va_up sc 0 (nI 0)) 0)) rfl dX9_leastNew_55 ?_
            refine fw_top (x' := (nI 0)) (rfl) ?_
            refine lv_if_ne (tgt := 169) hx hb dX9_leastNew_58 (by decide) (fun cx => absurd cx (by decide)) (fun cx => ?_)
            refine lv_bipush (v := (nI 8)) hx hb dX9_leastNew_61 (by decide) ?_
            refine lv_iload hx hb dX9_leastNew_63 (lv_at hl 0 rfl) ?_
            refine lv_bipush (v := (nI 13)) hx hb dX9_leastNew_65 (by decide) ?_
            refine lv_irem hx hb dX9_leastNew_67 (nI_ne0 (by decide) (by decide)) ?_
            refine fw_top (x' := (nI (k % 13))) (pk_rem (by omega) (by decide) (by decide)) ?_
            refine lv_iadd hx hb dX9_leastNew_68 ?_
            refine fw_top (nI_add _ _) ?_
            refine lv_istore (lv' := [(6, .int (nI (8 + (k % 13)))), (5, .int (nI k)), (4, .int (rf_ln f nC mo a1 b1 k)), (0, .ref y), (1, .int mo), (2, .int (nI a1)), (3, .int (nI b1))]) hx hb dX9_leastNew_69 hl (by decide) rfl (fun ls hl => ?_)
            refine lv_bipush (v := (nI 8)) hx hb dX9_leastNew_71 (by decide) ?_
            refine lv_iload hx hb dX9_leastNew_73 (lv_at hl 1 rfl) ?_
            refine lv_bipush (v := (nI 13)) hx hb dX9_leastNew_75 (by decide) ?_
            refine lv_idiv hx hb dX9_leastNew_77 (nI_ne0 (by decide) (by decide)) ?_
            refine fw_top (x' := (nI (k / 13))) (pk_div (by omega) (by decide) (by decide)) ?_
            refine lv_bipush (v := (nI 13)) hx hb dX9_leastNew_78 (by decide) ?_
            refine lv_irem hx hb dX9_leastNew_80 (nI_ne0 (by decide) (by decide)) ?_
            refine fw_top (x' := (nI (k / 13 % 13))) (pk_rem (by omega) (by decide) (by decide)) ?_
            refine lv_iadd hx hb dX9_leastNew_81 ?_
            refine fw_top (nI_add _ _) ?_
            refine lv_istore (lv' := [(7, .int (nI (8 + (k / 13 % 13)))), (6, .int (nI (8 + (k % 13)))), (5, .int (nI k)), (4, .int (rf_ln f nC mo a1 b1 k)), (0, .ref y), (1, .int mo), (2, .int (nI a1)), (3, .int (nI b1))]) hx hb dX9_leastNew_82 hl (by decide) rfl (fun ls hl => ?_)
            refine lv_bipush (v := (nI 8)) hx hb dX9_leastNew_84 (by decide) ?_
            refine lv_iload hx hb dX9_leastNew_86 (lv_at hl 2 rfl) ?_
            refine lv_sipush (v := (nI 169)) hx hb dX9_leastNew_88 (by decide) ?_
            refine lv_idiv hx hb dX9_leastNew_91 (nI_ne0 (by decide) (by decide)) ?_
            refine fw_top (x' := (nI (k / 169))) (pk_div (by omega) (by decide) (by decide)) ?_
            refine lv_bipush (v := (nI 13)) hx hb dX9_leastNew_92 (by decide) ?_
            refine lv_irem hx hb dX9_leastNew_94 (nI_ne0 (by decide) (by decide)) ?_
            refine fw_top (x' := (nI (k / 169 % 13))) (pk_rem (by omega) (by decide) (by decide)) ?_
            refine lv_iadd hx hb dX9_leastNew_95 ?_
            refine fw_top (nI_add _ _) ?_
            refine lv_istore (lv' := [(8, .int (nI (8 + (k / 169 % 13)))), (7, .int (nI (8 + (k / 13 % 13)))), (6, .int (nI (8 + (k % 13)))), (5, .int (nI k)), (4, .int (rf_ln f nC mo a1 b1 k)), (0, .ref y), (1, .int mo), (2, .int (nI a1)), (3, .int (nI b1))]) hx hb dX9_leastNew_96 hl (by decide) rfl (fun ls hl => ?_)
            refine lv_bipush (v := (nI 8)) hx hb dX9_leastNew_98 (by decide) ?_
            refine lv_iload hx hb dX9_leastNew_100 (lv_at hl 3 rfl) ?_
            refine lv_sipush (v := (nI 2197)) hx hb dX9_leastNew_102 (by decide) ?_
            refine lv_idiv hx hb dX9_leastNew_105 (nI_ne0 (by decide) (by decide)) ?_
            refine fw_top (x' := (nI (k / 2197))) (pk_div (by omega) (by decide) (by decide)) ?_
            refine lv_iadd hx hb dX9_leastNew_106 ?_
            refine fw_top (nI_add _ _) ?_
            refine lv_istore (lv' := [(9, .int (nI (8 + (k / 2197)))), (8, .int (nI (8 + (k / 169 % 13)))), (7, .int (nI (8 + (k / 13 % 13)))), (6, .int (nI (8 + (k % 13)))), (5, .int (nI k)), (4, .int (rf_ln f nC mo a1 b1 k)), (0, .ref y), (1, .int mo), (2, .int (nI a1)), (3, .int (nI b1))]) hx hb dX9_leastNew_107 hl (by decide) rfl (fun ls hl => ?_)
            have n1 : 8 + k % 13 ≤ 20 := by omega
            have n2 : 8 + k / 13 % 13 ≤ 20 := by omega
            have n3 : 8 + k / 169 % 13 ≤ 20 := by omega
            have n4 : 8 + k / 2197 ≤ 20 := by omega
            have m1 : (8 + k / 13 % 13) * (8 + k / 2197) * b1 ≤ 20 * 20 * 400 := Nat.mul_le_mul (Nat.mul_le_mul n2 n4) hb2
            have m2 : (8 + k % 13) * (8 + k / 169 % 13) * a1 ≤ 20 * 20 * 400 := Nat.mul_le_mul (Nat.mul_le_mul n1 n3) ha2
            refine lv_iload hx hb dX9_leastNew_109 (lv_at hl 2 rfl) ?_
            refine lv_iload hx hb dX9_leastNew_111 (lv_at hl 0 rfl) ?_
            refine lv_imul hx hb dX9_leastNew_113 ?_
            refine fw_top (pk_mul _ _) ?_
            refine lv_iload_n hx hb dX9_leastNew_114 rfl (lv_at hl 9 rfl) ?_
            refine lv_imul hx hb dX9_leastNew_115 ?_
            refine fw_top (pk_mul _ _) ?_
            refine lv_iload hx hb dX9_leastNew_116 (lv_at hl 3 rfl) ?_
            refine lv_iload hx hb dX9_leastNew_118 (lv_at hl 1 rfl) ?_
            refine lv_imul hx hb dX9_leastNew_120 ?_
            refine fw_top (pk_mul _ _) ?_
            refine lv_iload_n hx hb dX9_leastNew_121 rfl (lv_at hl 8 rfl) ?_
            refine lv_imul hx hb dX9_leastNew_122 ?_
            refine fw_top (pk_mul _ _) ?_
            refine lv_icmp_ne (tgt := 163) hx hb dX9_leastNew_123 (by decide) (fun d1 => ?_) (fun d1 => ?_)
            · have d1 : ¬ (((8 + k / 13 % 13) * (8 + k / 2197)) * b1) = (((8 + k % 13) * (8 + k / 169 % 13)) * a1) := fun h9 => d1 ((nI_eq (a := ((8 + k / 13 % 13) * (8 + k / 2197)) * b1) (b := ((8 + k % 13) * (8 + k / 169 % 13)) * a1) (by omega) (by omega)).mpr h9)
              rw [show rf_ln f nC mo a1 b1 k = rf_ln f nC mo a1 b1 (k + 1) by rw [rf_ln_s, if_neg d1]] at hl
              refine lv_iinc (v := (nI (k + 1))) (lv' := [(5, .int (nI (k + 1))), (9, .int (nI (8 + k / 2197))), (8, .int (nI (8 + k / 169 % 13))), (7, .int (nI (8 + k / 13 % 13))), (6, .int (nI (8 + k % 13))), (4, .int (rf_ln f nC mo a1 b1 (k + 1))), (0, .ref y), (1, .int mo), (2, .int (nI a1)), (3, .int (nI b1))]) hx hb dX9_leastNew_163 hl (k := 4) rfl (nI_1 _) (by decide) rfl (fun ls hl => ?_)
              refine lv_goto (tgt := 46) hx hb dX9_leastNew_166 (by decide) ?_
              exact ih (k + 1)  (by omega)  _ _ _ _ hm (lv_sub hl [0, 5, 6, 7, 8, 9] rfl)
            · have d1 := (nI_eq (a := ((8 + k / 13 % 13) * (8 + k / 2197)) * b1) (b := ((8 + k % 13) * (8 + k / 169 % 13)) * a1) (by omega) (by omega)).mp d1
              refine lv_aload_n hx hb dX9_leastNew_126 rfl (lv_at hl 6 rfl) ?_
              refine lv_iload_n hx hb dX9_leastNew_127 rfl (lv_at hl 7 rfl) ?_
              refine lv_iload hx hb dX9_leastNew_128 (lv_at hl 3 rfl) ?_
              refine lv_iload hx hb dX9_leastNew_130 (lv_at hl 2 rfl) ?_
              refine lv_iload hx hb dX9_leastNew_132 (lv_at hl 1 rfl) ?_
              refine lv_iload hx hb dX9_leastNew_134 (lv_at hl 0 rfl) ?_
              refine mm_calli (As := [.int mo, .int (nI (8 + k % 13)), .int (nI (8 + k / 13 % 13)), .int (nI (8 + k / 169 % 13)), .int (nI (8 + k / 2197))]) (rest := []) C hz hm (c_X9_news l G _ _ y ad _ _ nC mo (nI (8 + k % 13)) (nI (8 + k / 13 % 13)) (nI (8 + k / 169 % 13)) (nI (8 + k / 2197)) hm.2.1 e1 hC) wd_957 yVX9_news ⟨Nat.le_of_ble_eq_true rfl, Nat.le_of_ble_eq_true rfl⟩ rfl hl.1 rfl (Nat.le_of_ble_eq_true rfl) dX9_leastNew_136 ⟨Nat.le_of_ble_eq_true rfl, Nat.le_of_ble_eq_true rfl⟩ (fun r sc1 f1 F1 H locs hm hp => ?_)
              refine W.widen (k := 0) (n := 0) (Nat.le_of_ble_eq_true rfl) (Nat.le_of_ble_eq_true rfl) ?_
              obtain ⟨h7, h8, h9⟩ := hp
              rw [h7, h8] at hm
              subst h9
              refine lv_istore (lv' := [(10, .int (nI (rf_news f nC mo (nI (8 + k % 13)) (nI (8 + k / 13 % 13)) (nI (8 + k / 169 % 13)) (nI (8 + k / 2197))))), (9, .int (nI (8 + k / 2197))), (8, .int (nI (8 + k / 169 % 13))), (7, .int (nI (8 + k / 13 % 13))), (6, .int (nI (8 + k % 13))), (5, .int (nI k)), (4, .int (rf_ln f nC mo a1 b1 k)), (0, .ref y), (1, .int mo), (2, .int (nI a1)), (3, .int (nI b1))]) hx hb dX9_leastNew_139 hl (by decide) rfl (fun ls hl => ?_)
              refine lv_iload hx hb dX9_leastNew_141 (lv_at hl 6 rfl) ?_
              refine lv_iconst (v := (-1)) hx hb dX9_leastNew_143 (by decide) ?_
              refine lv_icmp_eq (tgt := 154) hx hb dX9_leastNew_144 (by decide) (fun d2 => ?_) (fun d2 => ?_)
              · refine lv_iload hx hb dX9_leastNew_154 (lv_at hl 0 rfl) ?_
                refine lv_goto (tgt := 161) hx hb dX9_leastNew_156 (by decide) ?_
                refine fw_top (x' := (rf_ln f nC mo a1 b1 (k + 1))) (by rw [rf_ln_s, if_pos d1, if_pos (Or.inl d2)]) ?_
                refine lv_istore (lv' := [(4, .int (rf_ln f nC mo a1 b1 (k + 1))), (10, .int (nI (rf_news f nC mo (nI (8 + k % 13)) (nI (8 + k / 13 % 13)) (nI (8 + k / 169 % 13)) (nI (8 + k / 2197))))), (9, .int (nI (8 + k / 2197))), (8, .int (nI (8 + k / 169 % 13))), (7, .int (nI (8 + k / 13 % 13))), (6, .int (nI (8 + k % 13))), (5, .int (nI k)), (0, .ref y), (1, .int mo), (2, .int (nI a1)), (3, .int (nI b1))]) hx hb dX9_leastNew_161 hl (by decide) rfl (fun ls hl => ?_)
                refine lv_iinc (v := (nI (k + 1))) (lv' := [(5, .int (nI (k + 1))), (4, .int (rf_ln f nC mo a1 b1 (k + 1))), (10, .int (nI (rf_news f nC mo (nI (8 + k % 13)) (nI (8 + k / 13 % 13)) (nI (8 + k / 169 % 13)) (nI (8 + k / 2197))))), (9, .int (nI (8 + k / 2197))), (8, .int (nI (8 + k / 169 % 13))), (7, .int (nI (8 + k / 13 % 13))), (6, .int (nI (8 + k % 13))), (0, .ref y), (1, .int mo), (2, .int (nI a1)), (3, .int (nI b1))]) hx hb dX9_leastNew_163 hl (k := 6) rfl (nI_1 _) (by decide) rfl (fun ls hl => ?_)
                refine lv_goto (tgt := 46) hx hb dX9_leastNew_166 (by decide) ?_
                exact ih (k + 1)  (by omega)  _ _ _ _ hm (lv_sub hl [0, 1, 7, 8, 9, 10] rfl)
              · refine lv_iload hx hb dX9_leastNew_147 (lv_at hl 0 rfl) ?_
                refine lv_iload hx hb dX9_leastNew_149 (lv_at hl 6 rfl) ?_
                refine lv_icmp_ge (tgt := 159) hx hb dX9_leastNew_151 (by decide) (fun d3 => ?_) (fun d3 => ?_)
                · refine lv_iload hx hb dX9_leastNew_159 (lv_at hl 6 rfl) ?_
                  refine fw_top (x' := (rf_ln f nC mo a1 b1 (k + 1))) (by rw [rf_ln_s, if_pos d1, if_neg (fun h => h.elim d2 (fun h => absurd h (Int32.not_lt.mpr d3)))]) ?_
                  refine lv_istore (lv' := [(4, .int (rf_ln f nC mo a1 b1 (k + 1))), (10, .int (nI (rf_news f nC mo (nI (8 + k % 13)) (nI (8 + k / 13 % 13)) (nI (8 + k / 169 % 13)) (nI (8 + k / 2197))))), (9, .int (nI (8 + k / 2197))), (8, .int (nI (8 + k / 169 % 13))), (7, .int (nI (8 + k / 13 % 13))), (6, .int (nI (8 + k % 13))), (5, .int (nI k)), (0, .ref y), (1, .int mo), (2, .int (nI a1)), (3, .int (nI b1))]) hx hb dX9_leastNew_161 hl (by decide) rfl (fun ls hl => ?_)
                  refine lv_iinc (v := (nI (k + 1))) (lv' := [(5, .int (nI (k + 1))), (4, .int (rf_ln f nC mo a1 b1 (k + 1))), (10, .int (nI (rf_news f nC mo (nI (8 + k % 13)) (nI (8 + k / 13 % 13)) (nI (8 + k / 169 % 13)) (nI (8 + k / 2197))))), (9, .int (nI (8 + k / 2197))), (8, .int (nI (8 + k / 169 % 13))), (7, .int (nI (8 + k / 13 % 13))), (6, .int (nI (8 + k % 13))), (0, .ref y), (1, .int mo), (2, .int (nI a1)), (3, .int (nI b1))]) hx hb dX9_leastNew_163 hl (k := 6) rfl (nI_1 _) (by decide) rfl (fun ls hl => ?_)
                  refine lv_goto (tgt := 46) hx hb dX9_leastNew_166 (by decide) ?_
                  exact ih (k + 1)  (by omega)  _ _ _ _ hm (lv_sub hl [0, 1, 7, 8, 9, 10] rfl)
                · refine lv_iload hx hb dX9_leastNew_154 (lv_at hl 0 rfl) ?_
                  refine lv_goto (tgt := 161) hx hb dX9_leastNew_156 (by decide) ?_
                  refine fw_top (x' := (rf_ln f nC mo a1 b1 (k + 1))) (by rw [rf_ln_s, if_pos d1, if_pos (Or.inr (Int32.not_le.mp d3))]) ?_
                  refine lv_istore (lv' := [(4, .int (rf_ln f nC mo a1 b1 (k + 1))), (10, .int (nI (rf_news f nC mo (nI (8 + k % 13)) (nI (8 + k / 13 % 13)) (nI (8 + k / 169 % 13)) (nI (8 + k / 2197))))), (9, .int (nI (8 + k / 2197))), (8, .int (nI (8 + k / 169 % 13))), (7, .int (nI (8 + k / 13 % 13))), (6, .int (nI (8 + k % 13))), (5, .int (nI k)), (0, .ref y), (1, .int mo), (2, .int (nI a1)), (3, .int (nI b1))]) hx hb dX9_leastNew_161 hl (by decide) rfl (fun ls hl => ?_)
                  refine lv_iinc (v := (nI (k + 1))) (lv' := [(5, .int (nI (k + 1))), (4, .int (rf_ln f nC mo a1 b1 (k + 1))), (10, .int (nI (rf_news f nC mo (nI (8 + k % 13)) (nI (8 + k / 13 % 13)) (nI (8 + k / 169 % 13)) (nI (8 + k / 2197))))), (9, .int (nI (8 + k / 2197))), (8, .int (nI (8 + k / 169 % 13))), (7, .int (nI (8 + k / 13 % 13))), (6, .int (nI (8 + k % 13))), (0, .ref y), (1, .int mo), (2, .int (nI a1)), (3, .int (nI b1))]) hx hb dX9_leastNew_163 hl (k := 6) rfl (nI_1 _) (by decide) rfl (fun ls hl => ?_)
                  refine lv_goto (tgt := 46) hx hb dX9_leastNew_166 (by decide) ?_
                  exact ih (k + 1)  (by omega)  _ _ _ _ hm (lv_sub hl [0, 1, 7, 8, 9, 10] rfl)
