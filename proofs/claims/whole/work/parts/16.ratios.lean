/-! The reference's methods: ratios, and more answers of one place. -/
theorem fw_topL {p : Program} {l : Launch} {e : Env} {R : Room} {s : State} {m : MethodId} {args : Array Value} {below : List Frame} {meth : Method} {c : Code} {H : Heap} {locs : List Loc} {cells slots : Nat} {Q : State → Prop} {pc : Nat} {ls : Array Slot} {rest : List Value} {x x' : Int64} (h : x = x') (k : W p l e R s m args below meth c H locs cells slots Q (F0 m pc ls (.long x' :: rest))) : W p l e R s m args below meth c H locs cells slots Q (F0 m pc ls (.long x :: rest)) := by
  rw [h]
  exact k
def rf_n (x : Int32) : Nat := x.toNatClampNeg
theorem rf_n_nI {n : Nat} (h : n < 2 ^ 31) : rf_n (nI n) = n := nI_clamp h
def rf_sm (f : mm_A) (t : Nat) : Nat := rf_n (f 8 t)
def rf_ot (f : mm_A) (o : Nat) : Nat := rf_n (f 12 o)
def rf_st (f : mm_A) (i : Nat) : Nat := rf_n (f 9 i)
/-- a train's stages are what they should be -/
def rf_tok (f : mm_A) (t : Nat) : Prop := f 8 t = nI (rf_sm f t) ∧ 1 ≤ rf_sm f t ∧ rf_sm f t ≤ 4 ∧ ∀ k, k < rf_sm f t → (f 9 (12 * t + 3 * k) = nI (rf_st f (12 * t + 3 * k)) ∧ 1 ≤ rf_st f (12 * t + 3 * k) ∧ rf_st f (12 * t + 3 * k) ≤ 4) ∧ ∀ w, w = 1 ∨ w = 2 → f 9 (12 * t + 3 * k + w) = nI (rf_st f (12 * t + 3 * k + w)) ∧ 8 ≤ rf_st f (12 * t + 3 * k + w) ∧ rf_st f (12 * t + 3 * k + w) ≤ 60
def rf_pn (f : mm_A) (t w : Nat) : Nat → Nat
  | 0 => 1
  | k + 1 => rf_pn f t w k * rf_st f (12 * t + 3 * k + w)
def rf_P (f : mm_A) (t w : Nat) : Nat := rf_pn f t w (rf_sm f t)
theorem rf_prod_n {f : mm_A} {t w : Nat} (h : rf_tok f t) (hw : w = 1 ∨ w = 2) : ∀ k, k ≤ rf_sm f t → rf_prod f t w k = nI (rf_pn f t w k) ∧ 1 ≤ rf_pn f t w k ∧ rf_pn f t w k ≤ 60 ^ k
  | 0, _ => ⟨rfl, Nat.le_refl _, Nat.le_refl _⟩
  | k + 1, hk => by
    obtain ⟨h1, h2, h3⟩ := rf_prod_n h hw k (by omega)
    obtain ⟨g1, g2, g3⟩ := (h.2.2.2 k (by omega)).2 w hw
    refine ⟨?_, ?_, ?_⟩
    · show rf_prod f t w k * f 9 (12 * t + 3 * k + w) = nI (rf_pn f t w k * rf_st f (12 * t + 3 * k + w))
      rw [h1, g1, pk_mul]
    · exact Nat.mul_pos h2 (by omega)
    · rw [Nat.pow_succ]
      exact Nat.mul_le_mul h3 g3
theorem rf_P_ok {f : mm_A} {t w : Nat} (h : rf_tok f t) (hw : w = 1 ∨ w = 2) : rf_prod f t w (rf_sm f t) = nI (rf_P f t w) ∧ 1 ≤ rf_P f t w ∧ rf_P f t w ≤ 12960000 := by
  obtain ⟨h1, h2, h3⟩ := rf_prod_n h hw _ (Nat.le_refl _)
  exact ⟨h1, h2, Nat.le_trans h3 (Nat.le_trans (Nat.pow_le_pow_right (by decide) h.2.2.1) (by decide))⟩
set_option maxHeartbeats 4000000 in
set_option maxRecDepth 100000 in
theorem c_X9_common (l : Launch) (G : fw_G) (F : fw_F) (sz : Nat) (a b : Nat) (ha : a < 2147483648) (hb0 : b < 2147483648) : fw_Si l G F sz yX9_common cX9_common 5 (.int) { frames := 0, cells := 0, slots := 0, locals := 0 } [.int (nI a), .int (nI b)] (fun r => r = nI (Nat.gcd a b)) := by
  refine fw_met (lv := [(0, .int (nI a)), (1, .int (nI b))]) (by decide +kernel) (Nat.le_of_ble_eq_true rfl) rfl ?_
  intro A hA p e s m below meth c ls hx hb hml hown hT hr hlk hin hz hsz hw hAn hl
  rw [← hA]
  have hown : s.vm.findClass RX9 = some m.cls := hown
  have C : CallFix p m c cX9_common 5 s _ fw_tb RX9 := ⟨hx, hb, hml, hown, hT⟩
  refine lv_iload_n hx hb dX9_common_0 rfl (lv_at hl 0 rfl) ?_
  refine lv_istore_n (lv' := [(2, .int (nI a)), (0, .int (nI a)), (1, .int (nI b))]) hx hb dX9_common_1 rfl hl (by decide) rfl (fun ls hl => ?_)
  refine lv_iload_n hx hb dX9_common_2 rfl (lv_at hl 2 rfl) ?_
  refine lv_istore_n (lv' := [(3, .int (nI b)), (2, .int (nI a)), (0, .int (nI a)), (1, .int (nI b))]) hx hb dX9_common_3 rfl hl (by decide) rfl (fun ls hl => ?_)
  suffices hlp : ∀ (n a1 b1 : Nat), b1 ≤ n → a1 < 2147483648 → b1 < 2147483648 → Nat.gcd a1 b1 = Nat.gcd a b → ∀ (H : Heap) (locs : List Loc) (ls : Array Slot), fw_S G A s F H locs → lv_has ls 5 [(2, .int (nI a1)), (3, .int (nI b1))] → W p l e { frames := 0, cells := 0, slots := 0, locals := 0 } s m ([.int (nI a), .int (nI b)] : List Value).toArray below meth c H locs 0 0 (MQ below (va_Qi (fun r F1 => F1 = F ∧ (fun r => r = nI (Nat.gcd a b)) r) (fw_B G A) A) ([.int (nI a), .int (nI b)] : List Value).toArray s 0 0 A) (F0 m 4 ls []) by
    exact hlp b a b (Nat.le_refl _) ha hb0 rfl _ _ _ hw (lv_sub hl [1, 0] rfl)
  intro n
  induction n with
  | zero =>
    intro a1 b1 h1 h2 h3 h4 H locs ls hw hl
    refine lv_iload_n hx hb dX9_common_4 rfl (lv_at hl 1 rfl) ?_
    refine lv_if_le (tgt := 21) hx hb dX9_common_5 (by decide) (fun d => ?_) (fun d => ?_)
    · have d := (nI_leI (a := b1) (b := 0) (by omega) (by omega)).mp d
      refine lv_iload_n hx hb dX9_common_21 rfl (lv_at hl 0 rfl) ?_
      exact fw_iret hx hb hr hlk (Nat.le_of_ble_eq_true rfl) (Nat.le_of_ble_eq_true rfl) hw dX9_common_22 ⟨rfl, by rw [← h4, show b1 = 0 by omega, Nat.gcd_zero_right]⟩
    · have d : ¬ b1 ≤ 0 := fun h9 => d ((nI_leI (a := b1) (b := 0) (by omega) (by omega)).mpr h9)
      omega
  | succ n ih =>
    intro a1 b1 h1 h2 h3 h4 H locs ls hw hl
    refine lv_iload_n hx hb dX9_common_4 rfl (lv_at hl 1 rfl) ?_
    refine lv_if_le (tgt := 21) hx hb dX9_common_5 (by decide) (fun d => ?_) (fun d => ?_)
    · have d := (nI_leI (a := b1) (b := 0) (by omega) (by omega)).mp d
      refine lv_iload_n hx hb dX9_common_21 rfl (lv_at hl 0 rfl) ?_
      exact fw_iret hx hb hr hlk (Nat.le_of_ble_eq_true rfl) (Nat.le_of_ble_eq_true rfl) hw dX9_common_22 ⟨rfl, by rw [← h4, show b1 = 0 by omega, Nat.gcd_zero_right]⟩
    · have d : ¬ b1 ≤ 0 := fun h9 => d ((nI_leI (a := b1) (b := 0) (by omega) (by omega)).mpr h9)
      refine lv_iload_n hx hb dX9_common_8 rfl (lv_at hl 0 rfl) ?_
      refine lv_iload_n hx hb dX9_common_9 rfl (lv_at hl 1 rfl) ?_
      refine lv_irem hx hb dX9_common_10 (nI_ne0 (by omega) (by omega)) ?_
      refine fw_top (x' := (nI (a1 % b1))) (pk_rem h2 (by omega) h3) ?_
      refine lv_istore (lv' := [(4, .int (nI (a1 % b1))), (2, .int (nI a1)), (3, .int (nI b1))]) hx hb dX9_common_11 hl (by decide) rfl (fun ls hl => ?_)
      refine lv_iload_n hx hb dX9_common_13 rfl (lv_at hl 2 rfl) ?_
      refine lv_istore_n (lv' := [(2, .int (nI b1)), (4, .int (nI (a1 % b1))), (3, .int (nI b1))]) hx hb dX9_common_14 rfl hl (by decide) rfl (fun ls hl => ?_)
      refine lv_iload hx hb dX9_common_15 (lv_at hl 1 rfl) ?_
      refine lv_istore_n (lv' := [(3, .int (nI (a1 % b1))), (2, .int (nI b1)), (4, .int (nI (a1 % b1)))]) hx hb dX9_common_17 rfl hl (by decide) rfl (fun ls hl => ?_)
      refine lv_goto (tgt := 4) hx hb dX9_common_18 (by decide) ?_
      exact ih b1 (a1 % b1) (by have := Nat.mod_lt a1 (show b1 > 0 by omega); omega) h3 (by have := Nat.mod_lt a1 (show b1 > 0 by omega); omega) (by rw [← h4, Nat.gcd_comm b1, ← Nat.gcd_rec, Nat.gcd_comm]) _ _ _ hw (lv_sub hl [1, 0] rfl)
set_option maxHeartbeats 4000000 in
set_option maxRecDepth 100000 in
theorem c_X9_numerator (l : Launch) (G : fw_G) (F : fw_F) (sz y : Nat) (ad : Nat → Nat) (sc : mm_S) (f : mm_A) (nT : Nat) (t : Int32) (hW : mm_W G F y ad sc f) (e7 : sc 7 = nI nT) (hn : nT ≤ 8) (htok : ∀ j, j < nT → rf_tok f j) : mm_Ci l G F sz y ad yX9_numerator cX9_numerator 2 (.int) { frames := 2, cells := 0, slots := 0, locals := 43 } [.int t] (fun r sc1 f1 => f1 = f ∧ sc1 = va_up sc 0 (fw_b (!rf_ix t nT)) ∧ (∀ j, j < nT → t = nI j → r = nI (rf_P f j 2 / Nat.gcd (rf_P f j 2) (rf_P f j 1)))) := by
  refine fw_met (lv := [(0, .ref y), (1, .int t)]) (by decide +kernel) (Nat.le_of_ble_eq_true rfl) rfl ?_
  intro A hA p e s m below meth c ls hx hb hml hown hT hr hlk hin hz hsz hw hAn hl
  rw [← hA]
  have hown : s.vm.findClass RX9 = some m.cls := hown
  have C : CallFix p m c cX9_numerator 2 s _ fw_tb RX9 := ⟨hx, hb, hml, hown, hT⟩
  have hm : mm_M G A s F y ad sc f F s.heap [] := ⟨hw, hW, mm_keep.rf⟩
  refine lv_aload_n hx hb dX9_numerator_0 rfl (lv_at hl 0 rfl) ?_
  refine lv_iload_n hx hb dX9_numerator_1 rfl (lv_at hl 1 rfl) ?_
  refine mm_calli (As := [.int t]) (rest := []) C hz hm (c_X9_isTrain l G _ _ y ad _ _ nT t hm.2.1 e7) wd_852 yVX9_isTrain ⟨Nat.le_of_ble_eq_true rfl, Nat.le_of_ble_eq_true rfl⟩ rfl hl.1 rfl (Nat.le_of_ble_eq_true rfl) dX9_numerator_2 ⟨Nat.le_of_ble_eq_true rfl, Nat.le_of_ble_eq_true rfl⟩ (fun r sc1 f1 F1 H locs hm hp => ?_)
  refine W.widen (k := 0) (n := 0) (Nat.le_of_ble_eq_true rfl) (Nat.le_of_ble_eq_true rfl) ?_
  obtain ⟨h7, h8, h9⟩ := hp
  rw [h7, h8] at hm
  subst h9
  refine lv_if_eq (tgt := 33) hx hb dX9_numerator_5 (by decide) (fun c => ?_) (fun c => ?_)
  · have c := fw_b0 c
    refine lv_iconst (v := (nI 0)) hx hb dX9_numerator_33 (by decide) ?_
    exact mm_iret hx hb hr hlk (Nat.le_of_ble_eq_true rfl) (Nat.le_of_ble_eq_true rfl) hm dX9_numerator_34 (⟨rfl, rfl, fun j h1 h2 => absurd (rf_in_of (by omega) h1 h2) (by rw [c]; decide)⟩)
  · have c := fw_b1 c
    obtain ⟨j, hj, rfl⟩ : ∃ j, j < nT ∧ t = nI j := rf_ix_t (by omega) c
    have k0 := htok j hj
    have k1 := rf_P_ok k0 (w := 1) (Or.inl rfl)
    have k2 := rf_P_ok k0 (w := 2) (Or.inr rfl)
    refine lv_aload_n hx hb dX9_numerator_8 rfl (lv_at hl 0 rfl) ?_
    refine lv_iload_n hx hb dX9_numerator_9 rfl (lv_at hl 1 rfl) ?_
    refine lv_iconst (v := (nI 2)) hx hb dX9_numerator_10 (by decide) ?_
    refine mm_calli (As := [.int (nI j), .int (nI 2)]) (rest := []) C hz hm (c_X9_product l G _ _ y ad _ _ j 2 (rf_sm f j) hm.2.1 k0.1 (by omega) k0.2.2.1 (by decide)) wd_856 yVX9_product ⟨Nat.le_of_ble_eq_true rfl, Nat.le_of_ble_eq_true rfl⟩ rfl hl.1 rfl (Nat.le_of_ble_eq_true rfl) dX9_numerator_11 ⟨Nat.le_of_ble_eq_true rfl, Nat.le_of_ble_eq_true rfl⟩ (fun r sc1 f1 F1 H locs hm hp => ?_)
    refine W.widen (k := 0) (n := 0) (Nat.le_of_ble_eq_true rfl) (Nat.le_of_ble_eq_true rfl) ?_
    obtain ⟨h7, h8, h9⟩ := hp
    rw [h7, h8] at hm
    subst h9
    refine fw_top (x' := (nI (rf_P f j 2))) (k2.1) ?_
    refine lv_aload_n hx hb dX9_numerator_14 rfl (lv_at hl 0 rfl) ?_
    refine lv_iload_n hx hb dX9_numerator_15 rfl (lv_at hl 1 rfl) ?_
    refine lv_iconst (v := (nI 2)) hx hb dX9_numerator_16 (by decide) ?_
    refine mm_calli (As := [.int (nI j), .int (nI 2)]) (rest := [.int (nI (rf_P f j 2))]) C hz hm (c_X9_product l G _ _ y ad _ _ j 2 (rf_sm f j) hm.2.1 k0.1 (by omega) k0.2.2.1 (by decide)) wd_856 yVX9_product ⟨Nat.le_of_ble_eq_true rfl, Nat.le_of_ble_eq_true rfl⟩ rfl hl.1 rfl (Nat.le_of_ble_eq_true rfl) dX9_numerator_17 ⟨Nat.le_of_ble_eq_true rfl, Nat.le_of_ble_eq_true rfl⟩ (fun r sc1 f1 F1 H locs hm hp => ?_)
    refine W.widen (k := 0) (n := 0) (Nat.le_of_ble_eq_true rfl) (Nat.le_of_ble_eq_true rfl) ?_
    obtain ⟨h7, h8, h9⟩ := hp
    rw [h7, h8] at hm
    subst h9
    refine fw_top (x' := (nI (rf_P f j 2))) (k2.1) ?_
    refine lv_aload_n hx hb dX9_numerator_20 rfl (lv_at hl 0 rfl) ?_
    refine lv_iload_n hx hb dX9_numerator_21 rfl (lv_at hl 1 rfl) ?_
    refine lv_iconst (v := (nI 1)) hx hb dX9_numerator_22 (by decide) ?_
    refine mm_calli (As := [.int (nI j), .int (nI 1)]) (rest := [.int (nI (rf_P f j 2)), .int (nI (rf_P f j 2))]) C hz hm (c_X9_product l G _ _ y ad _ _ j 1 (rf_sm f j) hm.2.1 k0.1 (by omega) k0.2.2.1 (by decide)) wd_856 yVX9_product ⟨Nat.le_of_ble_eq_true rfl, Nat.le_of_ble_eq_true rfl⟩ rfl hl.1 rfl (Nat.le_of_ble_eq_true rfl) dX9_numerator_23 ⟨Nat.le_of_ble_eq_true rfl, Nat.le_of_ble_eq_true rfl⟩ (fun r sc1 f1 F1 H locs hm hp => ?_)
    refine W.widen (k := 0) (n := 0) (Nat.le_of_ble_eq_true rfl) (Nat.le_of_ble_eq_true rfl) ?_
    obtain ⟨h7, h8, h9⟩ := hp
    rw [h7, h8] at hm
    subst h9
    refine fw_top (x' := (nI (rf_P f j 1))) (k1.1) ?_
    refine mm_calls (As := [.int (nI (rf_P f j 2)), .int (nI (rf_P f j 1))]) (rest := [.int (nI (rf_P f j 2))]) C hz hm (c_X9_common l G _ _ (rf_P f j 2) (rf_P f j 1) (by omega) (by omega)) wd_860 ySX9_common ⟨Nat.le_of_ble_eq_true rfl, Nat.le_of_ble_eq_true rfl⟩ rfl hl.1 rfl (Nat.le_of_ble_eq_true rfl) dX9_numerator_26 ⟨Nat.le_of_ble_eq_true rfl, Nat.le_of_ble_eq_true rfl⟩ (fun r H locs hm hp => ?_)
    refine W.widen (k := 0) (n := 0) (Nat.le_of_ble_eq_true rfl) (Nat.le_of_ble_eq_true rfl) ?_
    subst hp
    have kg : 0 < Nat.gcd (rf_P f j 2) (rf_P f j 1) := Nat.gcd_pos_of_pos_right _ (by omega)
    have kl : Nat.gcd (rf_P f j 2) (rf_P f j 1) ≤ rf_P f j 1 := Nat.gcd_le_right _ (by omega)
    refine lv_idiv hx hb dX9_numerator_29 (nI_ne0 kg (by omega)) ?_
    refine fw_top (x' := (nI (rf_P f j 2 / Nat.gcd (rf_P f j 2) (rf_P f j 1)))) (pk_div (by omega) kg (by omega)) ?_
    refine lv_goto (tgt := 34) hx hb dX9_numerator_30 (by decide) ?_
    exact mm_iret hx hb hr hlk (Nat.le_of_ble_eq_true rfl) (Nat.le_of_ble_eq_true rfl) hm dX9_numerator_34 (⟨rfl, rfl, fun i h1 h2 => by rw [nI_j (by omega) (by omega) h2]⟩)
set_option maxHeartbeats 4000000 in
set_option maxRecDepth 100000 in
theorem c_X9_denominator (l : Launch) (G : fw_G) (F : fw_F) (sz y : Nat) (ad : Nat → Nat) (sc : mm_S) (f : mm_A) (nT : Nat) (t : Int32) (hW : mm_W G F y ad sc f) (e7 : sc 7 = nI nT) (hn : nT ≤ 8) (htok : ∀ j, j < nT → rf_tok f j) : mm_Ci l G F sz y ad yX9_denominator cX9_denominator 2 (.int) { frames := 2, cells := 0, slots := 0, locals := 43 } [.int t] (fun r sc1 f1 => f1 = f ∧ sc1 = va_up sc 0 (fw_b (!rf_ix t nT)) ∧ (∀ j, j < nT → t = nI j → r = nI (rf_P f j 1 / Nat.gcd (rf_P f j 2) (rf_P f j 1)))) := by
  refine fw_met (lv := [(0, .ref y), (1, .int t)]) (by decide +kernel) (Nat.le_of_ble_eq_true rfl) rfl ?_
  intro A hA p e s m below meth c ls hx hb hml hown hT hr hlk hin hz hsz hw hAn hl
  rw [← hA]
  have hown : s.vm.findClass RX9 = some m.cls := hown
  have C : CallFix p m c cX9_denominator 2 s _ fw_tb RX9 := ⟨hx, hb, hml, hown, hT⟩
  have hm : mm_M G A s F y ad sc f F s.heap [] := ⟨hw, hW, mm_keep.rf⟩
  refine lv_aload_n hx hb dX9_denominator_0 rfl (lv_at hl 0 rfl) ?_
  refine lv_iload_n hx hb dX9_denominator_1 rfl (lv_at hl 1 rfl) ?_
  refine mm_calli (As := [.int t]) (rest := []) C hz hm (c_X9_isTrain l G _ _ y ad _ _ nT t hm.2.1 e7) wd_852 yVX9_isTrain ⟨Nat.le_of_ble_eq_true rfl, Nat.le_of_ble_eq_true rfl⟩ rfl hl.1 rfl (Nat.le_of_ble_eq_true rfl) dX9_denominator_2 ⟨Nat.le_of_ble_eq_true rfl, Nat.le_of_ble_eq_true rfl⟩ (fun r sc1 f1 F1 H locs hm hp => ?_)
  refine W.widen (k := 0) (n := 0) (Nat.le_of_ble_eq_true rfl) (Nat.le_of_ble_eq_true rfl) ?_
  obtain ⟨h7, h8, h9⟩ := hp
  rw [h7, h8] at hm
  subst h9
  refine lv_if_eq (tgt := 33) hx hb dX9_denominator_5 (by decide) (fun c => ?_) (fun c => ?_)
  · have c := fw_b0 c
    refine lv_iconst (v := (nI 0)) hx hb dX9_denominator_33 (by decide) ?_
    exact mm_iret hx hb hr hlk (Nat.le_of_ble_eq_true rfl) (Nat.le_of_ble_eq_true rfl) hm dX9_denominator_34 (⟨rfl, rfl, fun j h1 h2 => absurd (rf_in_of (by omega) h1 h2) (by rw [c]; decide)⟩)
  · have c := fw_b1 c
    obtain ⟨j, hj, rfl⟩ : ∃ j, j < nT ∧ t = nI j := rf_ix_t (by omega) c
    have k0 := htok j hj
    have k1 := rf_P_ok k0 (w := 1) (Or.inl rfl)
    have k2 := rf_P_ok k0 (w := 2) (Or.inr rfl)
    refine lv_aload_n hx hb dX9_denominator_8 rfl (lv_at hl 0 rfl) ?_
    refine lv_iload_n hx hb dX9_denominator_9 rfl (lv_at hl 1 rfl) ?_
    refine lv_iconst (v := (nI 1)) hx hb dX9_denominator_10 (by decide) ?_
    refine mm_calli (As := [.int (nI j), .int (nI 1)]) (rest := []) C hz hm (c_X9_product l G _ _ y ad _ _ j 1 (rf_sm f j) hm.2.1 k0.1 (by omega) k0.2.2.1 (by decide)) wd_856 yVX9_product ⟨Nat.le_of_ble_eq_true rfl, Nat.le_of_ble_eq_true rfl⟩ rfl hl.1 rfl (Nat.le_of_ble_eq_true rfl) dX9_denominator_11 ⟨Nat.le_of_ble_eq_true rfl, Nat.le_of_ble_eq_true rfl⟩ (fun r sc1 f1 F1 H locs hm hp => ?_)
    refine W.widen (k := 0) (n := 0) (Nat.le_of_ble_eq_true rfl) (Nat.le_of_ble_eq_true rfl) ?_
    obtain ⟨h7, h8, h9⟩ := hp
    rw [h7, h8] at hm
    subst h9
    refine fw_top (x' := (nI (rf_P f j 1))) (k1.1) ?_
    refine lv_aload_n hx hb dX9_denominator_14 rfl (lv_at hl 0 rfl) ?_
    refine lv_iload_n hx hb dX9_denominator_15 rfl (lv_at hl 1 rfl) ?_
    refine lv_iconst (v := (nI 2)) hx hb dX9_denominator_16 (by decide) ?_
    refine mm_calli (As := [.int (nI j), .int (nI 2)]) (rest := [.int (nI (rf_P f j 1))]) C hz hm (c_X9_product l G _ _ y ad _ _ j 2 (rf_sm f j) hm.2.1 k0.1 (by omega) k0.2.2.1 (by decide)) wd_856 yVX9_product ⟨Nat.le_of_ble_eq_true rfl, Nat.le_of_ble_eq_true rfl⟩ rfl hl.1 rfl (Nat.le_of_ble_eq_true rfl) dX9_denominator_17 ⟨Nat.le_of_ble_eq_true rfl, Nat.le_of_ble_eq_true rfl⟩ (fun r sc1 f1 F1 H locs hm hp => ?_)
    refine W.widen (k := 0) (n := 0) (Nat.le_of_ble_eq_true rfl) (Nat.le_of_ble_eq_true rfl) ?_
    obtain ⟨h7, h8, h9⟩ := hp
    rw [h7, h8] at hm
    subst h9
    refine fw_top (x' := (nI (rf_P f j 2))) (k2.1) ?_
    refine lv_aload_n hx hb dX9_denominator_20 rfl (lv_at hl 0 rfl) ?_
    refine lv_iload_n hx hb dX9_denominator_21 rfl (lv_at hl 1 rfl) ?_
    refine lv_iconst (v := (nI 1)) hx hb dX9_denominator_22 (by decide) ?_
    refine mm_calli (As := [.int (nI j), .int (nI 1)]) (rest := [.int (nI (rf_P f j 2)), .int (nI (rf_P f j 1))]) C hz hm (c_X9_product l G _ _ y ad _ _ j 1 (rf_sm f j) hm.2.1 k0.1 (by omega) k0.2.2.1 (by decide)) wd_856 yVX9_product ⟨Nat.le_of_ble_eq_true rfl, Nat.le_of_ble_eq_true rfl⟩ rfl hl.1 rfl (Nat.le_of_ble_eq_true rfl) dX9_denominator_23 ⟨Nat.le_of_ble_eq_true rfl, Nat.le_of_ble_eq_true rfl⟩ (fun r sc1 f1 F1 H locs hm hp => ?_)
    refine W.widen (k := 0) (n := 0) (Nat.le_of_ble_eq_true rfl) (Nat.le_of_ble_eq_true rfl) ?_
    obtain ⟨h7, h8, h9⟩ := hp
    rw [h7, h8] at hm
    subst h9
    refine fw_top (x' := (nI (rf_P f j 1))) (k1.1) ?_
    refine mm_calls (As := [.int (nI (rf_P f j 2)), .int (nI (rf_P f j 1))]) (rest := [.int (nI (rf_P f j 1))]) C hz hm (c_X9_common l G _ _ (rf_P f j 2) (rf_P f j 1) (by omega) (by omega)) wd_860 ySX9_common ⟨Nat.le_of_ble_eq_true rfl, Nat.le_of_ble_eq_true rfl⟩ rfl hl.1 rfl (Nat.le_of_ble_eq_true rfl) dX9_denominator_26 ⟨Nat.le_of_ble_eq_true rfl, Nat.le_of_ble_eq_true rfl⟩ (fun r H locs hm hp => ?_)
    refine W.widen (k := 0) (n := 0) (Nat.le_of_ble_eq_true rfl) (Nat.le_of_ble_eq_true rfl) ?_
    subst hp
    have kg : 0 < Nat.gcd (rf_P f j 2) (rf_P f j 1) := Nat.gcd_pos_of_pos_right _ (by omega)
    have kl : Nat.gcd (rf_P f j 2) (rf_P f j 1) ≤ rf_P f j 1 := Nat.gcd_le_right _ (by omega)
    refine lv_idiv hx hb dX9_denominator_29 (nI_ne0 kg (by omega)) ?_
    refine fw_top (x' := (nI (rf_P f j 1 / Nat.gcd (rf_P f j 2) (rf_P f j 1)))) (pk_div (by omega) kg (by omega)) ?_
    refine lv_goto (tgt := 34) hx hb dX9_denominator_30 (by decide) ?_
    exact mm_iret hx hb hr hlk (Nat.le_of_ble_eq_true rfl) (Nat.le_of_ble_eq_true rfl) hm dX9_denominator_34 (⟨rfl, rfl, fun i h1 h2 => by rw [nI_j (by omega) (by omega) h2]⟩)
set_option maxHeartbeats 4000000 in
set_option maxRecDepth 100000 in
theorem c_X9_turned (l : Launch) (G : fw_G) (F : fw_F) (sz y : Nat) (ad : Nat → Nat) (sc : mm_S) (f : mm_A) (nT : Nat) (t q : Int32) (hW : mm_W G F y ad sc f) (e7 : sc 7 = nI nT) (hn : nT ≤ 8) (htok : ∀ j, j < nT → rf_tok f j) : mm_Ci l G F sz y ad yX9_turned cX9_turned 3 (.int) { frames := 2, cells := 0, slots := 0, locals := 43 } [.int t, .int q] (fun r sc1 f1 => f1 = f ∧ (rf_ix t nT = false → sc1 = va_up sc 0 (nI 1)) ∧ (rf_ix t nT = true → rf_in q (nI 0) (nI 600000) = false → sc1 = va_up sc 0 (nI 2)) ∧ (∀ j i, j < nT → t = nI j → i ≤ 600000 → q = nI i → sc1 = va_up sc 0 (nI 0) ∧ r = nI (i * rf_P f j 1 / rf_P f j 2))) := by
  refine fw_met (lv := [(0, .ref y), (1, .int t), (2, .int q)]) (by decide +kernel) (Nat.le_of_ble_eq_true rfl) rfl ?_
  intro A hA p e s m below meth c ls hx hb hml hown hT hr hlk hin hz hsz hw hAn hl
  rw [← hA]
  have hown : s.vm.findClass RX9 = some m.cls := hown
  have C : CallFix p m c cX9_turned 3 s _ fw_tb RX9 := ⟨hx, hb, hml, hown, hT⟩
  have hm : mm_M G A s F y ad sc f F s.heap [] := ⟨hw, hW, mm_keep.rf⟩
  refine lv_aload_n hx hb dX9_turned_0 rfl (lv_at hl 0 rfl) ?_
  refine lv_aload_n hx hb dX9_turned_1 rfl (lv_at hl 0 rfl) ?_
  refine lv_iload_n hx hb dX9_turned_2 rfl (lv_at hl 1 rfl) ?_
  refine mm_calli (As := [.int t]) (rest := [.ref y]) C hz hm (c_X9_isTrain l G _ _ y ad _ _ nT t hm.2.1 e7) wd_852 yVX9_isTrain ⟨Nat.le_of_ble_eq_true rfl, Nat.le_of_ble_eq_true rfl⟩ rfl hl.1 rfl (Nat.le_of_ble_eq_true rfl) dX9_turned_3 ⟨Nat.le_of_ble_eq_true rfl, Nat.le_of_ble_eq_true rfl⟩ (fun r sc1 f1 F1 H locs hm hp => ?_)
  refine W.widen (k := 0) (n := 0) (Nat.le_of_ble_eq_true rfl) (Nat.le_of_ble_eq_true rfl) ?_
  obtain ⟨h7, h8, h9⟩ := hp
  rw [h7, h8] at hm
  subst h9
  refine lv_if_ne (tgt := 13) hx hb dX9_turned_6 (by decide) (fun c => ?_) (fun c => ?_)
  · have c := fw_b1 c
    refine lv_iload_n hx hb dX9_turned_13 rfl (lv_at hl 2 rfl) ?_
    refine lv_iconst (v := (nI 0)) hx hb dX9_turned_14 (by decide) ?_
    refine lv_ldc hx hb hown (hT _ wd_871) dX9_turned_15 ?_
    refine mm_calls (As := [.int q, .int (nI 0), .int (nI 600000)]) (rest := [.ref y]) C hz hm (c_X9_in l G _ _ q (nI 0) (nI 600000)) wd_821 ySX9_in ⟨Nat.le_of_ble_eq_true rfl, Nat.le_of_ble_eq_true rfl⟩ rfl hl.1 rfl (Nat.le_of_ble_eq_true rfl) dX9_turned_17 ⟨Nat.le_of_ble_eq_true rfl, Nat.le_of_ble_eq_true rfl⟩ (fun r H locs hm hp => ?_)
    refine W.widen (k := 0) (n := 0) (Nat.le_of_ble_eq_true rfl) (Nat.le_of_ble_eq_true rfl) ?_
    subst hp
    refine lv_if_eq (tgt := 27) hx hb dX9_turned_20 (by decide) (fun d => ?_) (fun d => ?_)
    · have d := fw_b0 d
      refine lv_iconst (v := (nI 2)) hx hb dX9_turned_27 (by decide) ?_
      refine mm_put hx hb hT hown hz hm 0 (by decide) wd_735 dX9_turned_28 (fun F1 H locs hm => ?_)
      refine lv_aload_n hx hb dX9_turned_31 rfl (lv_at hl 0 rfl) ?_
      refine mm_get hx hb hT hown hz hm 0 (by decide) wd_735 rfl (v := .int (nI 2)) rfl dX9_turned_32 ?_
      refine lv_if_le (tgt := 42) hx hb dX9_turned_35 (by decide) (fun cx => absurd cx (by decide)) (fun cx => ?_)
      refine lv_iconst (v := (nI 0)) hx hb dX9_turned_38 (by decide) ?_
      refine lv_goto (tgt := 61) hx hb dX9_turned_39 (by decide) ?_
      exact mm_iret hx hb hr hlk (Nat.le_of_ble_eq_true rfl) (Nat.le_of_ble_eq_true rfl) hm dX9_turned_61 (⟨rfl, fun h => absurd h (by rw [c]; decide), fun _ _ => bx_uu _ _ _ _, fun j i h1 h2 h3 h4 => by subst h4; rw [rf_in_t.mpr ⟨nI_le (Nat.zero_le _) (by omega), nI_le h3 (by decide)⟩] at d; cases d⟩)
    · have d := fw_b1 d
      obtain ⟨j, hj, rfl⟩ : ∃ j, j < nT ∧ t = nI j := rf_ix_t (by omega) c
      obtain ⟨i, hi, rfl⟩ : ∃ i, i ≤ 600000 ∧ q = nI i := nI_of2 (M := nI 600000) (by decide) (Int32.not_lt.mpr (rf_in_t.mp d).1) (rf_in_t.mp d).2
      have k0 := htok j hj
      have k1 := rf_P_ok k0 (w := 1) (Or.inl rfl)
      have k2 := rf_P_ok k0 (w := 2) (Or.inr rfl)
      refine lv_iconst (v := (nI 0)) hx hb dX9_turned_23 (by decide) ?_
      refine lv_goto (tgt := 28) hx hb dX9_turned_24 (by decide) ?_
      refine mm_put hx hb hT hown hz hm 0 (by decide) wd_735 dX9_turned_28 (fun F1 H locs hm => ?_)
      refine lv_aload_n hx hb dX9_turned_31 rfl (lv_at hl 0 rfl) ?_
      refine mm_get hx hb hT hown hz hm 0 (by decide) wd_735 rfl (v := .int (nI 0)) rfl dX9_turned_32 ?_
      refine lv_if_le (tgt := 42) hx hb dX9_turned_35 (by decide) (fun cx => ?_) (fun cx => absurd cx (by decide))
      refine lv_iload_n hx hb dX9_turned_42 rfl (lv_at hl 2 rfl) ?_
      refine lv_i2l (v := lN i) hx hb dX9_turned_43 (nI_l (by omega)) ?_
      refine lv_aload_n hx hb dX9_turned_44 rfl (lv_at hl 0 rfl) ?_
      refine lv_iload_n hx hb dX9_turned_45 rfl (lv_at hl 1 rfl) ?_
      refine lv_iconst (v := (nI 1)) hx hb dX9_turned_46 (by decide) ?_
      refine mm_calli (As := [.int (nI j), .int (nI 1)]) (rest := [.long (lN i)]) C hz hm (c_X9_product l G _ _ y ad _ _ j 1 (rf_sm f j) hm.2.1 k0.1 (by omega) k0.2.2.1 (by decide)) wd_856 yVX9_product ⟨Nat.le_of_ble_eq_true rfl, Nat.le_of_ble_eq_true rfl⟩ rfl hl.1 rfl (Nat.le_of_ble_eq_true rfl) dX9_turned_47 ⟨Nat.le_of_ble_eq_true rfl, Nat.le_of_ble_eq_true rfl⟩ (fun r sc1 f1 F1 H locs hm hp => ?_)
      refine W.widen (k := 0) (n := 0) (Nat.le_of_ble_eq_true rfl) (Nat.le_of_ble_eq_true rfl) ?_
      obtain ⟨h7, h8, h9⟩ := hp
      rw [h7, h8] at hm
      subst h9
      refine fw_top (x' := (nI (rf_P f j 1))) (k1.1) ?_
      refine lv_i2l (v := lN (rf_P f j 1)) hx hb dX9_turned_50 (nI_l (by omega)) ?_
      refine lv_lmul hx hb dX9_turned_51 ?_
      refine fw_topL (lN_mul _ _) ?_
      refine lv_aload_n hx hb dX9_turned_52 rfl (lv_at hl 0 rfl) ?_
      refine lv_iload_n hx hb dX9_turned_53 rfl (lv_at hl 1 rfl) ?_
      refine lv_iconst (v := (nI 2)) hx hb dX9_turned_54 (by decide) ?_
      refine mm_calli (As := [.int (nI j), .int (nI 2)]) (rest := [.long (lN (i * rf_P f j 1))]) C hz hm (c_X9_product l G _ _ y ad _ _ j 2 (rf_sm f j) hm.2.1 k0.1 (by omega) k0.2.2.1 (by decide)) wd_856 yVX9_product ⟨Nat.le_of_ble_eq_true rfl, Nat.le_of_ble_eq_true rfl⟩ rfl hl.1 rfl (Nat.le_of_ble_eq_true rfl) dX9_turned_55 ⟨Nat.le_of_ble_eq_true rfl, Nat.le_of_ble_eq_true rfl⟩ (fun r sc1 f1 F1 H locs hm hp => ?_)
      refine W.widen (k := 0) (n := 0) (Nat.le_of_ble_eq_true rfl) (Nat.le_of_ble_eq_true rfl) ?_
      obtain ⟨h7, h8, h9⟩ := hp
      rw [h7, h8] at hm
      subst h9
      refine fw_top (x' := (nI (rf_P f j 2))) (k2.1) ?_
      refine lv_i2l (v := lN (rf_P f j 2)) hx hb dX9_turned_58 (nI_l (by omega)) ?_
      have km : i * rf_P f j 1 ≤ 600000 * 12960000 := Nat.mul_le_mul hi k1.2.2
      have kz : ¬ lN (rf_P f j 2) = 0 := fun h => absurd ((pk_lEQ (a := rf_P f j 2) (b := 0) (by omega) (by omega)).mp h) (by omega)
      refine lv_ldiv hx hb dX9_turned_59 kz ?_
      refine fw_topL (pk_lDiv (by omega) (by omega) (by omega)) ?_
      refine lv_l2i (v := nI (i * rf_P f j 1 / rf_P f j 2)) hx hb dX9_turned_60 (lN_i _) ?_
      exact mm_iret hx hb hr hlk (Nat.le_of_ble_eq_true rfl) (Nat.le_of_ble_eq_true rfl) hm dX9_turned_61 (⟨rfl, fun h => absurd h (by rw [c]; decide), fun _ h => absurd h (by rw [d]; decide), fun j1 i1 h1 h2 h3 h4 => by rw [nI_j (by omega) (by omega) h2, (nI_eq (a := i) (b := i1) (by omega) (by omega)).mp h4]; exact ⟨bx_uu _ _ _ _, rfl⟩⟩)
  · have c := fw_b0 c
    refine lv_iconst (v := (nI 1)) hx hb dX9_turned_9 (by decide) ?_
    refine lv_goto (tgt := 28) hx hb dX9_turned_10 (by decide) ?_
    refine mm_put hx hb hT hown hz hm 0 (by decide) wd_735 dX9_turned_28 (fun F1 H locs hm => ?_)
    refine lv_aload_n hx hb dX9_turned_31 rfl (lv_at hl 0 rfl) ?_
    refine mm_get hx hb hT hown hz hm 0 (by decide) wd_735 rfl (v := .int (nI 1)) rfl dX9_turned_32 ?_
    refine lv_if_le (tgt := 42) hx hb dX9_turned_35 (by decide) (fun cx => absurd cx (by decide)) (fun cx => ?_)
    refine lv_iconst (v := (nI 0)) hx hb dX9_turned_38 (by decide) ?_
    refine lv_goto (tgt := 61) hx hb dX9_turned_39 (by decide) ?_
    exact mm_iret hx hb hr hlk (Nat.le_of_ble_eq_true rfl) (Nat.le_of_ble_eq_true rfl) hm dX9_turned_61 (⟨rfl, fun _ => bx_uu _ _ _ _, fun h => absurd h (by rw [c]; decide), fun j i h1 h2 => absurd (rf_in_of (by omega) h1 h2) (by rw [c]; decide)⟩)
set_option maxHeartbeats 4000000 in
set_option maxRecDepth 100000 in
theorem c_X9_turnedByWalk (l : Launch) (G : fw_G) (F : fw_F) (sz y : Nat) (ad : Nat → Nat) (sc : mm_S) (f : mm_A) (nT : Nat) (t q : Int32) (hW : mm_W G F y ad sc f) (e7 : sc 7 = nI nT) (hn : nT ≤ 8) (htok : ∀ j, j < nT → rf_tok f j) : mm_Ci l G F sz y ad yX9_turnedByWalk cX9_turnedByWalk 3 (.int) { frames := 3, cells := 0, slots := 0, locals := 65 } [.int t, .int q] (fun r sc1 f1 => f1 = f ∧ (rf_ix t nT = false → sc1 = va_up sc 0 (nI 1)) ∧ (rf_ix t nT = true → rf_in q (nI 0) (nI 600000) = false → sc1 = va_up sc 0 (nI 2)) ∧ (∀ j i, j < nT → t = nI j → i ≤ 600000 → q = nI i → sc1 = va_up sc 0 (nI 0) ∧ r = nI (i * rf_P f j 1 / rf_P f j 2))) := by
  refine fw_met (lv := [(0, .ref y), (1, .int t), (2, .int q)]) (by decide +kernel) (Nat.le_of_ble_eq_true rfl) rfl ?_
  intro A hA p e s m below meth c ls hx hb hml hown hT hr hlk hin hz hsz hw hAn hl
  rw [← hA]
  have hown : s.vm.findClass RX9 = some m.cls := hown
  have C : CallFix p m c cX9_turnedByWalk 3 s _ fw_tb RX9 := ⟨hx, hb, hml, hown, hT⟩
  have hm : mm_M G A s F y ad sc f F s.heap [] := ⟨hw, hW, mm_keep.rf⟩
  refine lv_aload_n hx hb dX9_turnedByWalk_0 rfl (lv_at hl 0 rfl) ?_
  refine lv_iload_n hx hb dX9_turnedByWalk_1 rfl (lv_at hl 1 rfl) ?_
  refine lv_iload_n hx hb dX9_turnedByWalk_2 rfl (lv_at hl 2 rfl) ?_
  refine mm_calli (As := [.int t, .int q]) (rest := []) C hz hm (c_X9_turned l G _ _ y ad _ _ nT t q hm.2.1 e7 hn htok) wd_876 yVX9_turned ⟨Nat.le_of_ble_eq_true rfl, Nat.le_of_ble_eq_true rfl⟩ rfl hl.1 rfl (Nat.le_of_ble_eq_true rfl) dX9_turnedByWalk_3 ⟨Nat.le_of_ble_eq_true rfl, Nat.le_of_ble_eq_true rfl⟩ (fun r sc1 f1 F1 H locs hm hp => ?_)
  refine W.widen (k := 0) (n := 0) (Nat.le_of_ble_eq_true rfl) (Nat.le_of_ble_eq_true rfl) ?_
  exact mm_iret hx hb hr hlk (Nat.le_of_ble_eq_true rfl) (Nat.le_of_ble_eq_true rfl) hm dX9_turnedByWalk_6 (hp)
