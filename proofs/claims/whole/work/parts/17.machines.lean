/-! The reference's methods: machines. -/
theorem rf_ix3 {t : Int32} (h : rf_in t (nI 0) (nI 2) = true) : ∃ j, j < 3 ∧ t = nI j := by
  obtain ⟨j, hj, h2⟩ := nI_of2 (M := nI 2) (n := 2) (by decide) (Int32.not_lt.mpr (rf_in_t.mp h).1) (rf_in_t.mp h).2
  exact ⟨j, by omega, h2⟩
theorem rf_ix3_of {t : Int32} {j : Nat} (hj : j < 3) (h : t = nI j) : rf_in t (nI 0) (nI 2) = true := by
  subst h
  exact rf_in_t.mpr ⟨nI_le (Nat.zero_le _) (by omega), nI_le (by omega) (by decide)⟩
def rf_its (f : mm_A) (n mc : Nat) : Int32 := if rf_first f n mc true = -1 then rf_first f n mc false else rf_first f n mc true
def rf_put (f : mm_A) (mc i ex : Nat) : mm_A := va_up (va_up (va_up (va_up f 22 (upd (f 22) mc (f 18 i))) 23 (upd (f 23) mc (nI i))) 24 (upd (f 24) mc (f 19 i + nI ex))) 20 (upd (f 20) i (nI mc))
def rf_takes (f : mm_A) (n mc : Nat) : mm_A := if rf_its f n mc = -1 then f else rf_put f mc (rf_n (rf_its f n mc)) (if rf_first f n mc true = -1 then 3 else 0)
theorem rf_firstL_ix (f : mm_A) (n mc : Nat) (b : Bool) : ∀ (j : Nat) (its : Int32), j ≤ n → (its = -1 ∨ ∃ i, i < n ∧ its = nI i) → (rf_firstL f mc b j its = -1 ∨ ∃ i, i < n ∧ rf_firstL f mc b j its = nI i)
  | 0, _, _, h => h
  | j + 1, its, hj, h => by
    rw [rf_firstL]
    refine rf_firstL_ix f n mc b j _ (by omega) ?_
    split
    · exact Or.inr ⟨j, by omega, rfl⟩
    · exact h
theorem rf_first_ix (f : mm_A) (n mc : Nat) (b : Bool) : rf_first f n mc b = -1 ∨ ∃ i, i < n ∧ rf_first f n mc b = nI i := rf_firstL_ix f n mc b n (-1) (Nat.le_refl _) (Or.inl rfl)
theorem rf_its_ix (f : mm_A) (n mc : Nat) : rf_its f n mc = -1 ∨ ∃ i, i < n ∧ rf_its f n mc = nI i := by
  unfold rf_its
  split
  · exact rf_first_ix f n mc false
  · exact rf_first_ix f n mc true
theorem rf_m1_ne {i : Nat} (h : i < 2 ^ 31) : nI i ≠ -1 := by
  intro h9
  have h1 := congrArg Int32.toInt h9
  rw [nI_toInt h, show (-1 : Int32).toInt = -1 from by decide] at h1
  omega
/-- the jobs of the machines, the orders of the jobs -/
def rf_jok (f : mm_A) (nJ nO : Nat) : Prop := (∀ m, m < 3 → f 23 m = -1 ∨ ∃ i, i < nJ ∧ f 23 m = nI i) ∧ ∀ i, i < nJ → ∃ o, o < nO ∧ f 17 i = nI o
theorem rf_jok_takes {f : mm_A} {nJ nO mc : Nat} (hJ : nJ ≤ 96) (h : rf_jok f nJ nO) : rf_jok (rf_takes f nJ mc) nJ nO := by
  unfold rf_takes
  split
  · exact h
  · rename_i hne
    rcases rf_its_ix f nJ mc with h1 | ⟨i, hi, h1⟩
    · exact absurd h1 hne
    · refine ⟨fun m hm => ?_, fun j hj => h.2 j hj⟩
      show upd (f 23) mc (nI (rf_n (rf_its f nJ mc))) m = -1 ∨ _
      by_cases e : m = mc
      · refine Or.inr ⟨i, hi, ?_⟩
        show upd (f 23) mc (nI (rf_n (rf_its f nJ mc))) m = nI i
        rw [h1, rf_n_nI (by omega)]
        simp [upd, e]
      · rcases h.1 m hm with q | ⟨k, hk, q⟩
        · exact Or.inl (by simp [upd, e, q])
        · exact Or.inr ⟨k, hk, by show upd (f 23) mc _ m = _; simp [upd, e, q]⟩
def rf_give (f : mm_A) (n : Nat) : Nat → mm_A
  | 0 => f
  | k + 1 => if rf_give f n k 23 k = -1 then rf_takes (rf_give f n k) n k else rf_give f n k
theorem rf_give_s (f : mm_A) (n k : Nat) : rf_give f n (k + 1) = if rf_give f n k 23 k = -1 then rf_takes (rf_give f n k) n k else rf_give f n k := rfl
theorem rf_jok_give {f : mm_A} {nJ nO : Nat} (hJ : nJ ≤ 96) (h : rf_jok f nJ nO) : ∀ k, rf_jok (rf_give f nJ k) nJ nO
  | 0 => h
  | k + 1 => by
    rw [rf_give_s]
    split
    · exact rf_jok_takes hJ (rf_jok_give hJ h k)
    · exact rf_jok_give hJ h k
/-- a tick at machine m: less to do; the gear is cut -/
def rf_less (f : mm_A) (m : Nat) : mm_A := va_up f 24 (upd (f 24) m (f 24 m - 1))
def rf_done (f : mm_A) (n : Nat) (tm : Int32) (m i : Nat) : mm_A :=
  va_up (va_up (va_up f 20 (upd (f 20) i (-2))) 23 (upd (f 23) m (-1))) 13 (upd (f 13) (rf_n (f 17 i)) (if rf_left (va_up f 20 (upd (f 20) i (-2))) (f 17 i) n = 0 then tm else -1))
def rf_wk (n : Nat) (tm : Int32) (f : mm_A) (m : Nat) : mm_A := if f 23 m = -1 then f else if f 24 m - 1 = 0 then rf_done (rf_less f m) n tm m (rf_n (f 23 m)) else rf_less f m
def rf_wc (f : mm_A) (m : Nat) : Nat := if f 23 m = -1 then 0 else if f 24 m - 1 = 0 then 1 else 0
def rf_work (n : Nat) (tm : Int32) (f : mm_A) : Nat → mm_A
  | 0 => f
  | k + 1 => rf_wk n tm (rf_work n tm f k) k
def rf_cnt (n : Nat) (tm : Int32) (f : mm_A) : Nat → Nat
  | 0 => 0
  | k + 1 => rf_cnt n tm f k + rf_wc (rf_work n tm f k) k
theorem rf_work_s (n : Nat) (tm : Int32) (f : mm_A) (k : Nat) : rf_work n tm f (k + 1) = rf_wk n tm (rf_work n tm f k) k := rfl
theorem rf_cnt_s (n : Nat) (tm : Int32) (f : mm_A) (k : Nat) : rf_cnt n tm f (k + 1) = rf_cnt n tm f k + rf_wc (rf_work n tm f k) k := rfl
theorem rf_jok_wk {f : mm_A} {nJ nO : Nat} {tm : Int32} {m : Nat} (h : rf_jok f nJ nO) : rf_jok (rf_wk nJ tm f m) nJ nO := by
  unfold rf_wk
  split
  · exact h
  · split
    · refine ⟨fun k hk => ?_, fun j hj => h.2 j hj⟩
      show upd (f 23) m (-1) k = -1 ∨ _
      by_cases e : k = m
      · exact Or.inl (by simp [upd, e])
      · rcases h.1 k hk with q | ⟨i, hi, q⟩
        · exact Or.inl (by simp [upd, e, q])
        · exact Or.inr ⟨i, hi, by show upd (f 23) m _ k = _; simp [upd, e, q]⟩
    · exact h
theorem rf_jok_work {f : mm_A} {nJ nO : Nat} {tm : Int32} (h : rf_jok f nJ nO) : ∀ k, rf_jok (rf_work nJ tm f k) nJ nO
  | 0 => h
  | k + 1 => rf_jok_wk (rf_jok_work h k)
def rf_tickf (n : Nat) (tm : Int32) (f : mm_A) : mm_A := rf_work n (tm + 1) (rf_give f n 3) 3
def rf_tickn (n : Nat) (tm : Int32) (f : mm_A) : Nat := rf_cnt n (tm + 1) (rf_give f n 3) 3
theorem rf_jok_tick {f : mm_A} {nJ nO : Nat} {tm : Int32} (hJ : nJ ≤ 96) (h : rf_jok f nJ nO) : rf_jok (rf_tickf nJ tm f) nJ nO := rf_jok_work (rf_jok_give hJ h 3) 3
def rf_passf (n : Nat) (tm : Int32) (f : mm_A) : Nat → mm_A
  | 0 => f
  | q + 1 => rf_tickf n (tm + nI q) (rf_passf n tm f q)
def rf_passn (n : Nat) (tm : Int32) (f : mm_A) : Nat → Nat
  | 0 => 0
  | q + 1 => rf_passn n tm f q + rf_tickn n (tm + nI q) (rf_passf n tm f q)
theorem rf_jok_pass {f : mm_A} {nJ nO : Nat} {tm : Int32} (hJ : nJ ≤ 96) (h : rf_jok f nJ nO) : ∀ q, rf_jok (rf_passf nJ tm f q) nJ nO
  | 0 => h
  | q + 1 => rf_jok_tick hJ (rf_jok_pass hJ h q)
set_option maxHeartbeats 4000000 in
set_option maxRecDepth 100000 in
theorem c_X9_cutterOn (l : Launch) (G : fw_G) (F : fw_F) (sz y : Nat) (ad : Nat → Nat) (sc : mm_S) (f : mm_A) (t : Int32) (hW : mm_W G F y ad sc f) : mm_Ci l G F sz y ad yX9_cutterOn cX9_cutterOn 2 (.int) { frames := 2, cells := 0, slots := 0, locals := 43 } [.int t] (fun r sc1 f1 => f1 = f ∧ sc1 = va_up sc 0 (fw_b (!rf_in t (nI 0) (nI 2))) ∧ (∀ j, j < 3 → t = nI j → r = f 22 j)) := by
  refine fw_met (lv := [(0, .ref y), (1, .int t)]) (by decide +kernel) (Nat.le_of_ble_eq_true rfl) rfl ?_
  intro A hA p e s m below meth c ls hx hb hml hown hT hr hlk hin hz hsz hw hAn hl
  rw [← hA]
  have hown : s.vm.findClass RX9 = some m.cls := hown
  have C : CallFix p m c cX9_cutterOn 2 s _ fw_tb RX9 := ⟨hx, hb, hml, hown, hT⟩
  have hm : mm_M G A s F y ad sc f F s.heap [] := ⟨hw, hW, mm_keep.rf⟩
  refine lv_aload_n hx hb dX9_cutterOn_0 rfl (lv_at hl 0 rfl) ?_
  refine lv_iload_n hx hb dX9_cutterOn_1 rfl (lv_at hl 1 rfl) ?_
  refine mm_calli (As := [.int t]) (rest := []) C hz hm (c_X9_isMachine l G _ _ y ad _ _ t hm.2.1) wd_921 yVX9_isMachine ⟨Nat.le_of_ble_eq_true rfl, Nat.le_of_ble_eq_true rfl⟩ rfl hl.1 rfl (Nat.le_of_ble_eq_true rfl) dX9_cutterOn_2 ⟨Nat.le_of_ble_eq_true rfl, Nat.le_of_ble_eq_true rfl⟩ (fun r sc1 f1 F1 H locs hm hp => ?_)
  refine W.widen (k := 0) (n := 0) (Nat.le_of_ble_eq_true rfl) (Nat.le_of_ble_eq_true rfl) ?_
  obtain ⟨h7, h8, h9⟩ := hp
  rw [h7, h8] at hm
  subst h9
  refine lv_if_eq (tgt := 17) hx hb dX9_cutterOn_5 (by decide) (fun c => ?_) (fun c => ?_)
  · have c := fw_b0 c
    refine lv_iconst (v := (nI 0)) hx hb dX9_cutterOn_17 (by decide) ?_
    exact mm_iret hx hb hr hlk (Nat.le_of_ble_eq_true rfl) (Nat.le_of_ble_eq_true rfl) hm dX9_cutterOn_18 (⟨rfl, rfl, fun j h1 h2 => absurd (rf_ix3_of h1 h2) (by rw [c]; decide)⟩)
  · have c := fw_b1 c
    obtain ⟨j, hj, rfl⟩ := rf_ix3 c
    refine lv_aload_n hx hb dX9_cutterOn_8 rfl (lv_at hl 0 rfl) ?_
    refine mm_get hx hb hT hown hz hm 22 (by decide) wd_757 rfl (v := .ref (ad 22)) rfl dX9_cutterOn_9 ?_
    refine lv_iload_n hx hb dX9_cutterOn_12 rfl (lv_at hl 1 rfl) ?_
    refine mm_ald hx hb hz hm 22 (j) (by decide) rfl (show j < 3 by omega) dX9_cutterOn_13 ?_
    refine lv_goto (tgt := 18) hx hb dX9_cutterOn_14 (by decide) ?_
    exact mm_iret hx hb hr hlk (Nat.le_of_ble_eq_true rfl) (Nat.le_of_ble_eq_true rfl) hm dX9_cutterOn_18 (⟨rfl, rfl, fun i h1 h2 => by rw [nI_j (by omega) (by omega) h2]⟩)
set_option maxHeartbeats 4000000 in
set_option maxRecDepth 100000 in
theorem c_X9_ticksLeft (l : Launch) (G : fw_G) (F : fw_F) (sz y : Nat) (ad : Nat → Nat) (sc : mm_S) (f : mm_A) (t : Int32) (hW : mm_W G F y ad sc f) : mm_Ci l G F sz y ad yX9_ticksLeft cX9_ticksLeft 2 (.int) { frames := 2, cells := 0, slots := 0, locals := 43 } [.int t] (fun r sc1 f1 => f1 = f ∧ sc1 = va_up sc 0 (fw_b (!rf_in t (nI 0) (nI 2))) ∧ (∀ j, j < 3 → t = nI j → r = (if f 23 j = -1 then nI 0 else f 24 j))) := by
  refine fw_met (lv := [(0, .ref y), (1, .int t)]) (by decide +kernel) (Nat.le_of_ble_eq_true rfl) rfl ?_
  intro A hA p e s m below meth c ls hx hb hml hown hT hr hlk hin hz hsz hw hAn hl
  rw [← hA]
  have hown : s.vm.findClass RX9 = some m.cls := hown
  have C : CallFix p m c cX9_ticksLeft 2 s _ fw_tb RX9 := ⟨hx, hb, hml, hown, hT⟩
  have hm : mm_M G A s F y ad sc f F s.heap [] := ⟨hw, hW, mm_keep.rf⟩
  refine lv_aload_n hx hb dX9_ticksLeft_0 rfl (lv_at hl 0 rfl) ?_
  refine lv_iload_n hx hb dX9_ticksLeft_1 rfl (lv_at hl 1 rfl) ?_
  refine mm_calli (As := [.int t]) (rest := []) C hz hm (c_X9_isMachine l G _ _ y ad _ _ t hm.2.1) wd_921 yVX9_isMachine ⟨Nat.le_of_ble_eq_true rfl, Nat.le_of_ble_eq_true rfl⟩ rfl hl.1 rfl (Nat.le_of_ble_eq_true rfl) dX9_ticksLeft_2 ⟨Nat.le_of_ble_eq_true rfl, Nat.le_of_ble_eq_true rfl⟩ (fun r sc1 f1 F1 H locs hm hp => ?_)
  refine W.widen (k := 0) (n := 0) (Nat.le_of_ble_eq_true rfl) (Nat.le_of_ble_eq_true rfl) ?_
  obtain ⟨h7, h8, h9⟩ := hp
  rw [h7, h8] at hm
  subst h9
  refine lv_if_eq (tgt := 27) hx hb dX9_ticksLeft_5 (by decide) (fun c => ?_) (fun c => ?_)
  · have c := fw_b0 c
    refine lv_iconst (v := (nI 0)) hx hb dX9_ticksLeft_27 (by decide) ?_
    exact mm_iret hx hb hr hlk (Nat.le_of_ble_eq_true rfl) (Nat.le_of_ble_eq_true rfl) hm dX9_ticksLeft_28 (⟨rfl, rfl, fun j h1 h2 => absurd (rf_ix3_of h1 h2) (by rw [c]; decide)⟩)
  · have c := fw_b1 c
    obtain ⟨j, hj, rfl⟩ := rf_ix3 c
    refine lv_aload_n hx hb dX9_ticksLeft_8 rfl (lv_at hl 0 rfl) ?_
    refine mm_get hx hb hT hown hz hm 23 (by decide) wd_758 rfl (v := .ref (ad 23)) rfl dX9_ticksLeft_9 ?_
    refine lv_iload_n hx hb dX9_ticksLeft_12 rfl (lv_at hl 1 rfl) ?_
    refine mm_ald hx hb hz hm 23 (j) (by decide) rfl (show j < 3 by omega) dX9_ticksLeft_13 ?_
    refine lv_iconst (v := (-1)) hx hb dX9_ticksLeft_14 (by decide) ?_
    refine lv_icmp_eq (tgt := 27) hx hb dX9_ticksLeft_15 (by decide) (fun d => ?_) (fun d => ?_)
    · refine lv_iconst (v := (nI 0)) hx hb dX9_ticksLeft_27 (by decide) ?_
      exact mm_iret hx hb hr hlk (Nat.le_of_ble_eq_true rfl) (Nat.le_of_ble_eq_true rfl) hm dX9_ticksLeft_28 (⟨rfl, rfl, fun i h1 h2 => by rw [← nI_j (by omega) (by omega) h2, if_pos d]⟩)
    · refine lv_aload_n hx hb dX9_ticksLeft_18 rfl (lv_at hl 0 rfl) ?_
      refine mm_get hx hb hT hown hz hm 24 (by decide) wd_759 rfl (v := .ref (ad 24)) rfl dX9_ticksLeft_19 ?_
      refine lv_iload_n hx hb dX9_ticksLeft_22 rfl (lv_at hl 1 rfl) ?_
      refine mm_ald hx hb hz hm 24 (j) (by decide) rfl (show j < 3 by omega) dX9_ticksLeft_23 ?_
      refine lv_goto (tgt := 28) hx hb dX9_ticksLeft_24 (by decide) ?_
      exact mm_iret hx hb hr hlk (Nat.le_of_ble_eq_true rfl) (Nat.le_of_ble_eq_true rfl) hm dX9_ticksLeft_28 (⟨rfl, rfl, fun i h1 h2 => by rw [← nI_j (by omega) (by omega) h2, if_neg d]⟩)
set_option maxHeartbeats 4000000 in
set_option maxRecDepth 100000 in
theorem c_X9_gearsLeft (l : Launch) (G : fw_G) (F : fw_F) (sz y : Nat) (ad : Nat → Nat) (sc : mm_S) (f : mm_A) (nO nJ : Nat) (t : Int32) (hW : mm_W G F y ad sc f) (e7 : sc 11 = nI nO) (hn : nO ≤ 12) (e16 : sc 16 = nI nJ) (hJ : nJ ≤ 96) : mm_Ci l G F sz y ad yX9_gearsLeft cX9_gearsLeft 2 (.int) { frames := 2, cells := 0, slots := 0, locals := 43 } [.int t] (fun r sc1 f1 => f1 = f ∧ sc1 = va_up sc 0 (fw_b (!rf_ix t nO)) ∧ (∀ j, j < nO → t = nI j → r = nI (rf_left f t nJ))) := by
  refine fw_met (lv := [(0, .ref y), (1, .int t)]) (by decide +kernel) (Nat.le_of_ble_eq_true rfl) rfl ?_
  intro A hA p e s m below meth c ls hx hb hml hown hT hr hlk hin hz hsz hw hAn hl
  rw [← hA]
  have hown : s.vm.findClass RX9 = some m.cls := hown
  have C : CallFix p m c cX9_gearsLeft 2 s _ fw_tb RX9 := ⟨hx, hb, hml, hown, hT⟩
  have hm : mm_M G A s F y ad sc f F s.heap [] := ⟨hw, hW, mm_keep.rf⟩
  refine lv_aload_n hx hb dX9_gearsLeft_0 rfl (lv_at hl 0 rfl) ?_
  refine lv_iload_n hx hb dX9_gearsLeft_1 rfl (lv_at hl 1 rfl) ?_
  refine mm_calli (As := [.int t]) (rest := []) C hz hm (c_X9_isOrder l G _ _ y ad _ _ nO t hm.2.1 e7) wd_933 yVX9_isOrder ⟨Nat.le_of_ble_eq_true rfl, Nat.le_of_ble_eq_true rfl⟩ rfl hl.1 rfl (Nat.le_of_ble_eq_true rfl) dX9_gearsLeft_2 ⟨Nat.le_of_ble_eq_true rfl, Nat.le_of_ble_eq_true rfl⟩ (fun r sc1 f1 F1 H locs hm hp => ?_)
  refine W.widen (k := 0) (n := 0) (Nat.le_of_ble_eq_true rfl) (Nat.le_of_ble_eq_true rfl) ?_
  obtain ⟨h7, h8, h9⟩ := hp
  rw [h7, h8] at hm
  subst h9
  refine lv_if_eq (tgt := 16) hx hb dX9_gearsLeft_5 (by decide) (fun c => ?_) (fun c => ?_)
  · have c := fw_b0 c
    refine lv_iconst (v := (nI 0)) hx hb dX9_gearsLeft_16 (by decide) ?_
    exact mm_iret hx hb hr hlk (Nat.le_of_ble_eq_true rfl) (Nat.le_of_ble_eq_true rfl) hm dX9_gearsLeft_17 (⟨rfl, rfl, fun j h1 h2 => absurd (rf_in_of (by omega) h1 h2) (by rw [c]; decide)⟩)
  · have c := fw_b1 c
    refine lv_aload_n hx hb dX9_gearsLeft_8 rfl (lv_at hl 0 rfl) ?_
    refine lv_iload_n hx hb dX9_gearsLeft_9 rfl (lv_at hl 1 rfl) ?_
    refine mm_calli (As := [.int t]) (rest := []) C hz hm (c_X9_toCut l G _ _ y ad _ _ nJ t hm.2.1 e16 hJ) wd_905 yVX9_toCut ⟨Nat.le_of_ble_eq_true rfl, Nat.le_of_ble_eq_true rfl⟩ rfl hl.1 rfl (Nat.le_of_ble_eq_true rfl) dX9_gearsLeft_10 ⟨Nat.le_of_ble_eq_true rfl, Nat.le_of_ble_eq_true rfl⟩ (fun r sc1 f1 F1 H locs hm hp => ?_)
    refine W.widen (k := 0) (n := 0) (Nat.le_of_ble_eq_true rfl) (Nat.le_of_ble_eq_true rfl) ?_
    obtain ⟨h7, h8, h9⟩ := hp
    rw [h7, h8] at hm
    subst h9
    refine lv_goto (tgt := 17) hx hb dX9_gearsLeft_13 (by decide) ?_
    exact mm_iret hx hb hr hlk (Nat.le_of_ble_eq_true rfl) (Nat.le_of_ble_eq_true rfl) hm dX9_gearsLeft_17 (⟨rfl, rfl, fun _ _ _ => rfl⟩)
set_option maxHeartbeats 4000000 in
set_option maxRecDepth 100000 in
theorem c_X9_first (l : Launch) (G : fw_G) (F : fw_F) (sz y : Nat) (ad : Nat → Nat) (sc : mm_S) (f : mm_A) (nJ mc : Nat) (same : Bool) (hW : mm_W G F y ad sc f) (e16 : sc 16 = nI nJ) (hJ : nJ ≤ 96) (hmc : mc < 3) : mm_Ci l G F sz y ad yX9_first cX9_first 6 (.int) { frames := 1, cells := 0, slots := 0, locals := 23 } [.int (nI mc), .int (fw_b same)] (fun r sc1 f1 => sc1 = sc ∧ f1 = f ∧ r = rf_first f nJ mc same) := by
  refine fw_met (lv := [(0, .ref y), (1, .int (nI mc)), (2, .int (fw_b same))]) (by decide +kernel) (Nat.le_of_ble_eq_true rfl) rfl ?_
  intro A hA p e s m below meth c ls hx hb hml hown hT hr hlk hin hz hsz hw hAn hl
  rw [← hA]
  have hown : s.vm.findClass RX9 = some m.cls := hown
  have C : CallFix p m c cX9_first 6 s _ fw_tb RX9 := ⟨hx, hb, hml, hown, hT⟩
  have hm : mm_M G A s F y ad sc f F s.heap [] := ⟨hw, hW, mm_keep.rf⟩
  refine lv_iconst (v := (-1)) hx hb dX9_first_0 (by decide) ?_
  refine lv_istore_n (lv' := [(3, .int (-1)), (0, .ref y), (1, .int (nI mc)), (2, .int (fw_b same))]) hx hb dX9_first_1 rfl hl (by decide) rfl (fun ls hl => ?_)
  refine lv_aload_n hx hb dX9_first_2 rfl (lv_at hl 1 rfl) ?_
  refine mm_get hx hb hT hown hz hm 16 (by decide) wd_751 rfl (v := .int (sc 16)) rfl dX9_first_3 ?_
  refine fw_top (e16) ?_
  refine lv_iconst (v := (nI 1)) hx hb dX9_first_6 (by decide) ?_
  refine lv_isub hx hb dX9_first_7 ?_
  refine lv_istore (lv' := [(4, .int ((nI nJ) - (nI 1))), (3, .int (-1)), (0, .ref y), (1, .int (nI mc)), (2, .int (fw_b same))]) hx hb dX9_first_8 hl (by decide) rfl (fun ls hl => ?_)
  suffices hlp : ∀ (j : Nat) (its : Int32), j ≤ nJ → rf_firstL f mc same j its = rf_first f nJ mc same → ∀ (F1 : fw_F) (H : Heap) (locs : List Loc) (ls : Array Slot), mm_M G A s F y ad sc f F1 H locs → lv_has ls 6 [(4, .int (nI j - nI 1)), (3, .int its), (0, .ref y), (1, .int (nI mc)), (2, .int (fw_b same))] → W p l e { frames := 1, cells := 0, slots := 0, locals := 23 } s m ([.ref y, .int (nI mc), .int (fw_b same)] : List Value).toArray below meth c H locs 0 0 (MQ below (va_Qi (mm_post G y ad F (fun r sc1 f1 => sc1 = sc ∧ f1 = f ∧ r = rf_first f nJ mc same)) (fw_B G A) A) ([.ref y, .int (nI mc), .int (fw_b same)] : List Value).toArray s 0 0 A) (F0 m 10 ls []) by
    exact hlp nJ (-1) (Nat.le_refl _) rfl _ _ _ _ hm (lv_sub hl [0, 1, 2, 3, 4] rfl)
  intro j
  induction j with
  | zero =>
    intro its hj hi F1 H locs ls hm hl
    refine lv_iload hx hb dX9_first_10 (lv_at hl 0 rfl) ?_
    refine lv_if_lt (tgt := 93) hx hb dX9_first_12 (by decide) (fun c => ?_) (fun c => ?_)
    · refine lv_iload_n hx hb dX9_first_93 rfl (lv_at hl 1 rfl) ?_
      exact mm_iret hx hb hr hlk (Nat.le_of_ble_eq_true rfl) (Nat.le_of_ble_eq_true rfl) hm dX9_first_94 (⟨rfl, rfl, hi⟩)
    · exact absurd (by decide) c
  | succ j ih =>
    intro its hj hi F1 H locs ls hm hl
    rw [pk_sub (a := j + 1) (b := 1) (by omega), Nat.add_sub_cancel] at hl
    refine lv_iload hx hb dX9_first_10 (lv_at hl 0 rfl) ?_
    refine lv_if_lt (tgt := 93) hx hb dX9_first_12 (by decide) (fun c => ?_) (fun c => ?_)
    · have c := (nI_ltI (a := j) (b := 0) (by omega) (by omega)).mp c
      exact absurd c (Nat.not_lt_zero _)
    · have c : ¬ j < 0 := fun h9 => c ((nI_ltI (a := j) (b := 0) (by omega) (by omega)).mpr h9)
      refine lv_iload_n hx hb dX9_first_15 rfl (lv_at hl 4 rfl) ?_
      refine lv_if_eq (tgt := 43) hx hb dX9_first_16 (by decide) (fun c2 => ?_) (fun c2 => ?_)
      · have c2 := fw_b0 c2
        refine lv_aload_n hx hb dX9_first_43 rfl (lv_at hl 2 rfl) ?_
        refine lv_aload_n hx hb dX9_first_44 rfl (lv_at hl 2 rfl) ?_
        refine mm_get hx hb hT hown hz hm 18 (by decide) wd_753 rfl (v := .ref (ad 18)) rfl dX9_first_45 ?_
        refine lv_iload hx hb dX9_first_48 (lv_at hl 0 rfl) ?_
        refine mm_ald hx hb hz hm 18 (j) (by decide) rfl (show j < 96 by omega) dX9_first_50 ?_
        refine mm_calli (As := [.int (f 18 j)]) (rest := []) C hz hm (c_X9_isOn l G _ _ y ad _ _ (f 18 j) hm.2.1) wd_901 yVX9_isOn ⟨Nat.le_of_ble_eq_true rfl, Nat.le_of_ble_eq_true rfl⟩ rfl hl.1 rfl (Nat.le_of_ble_eq_true rfl) dX9_first_51 ⟨Nat.le_of_ble_eq_true rfl, Nat.le_of_ble_eq_true rfl⟩ (fun r sc1 f1 F1 H locs hm hp => ?_)
        refine W.widen (k := 0) (n := 0) (Nat.le_of_ble_eq_true rfl) (Nat.le_of_ble_eq_true rfl) ?_
        obtain ⟨h7, h8, h9⟩ := hp
        rw [h7, h8] at hm
        subst h9
        refine lv_if_ne (tgt := 61) hx hb dX9_first_54 (by decide) (fun c3 => ?_) (fun c3 => ?_)
        · have c3 := fw_b1 c3
          refine lv_iconst (v := (nI 0)) hx hb dX9_first_61 (by decide) ?_
          refine fw_top (x' := (fw_b (rf_can f mc same j))) (by rw [rf_can, if_neg (by rw [c2]; decide), c3]; rfl) ?_
          refine lv_istore (lv' := [(5, .int (fw_b (rf_can f mc same j))), (4, .int (nI j)), (3, .int its), (0, .ref y), (1, .int (nI mc)), (2, .int (fw_b same))]) hx hb dX9_first_62 hl (by decide) rfl (fun ls hl => ?_)
          refine lv_aload_n hx hb dX9_first_64 rfl (lv_at hl 3 rfl) ?_
          refine mm_get hx hb hT hown hz hm 20 (by decide) wd_755 rfl (v := .ref (ad 20)) rfl dX9_first_65 ?_
          refine lv_iload hx hb dX9_first_68 (lv_at hl 1 rfl) ?_
          refine mm_ald hx hb hz hm 20 (j) (by decide) rfl (show j < 96 by omega) dX9_first_70 ?_
          refine lv_iconst (v := (-1)) hx hb dX9_first_71 (by decide) ?_
          refine lv_icmp_ne (tgt := 85) hx hb dX9_first_72 (by decide) (fun d => ?_) (fun d => ?_)
          · refine lv_iload_n hx hb dX9_first_85 rfl (lv_at hl 2 rfl) ?_
            refine lv_istore_n (lv' := [(3, .int its), (5, .int (fw_b (rf_can f mc same j))), (4, .int (nI j)), (0, .ref y), (1, .int (nI mc)), (2, .int (fw_b same))]) hx hb dX9_first_86 rfl hl (by decide) rfl (fun ls hl => ?_)
            refine lv_iinc (v := (nI j - nI 1)) (lv' := [(4, .int (nI j - nI 1)), (3, .int its), (5, .int (fw_b (rf_can f mc same j))), (0, .ref y), (1, .int (nI mc)), (2, .int (fw_b same))]) hx hb dX9_first_87 hl (k := 2) rfl (fw_m1 _) (by decide) rfl (fun ls hl => ?_)
            refine lv_goto (tgt := 10) hx hb dX9_first_90 (by decide) ?_
            exact ih its (by omega) (by rw [← hi, rf_firstL, if_neg (fun h => d h.1)]) _ _ _ _ hm (lv_sub hl [0, 1, 3, 4, 5] rfl)
          · refine lv_iload hx hb dX9_first_75 (lv_at hl 0 rfl) ?_
            refine lv_if_eq (tgt := 85) hx hb dX9_first_77 (by decide) (fun d2 => ?_) (fun d2 => ?_)
            · have d2 := fw_b0 d2
              refine lv_iload_n hx hb dX9_first_85 rfl (lv_at hl 2 rfl) ?_
              refine lv_istore_n (lv' := [(3, .int its), (5, .int (fw_b (rf_can f mc same j))), (4, .int (nI j)), (0, .ref y), (1, .int (nI mc)), (2, .int (fw_b same))]) hx hb dX9_first_86 rfl hl (by decide) rfl (fun ls hl => ?_)
              refine lv_iinc (v := (nI j - nI 1)) (lv' := [(4, .int (nI j - nI 1)), (3, .int its), (5, .int (fw_b (rf_can f mc same j))), (0, .ref y), (1, .int (nI mc)), (2, .int (fw_b same))]) hx hb dX9_first_87 hl (k := 2) rfl (fw_m1 _) (by decide) rfl (fun ls hl => ?_)
              refine lv_goto (tgt := 10) hx hb dX9_first_90 (by decide) ?_
              exact ih its (by omega) (by rw [← hi, rf_firstL, if_neg (fun h => by rw [d2] at h; cases h.2)]) _ _ _ _ hm (lv_sub hl [0, 1, 3, 4, 5] rfl)
            · have d2 := fw_b1 d2
              refine lv_iload hx hb dX9_first_80 (lv_at hl 1 rfl) ?_
              refine lv_goto (tgt := 86) hx hb dX9_first_82 (by decide) ?_
              refine lv_istore_n (lv' := [(3, .int (nI j)), (5, .int (fw_b (rf_can f mc same j))), (4, .int (nI j)), (0, .ref y), (1, .int (nI mc)), (2, .int (fw_b same))]) hx hb dX9_first_86 rfl hl (by decide) rfl (fun ls hl => ?_)
              refine lv_iinc (v := (nI j - nI 1)) (lv' := [(4, .int (nI j - nI 1)), (3, .int (nI j)), (5, .int (fw_b (rf_can f mc same j))), (0, .ref y), (1, .int (nI mc)), (2, .int (fw_b same))]) hx hb dX9_first_87 hl (k := 2) rfl (fw_m1 _) (by decide) rfl (fun ls hl => ?_)
              refine lv_goto (tgt := 10) hx hb dX9_first_90 (by decide) ?_
              exact ih (nI j) (by omega) (by rw [← hi, rf_firstL, if_pos ⟨d, d2⟩]) _ _ _ _ hm (lv_sub hl [0, 1, 3, 4, 5] rfl)
        · have c3 := fw_b0 c3
          refine lv_iconst (v := (nI 1)) hx hb dX9_first_57 (by decide) ?_
          refine lv_goto (tgt := 62) hx hb dX9_first_58 (by decide) ?_
          refine fw_top (x' := (fw_b (rf_can f mc same j))) (by rw [rf_can, if_neg (by rw [c2]; decide), c3]; rfl) ?_
          refine lv_istore (lv' := [(5, .int (fw_b (rf_can f mc same j))), (4, .int (nI j)), (3, .int its), (0, .ref y), (1, .int (nI mc)), (2, .int (fw_b same))]) hx hb dX9_first_62 hl (by decide) rfl (fun ls hl => ?_)
          refine lv_aload_n hx hb dX9_first_64 rfl (lv_at hl 3 rfl) ?_
          refine mm_get hx hb hT hown hz hm 20 (by decide) wd_755 rfl (v := .ref (ad 20)) rfl dX9_first_65 ?_
          refine lv_iload hx hb dX9_first_68 (lv_at hl 1 rfl) ?_
          refine mm_ald hx hb hz hm 20 (j) (by decide) rfl (show j < 96 by omega) dX9_first_70 ?_
          refine lv_iconst (v := (-1)) hx hb dX9_first_71 (by decide) ?_
          refine lv_icmp_ne (tgt := 85) hx hb dX9_first_72 (by decide) (fun d => ?_) (fun d => ?_)
          · refine lv_iload_n hx hb dX9_first_85 rfl (lv_at hl 2 rfl) ?_
            refine lv_istore_n (lv' := [(3, .int its), (5, .int (fw_b (rf_can f mc same j))), (4, .int (nI j)), (0, .ref y), (1, .int (nI mc)), (2, .int (fw_b same))]) hx hb dX9_first_86 rfl hl (by decide) rfl (fun ls hl => ?_)
            refine lv_iinc (v := (nI j - nI 1)) (lv' := [(4, .int (nI j - nI 1)), (3, .int its), (5, .int (fw_b (rf_can f mc same j))), (0, .ref y), (1, .int (nI mc)), (2, .int (fw_b same))]) hx hb dX9_first_87 hl (k := 2) rfl (fw_m1 _) (by decide) rfl (fun ls hl => ?_)
            refine lv_goto (tgt := 10) hx hb dX9_first_90 (by decide) ?_
            exact ih its (by omega) (by rw [← hi, rf_firstL, if_neg (fun h => d h.1)]) _ _ _ _ hm (lv_sub hl [0, 1, 3, 4, 5] rfl)
          · refine lv_iload hx hb dX9_first_75 (lv_at hl 0 rfl) ?_
            refine lv_if_eq (tgt := 85) hx hb dX9_first_77 (by decide) (fun d2 => ?_) (fun d2 => ?_)
            · have d2 := fw_b0 d2
              refine lv_iload_n hx hb dX9_first_85 rfl (lv_at hl 2 rfl) ?_
              refine lv_istore_n (lv' := [(3, .int its), (5, .int (fw_b (rf_can f mc same j))), (4, .int (nI j)), (0, .ref y), (1, .int (nI mc)), (2, .int (fw_b same))]) hx hb dX9_first_86 rfl hl (by decide) rfl (fun ls hl => ?_)
              refine lv_iinc (v := (nI j - nI 1)) (lv' := [(4, .int (nI j - nI 1)), (3, .int its), (5, .int (fw_b (rf_can f mc same j))), (0, .ref y), (1, .int (nI mc)), (2, .int (fw_b same))]) hx hb dX9_first_87 hl (k := 2) rfl (fw_m1 _) (by decide) rfl (fun ls hl => ?_)
              refine lv_goto (tgt := 10) hx hb dX9_first_90 (by decide) ?_
              exact ih its (by omega) (by rw [← hi, rf_firstL, if_neg (fun h => by rw [d2] at h; cases h.2)]) _ _ _ _ hm (lv_sub hl [0, 1, 3, 4, 5] rfl)
            · have d2 := fw_b1 d2
              refine lv_iload hx hb dX9_first_80 (lv_at hl 1 rfl) ?_
              refine lv_goto (tgt := 86) hx hb dX9_first_82 (by decide) ?_
              refine lv_istore_n (lv' := [(3, .int (nI j)), (5, .int (fw_b (rf_can f mc same j))), (4, .int (nI j)), (0, .ref y), (1, .int (nI mc)), (2, .int (fw_b same))]) hx hb dX9_first_86 rfl hl (by decide) rfl (fun ls hl => ?_)
              refine lv_iinc (v := (nI j - nI 1)) (lv' := [(4, .int (nI j - nI 1)), (3, .int (nI j)), (5, .int (fw_b (rf_can f mc same j))), (0, .ref y), (1, .int (nI mc)), (2, .int (fw_b same))]) hx hb dX9_first_87 hl (k := 2) rfl (fw_m1 _) (by decide) rfl (fun ls hl => ?_)
              refine lv_goto (tgt := 10) hx hb dX9_first_90 (by decide) ?_
              exact ih (nI j) (by omega) (by rw [← hi, rf_firstL, if_pos ⟨d, d2⟩]) _ _ _ _ hm (lv_sub hl [0, 1, 3, 4, 5] rfl)
      · have c2 := fw_b1 c2
        refine lv_aload_n hx hb dX9_first_19 rfl (lv_at hl 2 rfl) ?_
        refine mm_get hx hb hT hown hz hm 18 (by decide) wd_753 rfl (v := .ref (ad 18)) rfl dX9_first_20 ?_
        refine lv_iload hx hb dX9_first_23 (lv_at hl 0 rfl) ?_
        refine mm_ald hx hb hz hm 18 (j) (by decide) rfl (show j < 96 by omega) dX9_first_25 ?_
        refine lv_aload_n hx hb dX9_first_26 rfl (lv_at hl 2 rfl) ?_
        refine mm_get hx hb hT hown hz hm 22 (by decide) wd_757 rfl (v := .ref (ad 22)) rfl dX9_first_27 ?_
        refine lv_iload_n hx hb dX9_first_30 rfl (lv_at hl 3 rfl) ?_
        refine mm_ald hx hb hz hm 22 (mc) (by decide) rfl (show mc < 3 by omega) dX9_first_31 ?_
        refine lv_icmp_ne (tgt := 39) hx hb dX9_first_32 (by decide) (fun c3 => ?_) (fun c3 => ?_)
        · refine lv_iconst (v := (nI 0)) hx hb dX9_first_39 (by decide) ?_
          refine lv_goto (tgt := 62) hx hb dX9_first_40 (by decide) ?_
          refine fw_top (x' := (fw_b (rf_can f mc same j))) (by rw [rf_can, if_pos c2, decide_eq_false c3]; rfl) ?_
          refine lv_istore (lv' := [(5, .int (fw_b (rf_can f mc same j))), (4, .int (nI j)), (3, .int its), (0, .ref y), (1, .int (nI mc)), (2, .int (fw_b same))]) hx hb dX9_first_62 hl (by decide) rfl (fun ls hl => ?_)
          refine lv_aload_n hx hb dX9_first_64 rfl (lv_at hl 3 rfl) ?_
          refine mm_get hx hb hT hown hz hm 20 (by decide) wd_755 rfl (v := .ref (ad 20)) rfl dX9_first_65 ?_
          refine lv_iload hx hb dX9_first_68 (lv_at hl 1 rfl) ?_
          refine mm_ald hx hb hz hm 20 (j) (by decide) rfl (show j < 96 by omega) dX9_first_70 ?_
          refine lv_iconst (v := (-1)) hx hb dX9_first_71 (by decide) ?_
          refine lv_icmp_ne (tgt := 85) hx hb dX9_first_72 (by decide) (fun d => ?_) (fun d => ?_)
          · refine lv_iload_n hx hb dX9_first_85 rfl (lv_at hl 2 rfl) ?_
            refine lv_istore_n (lv' := [(3, .int its), (5, .int (fw_b (rf_can f mc same j))), (4, .int (nI j)), (0, .ref y), (1, .int (nI mc)), (2, .int (fw_b same))]) hx hb dX9_first_86 rfl hl (by decide) rfl (fun ls hl => ?_)
            refine lv_iinc (v := (nI j - nI 1)) (lv' := [(4, .int (nI j - nI 1)), (3, .int its), (5, .int (fw_b (rf_can f mc same j))), (0, .ref y), (1, .int (nI mc)), (2, .int (fw_b same))]) hx hb dX9_first_87 hl (k := 2) rfl (fw_m1 _) (by decide) rfl (fun ls hl => ?_)
            refine lv_goto (tgt := 10) hx hb dX9_first_90 (by decide) ?_
            exact ih its (by omega) (by rw [← hi, rf_firstL, if_neg (fun h => d h.1)]) _ _ _ _ hm (lv_sub hl [0, 1, 3, 4, 5] rfl)
          · refine lv_iload hx hb dX9_first_75 (lv_at hl 0 rfl) ?_
            refine lv_if_eq (tgt := 85) hx hb dX9_first_77 (by decide) (fun d2 => ?_) (fun d2 => ?_)
            · have d2 := fw_b0 d2
              refine lv_iload_n hx hb dX9_first_85 rfl (lv_at hl 2 rfl) ?_
              refine lv_istore_n (lv' := [(3, .int its), (5, .int (fw_b (rf_can f mc same j))), (4, .int (nI j)), (0, .ref y), (1, .int (nI mc)), (2, .int (fw_b same))]) hx hb dX9_first_86 rfl hl (by decide) rfl (fun ls hl => ?_)
              refine lv_iinc (v := (nI j - nI 1)) (lv' := [(4, .int (nI j - nI 1)), (3, .int its), (5, .int (fw_b (rf_can f mc same j))), (0, .ref y), (1, .int (nI mc)), (2, .int (fw_b same))]) hx hb dX9_first_87 hl (k := 2) rfl (fw_m1 _) (by decide) rfl (fun ls hl => ?_)
              refine lv_goto (tgt := 10) hx hb dX9_first_90 (by decide) ?_
              exact ih its (by omega) (by rw [← hi, rf_firstL, if_neg (fun h => by rw [d2] at h; cases h.2)]) _ _ _ _ hm (lv_sub hl [0, 1, 3, 4, 5] rfl)
            · have d2 := fw_b1 d2
              refine lv_iload hx hb dX9_first_80 (lv_at hl 1 rfl) ?_
              refine lv_goto (tgt := 86) hx hb dX9_first_82 (by decide) ?_
              refine lv_istore_n (lv' := [(3, .int (nI j)), (5, .int (fw_b (rf_can f mc same j))), (4, .int (nI j)), (0, .ref y), (1, .int (nI mc)), (2, .int (fw_b same))]) hx hb dX9_first_86 rfl hl (by decide) rfl (fun ls hl => ?_)
              refine lv_iinc (v := (nI j - nI 1)) (lv' := [(4, .int (nI j - nI 1)), (3, .int (nI j)), (5, .int (fw_b (rf_can f mc same j))), (0, .ref y), (1, .int (nI mc)), (2, .int (fw_b same))]) hx hb dX9_first_87 hl (k := 2) rfl (fw_m1 _) (by decide) rfl (fun ls hl => ?_)
              refine lv_goto (tgt := 10) hx hb dX9_first_90 (by decide) ?_
              exact ih (nI j) (by omega) (by rw [← hi, rf_firstL, if_pos ⟨d, d2⟩]) _ _ _ _ hm (lv_sub hl [0, 1, 3, 4, 5] rfl)
        · refine lv_iconst (v := (nI 1)) hx hb dX9_first_35 (by decide) ?_
          refine lv_goto (tgt := 62) hx hb dX9_first_36 (by decide) ?_
          refine fw_top (x' := (fw_b (rf_can f mc same j))) (by rw [rf_can, if_pos c2, decide_eq_true c3]; rfl) ?_
          refine lv_istore (lv' := [(5, .int (fw_b (rf_can f mc same j))), (4, .int (nI j)), (3, .int its), (0, .ref y), (1, .int (nI mc)), (2, .int (fw_b same))]) hx hb dX9_first_62 hl (by decide) rfl (fun ls hl => ?_)
          refine lv_aload_n hx hb dX9_first_64 rfl (lv_at hl 3 rfl) ?_
          refine mm_get hx hb hT hown hz hm 20 (by decide) wd_755 rfl (v := .ref (ad 20)) rfl dX9_first_65 ?_
          refine lv_iload hx hb dX9_first_68 (lv_at hl 1 rfl) ?_
          refine mm_ald hx hb hz hm 20 (j) (by decide) rfl (show j < 96 by omega) dX9_first_70 ?_
          refine lv_iconst (v := (-1)) hx hb dX9_first_71 (by decide) ?_
          refine lv_icmp_ne (tgt := 85) hx hb dX9_first_72 (by decide) (fun d => ?_) (fun d => ?_)
          · refine lv_iload_n hx hb dX9_first_85 rfl (lv_at hl 2 rfl) ?_
            refine lv_istore_n (lv' := [(3, .int its), (5, .int (fw_b (rf_can f mc same j))), (4, .int (nI j)), (0, .ref y), (1, .int (nI mc)), (2, .int (fw_b same))]) hx hb dX9_first_86 rfl hl (by decide) rfl (fun ls hl => ?_)
            refine lv_iinc (v := (nI j - nI 1)) (lv' := [(4, .int (nI j - nI 1)), (3, .int its), (5, .int (fw_b (rf_can f mc same j))), (0, .ref y), (1, .int (nI mc)), (2, .int (fw_b same))]) hx hb dX9_first_87 hl (k := 2) rfl (fw_m1 _) (by decide) rfl (fun ls hl => ?_)
            refine lv_goto (tgt := 10) hx hb dX9_first_90 (by decide) ?_
            exact ih its (by omega) (by rw [← hi, rf_firstL, if_neg (fun h => d h.1)]) _ _ _ _ hm (lv_sub hl [0, 1, 3, 4, 5] rfl)
          · refine lv_iload hx hb dX9_first_75 (lv_at hl 0 rfl) ?_
            refine lv_if_eq (tgt := 85) hx hb dX9_first_77 (by decide) (fun d2 => ?_) (fun d2 => ?_)
            · have d2 := fw_b0 d2
              refine lv_iload_n hx hb dX9_first_85 rfl (lv_at hl 2 rfl) ?_
              refine lv_istore_n (lv' := [(3, .int its), (5, .int (fw_b (rf_can f mc same j))), (4, .int (nI j)), (0, .ref y), (1, .int (nI mc)), (2, .int (fw_b same))]) hx hb dX9_first_86 rfl hl (by decide) rfl (fun ls hl => ?_)
              refine lv_iinc (v := (nI j - nI 1)) (lv' := [(4, .int (nI j - nI 1)), (3, .int its), (5, .int (fw_b (rf_can f mc same j))), (0, .ref y), (1, .int (nI mc)), (2, .int (fw_b same))]) hx hb dX9_first_87 hl (k := 2) rfl (fw_m1 _) (by decide) rfl (fun ls hl => ?_)
              refine lv_goto (tgt := 10) hx hb dX9_first_90 (by decide) ?_
              exact ih its (by omega) (by rw [← hi, rf_firstL, if_neg (fun h => by rw [d2] at h; cases h.2)]) _ _ _ _ hm (lv_sub hl [0, 1, 3, 4, 5] rfl)
            · have d2 := fw_b1 d2
              refine lv_iload hx hb dX9_first_80 (lv_at hl 1 rfl) ?_
              refine lv_goto (tgt := 86) hx hb dX9_first_82 (by decide) ?_
              refine lv_istore_n (lv' := [(3, .int (nI j)), (5, .int (fw_b (rf_can f mc same j))), (4, .int (nI j)), (0, .ref y), (1, .int (nI mc)), (2, .int (fw_b same))]) hx hb dX9_first_86 rfl hl (by decide) rfl (fun ls hl => ?_)
              refine lv_iinc (v := (nI j - nI 1)) (lv' := [(4, .int (nI j - nI 1)), (3, .int (nI j)), (5, .int (fw_b (rf_can f mc same j))), (0, .ref y), (1, .int (nI mc)), (2, .int (fw_b same))]) hx hb dX9_first_87 hl (k := 2) rfl (fw_m1 _) (by decide) rfl (fun ls hl => ?_)
              refine lv_goto (tgt := 10) hx hb dX9_first_90 (by decide) ?_
              exact ih (nI j) (by omega) (by rw [← hi, rf_firstL, if_pos ⟨d, d2⟩]) _ _ _ _ hm (lv_sub hl [0, 1, 3, 4, 5] rfl)
set_option maxHeartbeats 4000000 in
set_option maxRecDepth 100000 in
theorem c_X9_takes (l : Launch) (G : fw_G) (F : fw_F) (sz y : Nat) (ad : Nat → Nat) (sc : mm_S) (f : mm_A) (nJ mc : Nat) (hW : mm_W G F y ad sc f) (e16 : sc 16 = nI nJ) (hJ : nJ ≤ 96) (hmc : mc < 3) : mm_Cv l G F sz y ad yX9_takes cX9_takes 4 { frames := 2, cells := 0, slots := 0, locals := 48 } [.int (nI mc)] (fun sc1 f1 => sc1 = sc ∧ f1 = rf_takes f nJ mc) := by
  refine fw_met (lv := [(0, .ref y), (1, .int (nI mc))]) (by decide +kernel) (Nat.le_of_ble_eq_true rfl) rfl ?_
  intro A hA p e s m below meth c ls hx hb hml hown hT hr hlk hin hz hsz hw hAn hl
  rw [← hA]
  have hown : s.vm.findClass RX9 = some m.cls := hown
  have C : CallFix p m c cX9_takes 4 s _ fw_tb RX9 := ⟨hx, hb, hml, hown, hT⟩
  have hm : mm_M G A s F y ad sc f F s.heap [] := ⟨hw, hW, mm_keep.rf⟩
  refine lv_aload_n hx hb dX9_takes_0 rfl (lv_at hl 0 rfl) ?_
  refine lv_iload_n hx hb dX9_takes_1 rfl (lv_at hl 1 rfl) ?_
  refine lv_iconst (v := (nI 1)) hx hb dX9_takes_2 (by decide) ?_
  refine fw_top (x' := (fw_b true)) (rfl) ?_
  refine mm_calli (As := [.int (nI mc), .int (fw_b true)]) (rest := []) C hz hm (c_X9_first l G _ _ y ad _ _ nJ mc true hm.2.1 e16 hJ hmc) wd_897 yVX9_first ⟨Nat.le_of_ble_eq_true rfl, Nat.le_of_ble_eq_true rfl⟩ rfl hl.1 rfl (Nat.le_of_ble_eq_true rfl) dX9_takes_3 ⟨Nat.le_of_ble_eq_true rfl, Nat.le_of_ble_eq_true rfl⟩ (fun r sc1 f1 F1 H locs hm hp => ?_)
  refine W.widen (k := 0) (n := 0) (Nat.le_of_ble_eq_true rfl) (Nat.le_of_ble_eq_true rfl) ?_
  obtain ⟨h7, h8, h9⟩ := hp
  rw [h7, h8] at hm
  subst h9
  refine lv_istore_n (lv' := [(2, .int (rf_first f nJ mc true)), (0, .ref y), (1, .int (nI mc))]) hx hb dX9_takes_6 rfl hl (by decide) rfl (fun ls hl => ?_)
  refine lv_iload_n hx hb dX9_takes_7 rfl (lv_at hl 0 rfl) ?_
  refine lv_iconst (v := (-1)) hx hb dX9_takes_8 (by decide) ?_
  refine lv_icmp_ne (tgt := 21) hx hb dX9_takes_9 (by decide) (fun c => ?_) (fun c => ?_)
  · refine lv_iload_n hx hb dX9_takes_21 rfl (lv_at hl 0 rfl) ?_
    refine lv_istore_n (lv' := [(3, .int (rf_first f nJ mc true)), (2, .int (rf_first f nJ mc true)), (0, .ref y), (1, .int (nI mc))]) hx hb dX9_takes_22 rfl hl (by decide) rfl (fun ls hl => ?_)
    refine lv_iload_n hx hb dX9_takes_23 rfl (lv_at hl 0 rfl) ?_
    refine lv_iconst (v := (-1)) hx hb dX9_takes_24 (by decide) ?_
    refine lv_icmp_eq (tgt := 77) hx hb dX9_takes_25 (by decide) (fun cx => absurd cx (c)) (fun cx => ?_)
    have d : ¬ rf_first f nJ mc true = -1 := c
    have hi8 : rf_its f nJ mc = rf_first f nJ mc true := if_neg c
    rcases rf_its_ix f nJ mc with hz9 | ⟨i, hi, hz9⟩
    · exact absurd ((hi8).symm.trans hz9) d
    · have hi9 : rf_first f nJ mc true = nI i := (hi8).symm.trans hz9
      rw [hi9] at hl
      refine lv_aload_n hx hb dX9_takes_28 rfl (lv_at hl 2 rfl) ?_
      refine mm_get hx hb hT hown hz hm 22 (by decide) wd_757 rfl (v := .ref (ad 22)) rfl dX9_takes_29 ?_
      refine lv_iload_n hx hb dX9_takes_32 rfl (lv_at hl 3 rfl) ?_
      refine lv_aload_n hx hb dX9_takes_33 rfl (lv_at hl 2 rfl) ?_
      refine mm_get hx hb hT hown hz hm 18 (by decide) wd_753 rfl (v := .ref (ad 18)) rfl dX9_takes_34 ?_
      refine lv_iload_n hx hb dX9_takes_37 rfl (lv_at hl 0 rfl) ?_
      refine mm_ald hx hb hz hm 18 (i) (by decide) rfl (show i < 96 by omega) dX9_takes_38 ?_
      refine mm_ast hx hb hz hm 22 (mc) (by decide) rfl (show mc < 3 by omega) dX9_takes_39 (fun F1 H locs hm => ?_)
      refine lv_aload_n hx hb dX9_takes_40 rfl (lv_at hl 2 rfl) ?_
      refine mm_get hx hb hT hown hz hm 23 (by decide) wd_758 rfl (v := .ref (ad 23)) rfl dX9_takes_41 ?_
      refine lv_iload_n hx hb dX9_takes_44 rfl (lv_at hl 3 rfl) ?_
      refine lv_iload_n hx hb dX9_takes_45 rfl (lv_at hl 0 rfl) ?_
      refine mm_ast hx hb hz hm 23 (mc) (by decide) rfl (show mc < 3 by omega) dX9_takes_46 (fun F1 H locs hm => ?_)
      refine lv_aload_n hx hb dX9_takes_47 rfl (lv_at hl 2 rfl) ?_
      refine mm_get hx hb hT hown hz hm 24 (by decide) wd_759 rfl (v := .ref (ad 24)) rfl dX9_takes_48 ?_
      refine lv_iload_n hx hb dX9_takes_51 rfl (lv_at hl 3 rfl) ?_
      refine lv_aload_n hx hb dX9_takes_52 rfl (lv_at hl 2 rfl) ?_
      refine mm_get hx hb hT hown hz hm 19 (by decide) wd_754 rfl (v := .ref (ad 19)) rfl dX9_takes_53 ?_
      refine lv_iload_n hx hb dX9_takes_56 rfl (lv_at hl 0 rfl) ?_
      refine mm_ald hx hb hz hm 19 (i) (by decide) rfl (show i < 96 by omega) dX9_takes_57 ?_
      refine lv_iload_n hx hb dX9_takes_58 rfl (lv_at hl 1 rfl) ?_
      refine lv_iconst (v := (-1)) hx hb dX9_takes_59 (by decide) ?_
      refine lv_icmp_ne (tgt := 67) hx hb dX9_takes_60 (by decide) (fun cx => ?_) (fun cx => absurd cx (rf_m1_ne (by omega)))
      refine lv_iconst (v := (nI 0)) hx hb dX9_takes_67 (by decide) ?_
      refine lv_iadd hx hb dX9_takes_68 ?_
      refine mm_ast hx hb hz hm 24 (mc) (by decide) rfl (show mc < 3 by omega) dX9_takes_69 (fun F1 H locs hm => ?_)
      refine lv_aload_n hx hb dX9_takes_70 rfl (lv_at hl 2 rfl) ?_
      refine mm_get hx hb hT hown hz hm 20 (by decide) wd_755 rfl (v := .ref (ad 20)) rfl dX9_takes_71 ?_
      refine lv_iload_n hx hb dX9_takes_74 rfl (lv_at hl 0 rfl) ?_
      refine lv_iload_n hx hb dX9_takes_75 rfl (lv_at hl 3 rfl) ?_
      refine mm_ast hx hb hz hm 20 (i) (by decide) rfl (show i < 96 by omega) dX9_takes_76 (fun F1 H locs hm => ?_)
      exact mm_vret hx hb hr hlk (Nat.le_of_ble_eq_true rfl) (Nat.le_of_ble_eq_true rfl) hm dX9_takes_77 (⟨rfl, by rw [rf_takes, if_neg (by rw [hz9]; exact rf_m1_ne (by omega)), if_neg c, hz9, rf_n_nI (by omega)]; rfl⟩)
  · refine lv_aload_n hx hb dX9_takes_12 rfl (lv_at hl 1 rfl) ?_
    refine lv_iload_n hx hb dX9_takes_13 rfl (lv_at hl 2 rfl) ?_
    refine lv_iconst (v := (nI 0)) hx hb dX9_takes_14 (by decide) ?_
    refine fw_top (x' := (fw_b false)) (rfl) ?_
    refine mm_calli (As := [.int (nI mc), .int (fw_b false)]) (rest := []) C hz hm (c_X9_first l G _ _ y ad _ _ nJ mc false hm.2.1 e16 hJ hmc) wd_897 yVX9_first ⟨Nat.le_of_ble_eq_true rfl, Nat.le_of_ble_eq_true rfl⟩ rfl hl.1 rfl (Nat.le_of_ble_eq_true rfl) dX9_takes_15 ⟨Nat.le_of_ble_eq_true rfl, Nat.le_of_ble_eq_true rfl⟩ (fun r sc1 f1 F1 H locs hm hp => ?_)
    refine W.widen (k := 0) (n := 0) (Nat.le_of_ble_eq_true rfl) (Nat.le_of_ble_eq_true rfl) ?_
    obtain ⟨h7, h8, h9⟩ := hp
    rw [h7, h8] at hm
    subst h9
    refine lv_goto (tgt := 22) hx hb dX9_takes_18 (by decide) ?_
    refine lv_istore_n (lv' := [(3, .int (rf_first f nJ mc false)), (2, .int (rf_first f nJ mc true)), (0, .ref y), (1, .int (nI mc))]) hx hb dX9_takes_22 rfl hl (by decide) rfl (fun ls hl => ?_)
    refine lv_iload_n hx hb dX9_takes_23 rfl (lv_at hl 0 rfl) ?_
    refine lv_iconst (v := (-1)) hx hb dX9_takes_24 (by decide) ?_
    have hi8 : rf_its f nJ mc = rf_first f nJ mc false := if_pos c
    refine lv_icmp_eq (tgt := 77) hx hb dX9_takes_25 (by decide) (fun d => ?_) (fun d => ?_)
    · exact mm_vret hx hb hr hlk (Nat.le_of_ble_eq_true rfl) (Nat.le_of_ble_eq_true rfl) hm dX9_takes_77 (⟨rfl, by rw [rf_takes, if_pos (hi8.trans d)]⟩)
    · rcases rf_its_ix f nJ mc with hz9 | ⟨i, hi, hz9⟩
      · exact absurd ((hi8).symm.trans hz9) d
      · have hi9 : rf_first f nJ mc false = nI i := (hi8).symm.trans hz9
        rw [hi9] at hl
        refine lv_aload_n hx hb dX9_takes_28 rfl (lv_at hl 2 rfl) ?_
        refine mm_get hx hb hT hown hz hm 22 (by decide) wd_757 rfl (v := .ref (ad 22)) rfl dX9_takes_29 ?_
        refine lv_iload_n hx hb dX9_takes_32 rfl (lv_at hl 3 rfl) ?_
        refine lv_aload_n hx hb dX9_takes_33 rfl (lv_at hl 2 rfl) ?_
        refine mm_get hx hb hT hown hz hm 18 (by decide) wd_753 rfl (v := .ref (ad 18)) rfl dX9_takes_34 ?_
        refine lv_iload_n hx hb dX9_takes_37 rfl (lv_at hl 0 rfl) ?_
        refine mm_ald hx hb hz hm 18 (i) (by decide) rfl (show i < 96 by omega) dX9_takes_38 ?_
        refine mm_ast hx hb hz hm 22 (mc) (by decide) rfl (show mc < 3 by omega) dX9_takes_39 (fun F1 H locs hm => ?_)
        refine lv_aload_n hx hb dX9_takes_40 rfl (lv_at hl 2 rfl) ?_
        refine mm_get hx hb hT hown hz hm 23 (by decide) wd_758 rfl (v := .ref (ad 23)) rfl dX9_takes_41 ?_
        refine lv_iload_n hx hb dX9_takes_44 rfl (lv_at hl 3 rfl) ?_
        refine lv_iload_n hx hb dX9_takes_45 rfl (lv_at hl 0 rfl) ?_
        refine mm_ast hx hb hz hm 23 (mc) (by decide) rfl (show mc < 3 by omega) dX9_takes_46 (fun F1 H locs hm => ?_)
        refine lv_aload_n hx hb dX9_takes_47 rfl (lv_at hl 2 rfl) ?_
        refine mm_get hx hb hT hown hz hm 24 (by decide) wd_759 rfl (v := .ref (ad 24)) rfl dX9_takes_48 ?_
        refine lv_iload_n hx hb dX9_takes_51 rfl (lv_at hl 3 rfl) ?_
        refine lv_aload_n hx hb dX9_takes_52 rfl (lv_at hl 2 rfl) ?_
        refine mm_get hx hb hT hown hz hm 19 (by decide) wd_754 rfl (v := .ref (ad 19)) rfl dX9_takes_53 ?_
        refine lv_iload_n hx hb dX9_takes_56 rfl (lv_at hl 0 rfl) ?_
        refine mm_ald hx hb hz hm 19 (i) (by decide) rfl (show i < 96 by omega) dX9_takes_57 ?_
        refine lv_iload_n hx hb dX9_takes_58 rfl (lv_at hl 1 rfl) ?_
        refine lv_iconst (v := (-1)) hx hb dX9_takes_59 (by decide) ?_
        refine lv_icmp_ne (tgt := 67) hx hb dX9_takes_60 (by decide) (fun cx => absurd cx (fun h => h c)) (fun cx => ?_)
        refine lv_iconst (v := (nI 3)) hx hb dX9_takes_63 (by decide) ?_
        refine lv_goto (tgt := 68) hx hb dX9_takes_64 (by decide) ?_
        refine lv_iadd hx hb dX9_takes_68 ?_
        refine mm_ast hx hb hz hm 24 (mc) (by decide) rfl (show mc < 3 by omega) dX9_takes_69 (fun F1 H locs hm => ?_)
        refine lv_aload_n hx hb dX9_takes_70 rfl (lv_at hl 2 rfl) ?_
        refine mm_get hx hb hT hown hz hm 20 (by decide) wd_755 rfl (v := .ref (ad 20)) rfl dX9_takes_71 ?_
        refine lv_iload_n hx hb dX9_takes_74 rfl (lv_at hl 0 rfl) ?_
        refine lv_iload_n hx hb dX9_takes_75 rfl (lv_at hl 3 rfl) ?_
        refine mm_ast hx hb hz hm 20 (i) (by decide) rfl (show i < 96 by omega) dX9_takes_76 (fun F1 H locs hm => ?_)
        exact mm_vret hx hb hr hlk (Nat.le_of_ble_eq_true rfl) (Nat.le_of_ble_eq_true rfl) hm dX9_takes_77 (⟨rfl, by rw [rf_takes, if_neg (by rw [hz9]; exact rf_m1_ne (by omega)), if_pos c, hz9, rf_n_nI (by omega)]; rfl⟩)
