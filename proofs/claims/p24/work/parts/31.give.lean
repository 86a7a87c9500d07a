/-! The workshop's objects: giving out jobs, a tick's work. -/
def cl_jb (ja : Nat → Nat) (f : mm_A) (m : Nat) : Option Nat := if f 23 m = -1 then none else some (ja (rf_n (f 23 m)))
def cl_lf (f : mm_A) (m : Nat) : Int32 := if f 23 m = -1 then nI 0 else f 24 m
def cr_O (F : fw_F) (oa tr ml : Nat → Nat) (f : mm_A) (nJ nO : Nat) : Prop := ∀ o, o < nO → F (oa o) = some ((5, o, 0), fw_obj 6 [.ref (tr o), .ref (ml o), .int (nI (rf_left f (nI o) nJ)), .int (f 13 o), .int (f 14 o)])
def cr_J (F : fw_F) (ja oa : Nat → Nat) (f : mm_A) (nJ : Nat) : Prop := ∀ j, j < nJ → F (ja j) = some ((8, j, 0), fw_obj 3 [.ref (oa (rf_n (f 17 j))), .int (f 19 j), .int (f 18 j)])
def cr_K (F : fw_F) (lm lw : Nat) (ma ja oa tr ml : Nat → Nat) (f : mm_A) (nJ nO nW : Nat) (wj : Nat → Nat) : Prop := cr_M F lm ma f (cl_jb ja f) (cl_lf f) ∧ cr_W F lw nW ja wj (fun j => oa (rf_n (f 17 j))) f ∧ cr_O F oa tr ml f nJ nO ∧ cr_J F ja oa f nJ
theorem rf_left_put {f : mm_A} {mq i ex nJ : Nat} {o : Int32} (hm : mq < 3) (h : f 20 i = -1) : rf_left (rf_put f mq i ex) o nJ = rf_left f o nJ := rf_left_cg nJ (fun j hj9 => ⟨rfl, by
    show upd (f 20) i (nI mq) j = -2 ↔ _
    by_cases e : j = i
    · rw [e, pk_us, h]; exact ⟨fun q => absurd q (nI_neg2 (by omega)), fun q => absurd q (by decide)⟩
    · rw [pk_un e]⟩)
theorem cr_K.put {F W2 : fw_F} {lm lw : Nat} {ma ja oa tr ml : Nat → Nat} {f : mm_A} {nJ nO n k mq ex arr : Nat} {wj : Nat → Nat} (hK : cr_K F lm lw ma ja oa tr ml f nJ nO (n + 1) wj) (hI : cr_I f nJ nO (n + 1) wj) (hk : k ≤ n) (hm : mq < 3) (hf : f 23 mq = -1) (hex : ex ≤ 3) (hLw : F lw = some ((1, 4, 0), fw_ls arr (n + 1) (fun k => ja (wj k))))
    (hW : W2 = va_up (va_up F (ma mq) (some ((9, mq, 0), fw_obj 4 [.int (f 18 (wj k)), .ref (ja (wj k)), .int (nI ex + f 19 (wj k))]))) lw (some ((1, 4, 0), fw_ls arr n (fw_rm (fun k => ja (wj k)) k)))) : cr_K W2 lm lw ma ja oa tr ml (rf_put f mq (wj k) ex) nJ nO n (fw_rm wj k) ∧ fw_kp F W2 (fun t => t.1 = 9 ∨ t = (1, 4, 0)) := by
  obtain ⟨⟨⟨arm, hLm⟩, hms⟩, ⟨hn, -, hjs⟩, hO, hJ⟩ := hK
  have hI2 := hI.put hk hm hf hex
  have hj := hI.j96
  have hk1 := hI.row.1 k (by omega)
  have hmm := hms mq hm
  have hkp1 : fw_kp F (va_up F (ma mq) (some ((9, mq, 0), fw_obj 4 [.int (f 18 (wj k)), .ref (ja (wj k)), .int (nI ex + f 19 (wj k))]))) (fun t => t.1 = 9 ∨ t = (1, 4, 0)) := fw_kp.rf.up hmm (Or.inl rfl)
  have hlw1 := fw_up_tag (u := (9, mq, 0)) (d := fw_obj 4 [.int (f 18 (wj k)), .ref (ja (wj k)), .int (nI ex + f 19 (wj k))]) hLw hmm (by intro z; cases z)
  have hkp : fw_kp F W2 (fun t => t.1 = 9 ∨ t = (1, 4, 0)) := by rw [hW]; exact hkp1.up hlw1 (Or.inr rfl)
  refine ⟨⟨⟨⟨arm, hkp _ _ _ hLm (by simp)⟩, fun m h3 => ?_⟩, ⟨by omega, ⟨arr, ?_⟩, fun a ha => ?_⟩, fun o ho => ?_, fun j hj1 => hkp _ _ _ (hJ j hj1) (by simp)⟩, hkp⟩
  · by_cases e : m = mq
    · have e1 : (rf_put f mq (wj k) ex) 22 mq = f 18 (wj k) := pk_us
      have e0 : (rf_put f mq (wj k) ex) 23 mq = nI (wj k) := pk_us
      have e4 : (rf_put f mq (wj k) ex) 24 mq = f 19 (wj k) + nI ex := pk_us
      have e2 : cl_jb ja (rf_put f mq (wj k) ex) mq = some (ja (wj k)) := by rw [cl_jb, e0, if_neg (nI_neg1 (by omega)), rf_n, nI_clamp (by omega)]
      have e3 : cl_lf (rf_put f mq (wj k) ex) mq = nI ex + f 19 (wj k) := by rw [cl_lf, e0, if_neg (nI_neg1 (by omega)), e4, Int32.add_comm]
      rw [e, e1, e2, e3, hW]
      exact fw_up_tag fw_up_self hlw1 (by intro z; cases z)
    · have e1 : (rf_put f mq (wj k) ex) 22 m = f 22 m := pk_un e
      have e0 : (rf_put f mq (wj k) ex) 23 m = f 23 m := pk_un e
      have e4 : (rf_put f mq (wj k) ex) 24 m = f 24 m := pk_un e
      have e2 : cl_jb ja (rf_put f mq (wj k) ex) m = cl_jb ja f m := by rw [cl_jb, e0]; rfl
      have e3 : cl_lf (rf_put f mq (wj k) ex) m = cl_lf f m := by rw [cl_lf, e0, e4]; rfl
      rw [e1, e2, e3, hW]
      exact fw_up_tag (fw_up_tag (hms m h3) hmm (by intro z; injection z with z1 z2; injection z2 with z3; exact e z3)) hlw1 (by intro z; cases z)
  · rw [hW]
    have e : (fun a => ja (fw_rm wj k a)) = fw_rm (fun k => ja (wj k)) k := by funext a; unfold fw_rm; split <;> rfl
    rw [e]; exact fw_up_self
  · exact hkp _ _ _ (hJ _ (hI2.row.1 a ha).1) (by simp)
  · rw [rf_left_put hm hk1.2]
    exact hkp _ _ _ (hO o ho) (by simp)
theorem cr_K.less {F W2 : fw_F} {lm lw : Nat} {ma ja oa tr ml : Nat → Nat} {f : mm_A} {nJ nO nW m i : Nat} {wj : Nat → Nat} (hK : cr_K F lm lw ma ja oa tr ml f nJ nO nW wj) (hm : m < 3) (hi : i < 96) (e23 : f 23 m = nI i)
    (hW : W2 = va_up F (ma m) (some ((9, m, 0), fw_obj 4 [.int (f 22 m), .ref (ja i), .int (f 24 m - nI 1)]))) : cr_K W2 lm lw ma ja oa tr ml (rf_less f m) nJ nO nW wj ∧ fw_kp F W2 (fun t => t.1 = 9 ∨ t.1 = 5) := by
  obtain ⟨⟨⟨arm, hLm⟩, hms⟩, ⟨hn, ⟨arr, hLw⟩, hjs⟩, hO, hJ⟩ := hK
  have hmm := hms m hm
  have hkp : fw_kp F W2 (fun t => t.1 = 9 ∨ t.1 = 5) := by rw [hW]; exact fw_kp.rf.up hmm (Or.inl rfl)
  have hk4 : ∀ (a : Nat) (t : fw_T) (e : fw_E), F a = some (t, e) → ¬ t.1 = 9 → W2 a = some (t, e) := fun a t e g1 g2 => by rw [hW]; exact fw_up_tag g1 hmm (fun z => g2 (by rw [z]))
  refine ⟨⟨⟨⟨arm, hkp _ _ _ hLm (by simp)⟩, fun m' h3 => ?_⟩, ⟨hn, ⟨arr, hkp _ _ _ hLw (by simp)⟩, fun a ha => hkp _ _ _ (hjs a ha) (by simp)⟩, fun o ho => ?_, fun j hj1 => hkp _ _ _ (hJ j hj1) (by simp)⟩, hkp⟩
  · by_cases e : m' = m
    · have e4 : (rf_less f m) 24 m = f 24 m - 1 := pk_us
      have e0 : (rf_less f m) 23 m = nI i := e23
      have e2 : cl_jb ja (rf_less f m) m = some (ja i) := by rw [cl_jb, e0, if_neg (nI_neg1 (by omega)), rf_n, nI_clamp (by omega)]
      have e3 : cl_lf (rf_less f m) m = f 24 m - nI 1 := by rw [cl_lf, e0, if_neg (nI_neg1 (by omega)), e4]; rfl
      rw [e, e2, e3, hW]; exact fw_up_self
    · have e4 : (rf_less f m) 24 m' = f 24 m' := pk_un e
      have e3 : cl_lf (rf_less f m) m' = cl_lf f m' := by rw [cl_lf, e4]; rfl
      rw [e3, hW]
      exact fw_up_tag (hms m' h3) hmm (by intro z; injection z with z1 z2; injection z2 with z3; exact e z3)
  · have e5 : rf_left (rf_less f m) (nI o) nJ = rf_left f (nI o) nJ := rf_left_cg nJ (fun j hj9 => ⟨rfl, Iff.rfl⟩)
    rw [e5]; exact hk4 _ _ _ (hO o ho) (by simp)
theorem cr_K.done {F W2 : fw_F} {lm lw : Nat} {ma ja oa tr ml : Nat → Nat} {f : mm_A} {nJ nO nW m i o u : Nat} {wj : Nat → Nat} {tm : Int32} (hK : cr_K F lm lw ma ja oa tr ml f nJ nO nW wj) (hI : cr_I f nJ nO nW wj) (hm : m < 3) (hi : i < nJ) (e23 : f 23 m = nI i) (ho : o < nO) (e17 : f 17 i = nI o) (e24 : f 24 m = nI 1) (hu : rf_left f (nI o) nJ = u + 1)
    (hW : W2 = va_up (va_up F (ma m) (some ((9, m, 0), fw_obj 4 [.int (f 22 m), .null, .int (f 24 m - nI 1)]))) (oa o) (some ((5, o, 0), fw_obj 6 [.ref (tr o), .ref (ml o), .int (nI u), .int (if u = 0 then tm else f 13 o), .int (f 14 o)]))) : cr_K W2 lm lw ma ja oa tr ml (rf_done (rf_less f m) nJ tm m i) nJ nO nW wj ∧ fw_kp F W2 (fun t => t.1 = 9 ∨ t.1 = 5) := by
  obtain ⟨⟨⟨arm, hLm⟩, hms⟩, ⟨hn, ⟨arr, hLw⟩, hjs⟩, hO, hJ⟩ := hK
  have hj := hI.j96
  have ho12 := hI.o12
  have hmm := hms m hm
  obtain ⟨-, hl⟩ := hI.done (tm := tm) hm hi e23 ho e17
  have hoo := hO o ho
  have ho1 := fw_up_tag (u := (9, m, 0)) (d := fw_obj 4 [.int (f 22 m), .null, .int (f 24 m - nI 1)]) hoo hmm (by intro z; cases z)
  have hkp : fw_kp F W2 (fun t => t.1 = 9 ∨ t.1 = 5) := by rw [hW]; exact (fw_kp.rf.up hmm (Or.inl rfl)).up ho1 (Or.inr rfl)
  have hl0 : rf_left (rf_done (rf_less f m) nJ tm m i) (nI o) nJ = u := by have := hl o ho; rw [if_pos rfl] at this; omega
  have e9 : rf_n ((rf_less f m) 17 i) = o := by show rf_n (f 17 i) = o; rw [e17, rf_n, nI_clamp (by omega)]
  refine ⟨⟨⟨⟨arm, hkp _ _ _ hLm (by simp)⟩, fun m' h3 => ?_⟩, ⟨hn, ⟨arr, hkp _ _ _ hLw (by simp)⟩, fun a ha => hkp _ _ _ (hjs a ha) (by simp)⟩, fun o' ho' => ?_, fun j hj1 => hkp _ _ _ (hJ j hj1) (by simp)⟩, hkp⟩
  · by_cases e : m' = m
    · have e0 : (rf_done (rf_less f m) nJ tm m i) 23 m = -1 := pk_us
      have e2 : cl_jb ja (rf_done (rf_less f m) nJ tm m i) m = none := by rw [cl_jb, e0, if_pos rfl]
      have e3 : cl_lf (rf_done (rf_less f m) nJ tm m i) m = f 24 m - nI 1 := by rw [cl_lf, e0, if_pos rfl, e24]; decide
      rw [e, e2, e3, hW]; exact fw_up_tag fw_up_self ho1 (by intro z; cases z)
    · have e0 : (rf_done (rf_less f m) nJ tm m i) 23 m' = f 23 m' := pk_un e
      have e4 : (rf_done (rf_less f m) nJ tm m i) 24 m' = f 24 m' := pk_un e
      have e2 : cl_jb ja (rf_done (rf_less f m) nJ tm m i) m' = cl_jb ja f m' := by rw [cl_jb, e0]; rfl
      have e3 : cl_lf (rf_done (rf_less f m) nJ tm m i) m' = cl_lf f m' := by rw [cl_lf, e0, e4]; rfl
      rw [e2, e3, hW]
      exact fw_up_tag (fw_up_tag (hms m' h3) hmm (by intro z; injection z with z1 z2; injection z2 with z3; exact e z3)) ho1 (by intro z; cases z)
  · by_cases q : o' = o
    · have e13 : (rf_done (rf_less f m) nJ tm m i) 13 o = (if u = 0 then tm else f 13 o) := by
        show upd (f 13) (rf_n ((rf_less f m) 17 i)) (if rf_left (va_up (rf_less f m) 20 (upd ((rf_less f m) 20) i (-2))) ((rf_less f m) 17 i) nJ = 0 then tm else -1) o = _
        have h17 : (rf_less f m) 17 i = nI o := e17
        have h18 : rf_left (va_up (rf_less f m) 20 (upd ((rf_less f m) 20) i (-2))) (nI o) nJ = u := by rw [← hl0]; exact rf_left_cg nJ (fun j hj9 => ⟨rfl, Iff.rfl⟩)
        rw [e9, pk_us, h17, h18, hI.don o ho (by omega)]
      rw [q, hl0, e13, hW]; exact fw_up_self
    · have e13 : (rf_done (rf_less f m) nJ tm m i) 13 o' = f 13 o' := by
        show upd (f 13) (rf_n ((rf_less f m) 17 i)) _ o' = _
        rw [e9, pk_un q]
      have h9 := hl o' ho'
      rw [if_neg q, Nat.add_zero] at h9
      rw [e13, ← h9, hW]
      exact fw_up_tag (fw_up_tag (hO o' ho') hmm (by intro z; cases z)) ho1 (by intro z; injection z with z1 z2; injection z2 with z3; exact q z3)
set_option maxHeartbeats 4000000 in
set_option maxRecDepth 100000 in
theorem c_X8_giveJob (l : Launch) (G : fw_G) (F : fw_F) (sz : Nat) (x lc lt lo lm lw dr : Nat) (tm : Int32) (ma ja oa tr ml : Nat → Nat) (f : mm_A) (nJ nO nW : Nat) (wj : Nat → Nat) (mq : Nat) (hX : cr_X F x lc lt lo lm lw dr tm) (hK : cr_K F lm lw ma ja oa tr ml f nJ nO nW wj) (hI : cr_I f nJ nO nW wj) (hmq : mq < 3) (hf : f 23 mq = -1) : Met l yX8_giveJob (fw_ws yX8_giveJob cX8_giveJob 4 none) { frames := 5, cells := 0, slots := 0, locals := 110 } (va_Pc [.ref x, .ref (ma mq)] (fw_Pre G F sz)) (va_Qv (fun F1 => ∃ nW1 wj1, cr_K F1 lm lw ma ja oa tr ml (rf_takes f nJ mq) nJ nO nW1 wj1 ∧ cr_I (rf_takes f nJ mq) nJ nO nW1 wj1 ∧ fw_kp F F1 (fun t => t.1 = 9 ∨ t = (1, 4, 0))) (fw_B G (fw_W G F sz)) (fw_W G F sz)) 0 0 (fw_W G F sz) := by
  refine fw_met (lv := [(0, .ref x), (1, .ref (ma mq))]) (by decide +kernel) (Nat.le_of_ble_eq_true rfl) rfl ?_
  intro A hA p e s m below meth c ls hx hb hml hown hT hr hlk hin hz hsz hw hAn hl
  rw [← hA]
  have hown : s.vm.findClass RX8 = some m.cls := hown
  have C : CallFix p m c cX8_giveJob 4 s _ fw_tb RX8 := ⟨hx, hb, hml, hown, hT⟩
  have hK9 := hK
  obtain ⟨hM, hW, hO, hJ⟩ := hK
  have hM9 := hM
  have hW9 := hW
  obtain ⟨⟨arm, hLm⟩, hms⟩ := hM
  obtain ⟨hn, ⟨arr, hLw⟩, hjs⟩ := hW
  have hmm := hms mq hmq
  have hR := hI.row
  have hj96 := hI.j96
  have hnw := hR.nW
  refine lv_aload_n hx hb dX8_giveJob_0 rfl (lv_at hl 0 rfl) ?_
  refine lv_aload_n hx hb dX8_giveJob_1 rfl (lv_at hl 1 rfl) ?_
  refine fw_calli (fw_runV (As := [.ref (ma mq)]) (rest := []) C hz hw (c_X8_firstWithCutterOf l G _ _ x lc lt lo lm lw dr tm ma f (cl_jb ja f) (cl_lf f) nW ja wj (fun j => oa (rf_n (f 17 j))) mq hX hM9 hW9 hmq) (fw_cwV hT wd_519 yVX8_firstWithCutterOf rfl rfl ⟨Nat.le_of_ble_eq_true rfl, Nat.le_of_ble_eq_true rfl⟩) (fw_rec hz hw hX (q := vwCl[9]) rfl) rfl hl.1 rfl (Nat.le_of_ble_eq_true rfl) dX8_giveJob_2 ⟨Nat.le_of_ble_eq_true rfl, Nat.le_of_ble_eq_true rfl⟩) hw (fun r F1 H locs hw hp => ?_)
  obtain ⟨hp0, hp⟩ := hp
  rw [hp0] at hw
  refine W.widen (k := 0) (n := 0) (Nat.le_of_ble_eq_true rfl) (Nat.le_of_ble_eq_true rfl) ?_
  rcases cl_first (mc := mq) (b := true) hR (fun k hk => rfl) hp with ⟨rfl, h11, h12⟩ | ⟨k, hk, rfl, h11⟩
  · refine lv_istore_n (lv' := [(2, .int (-1)), (0, .ref x), (1, .ref (ma mq))]) hx hb dX8_giveJob_5 rfl hl (by decide) rfl (fun ls hl => ?_)
    refine lv_iconst (v := (nI 0)) hx hb dX8_giveJob_6 (by decide) ?_
    refine lv_istore_n (lv' := [(3, .int (nI 0)), (2, .int (-1)), (0, .ref x), (1, .ref (ma mq))]) hx hb dX8_giveJob_7 rfl hl (by decide) rfl (fun ls hl => ?_)
    refine lv_iload_n hx hb dX8_giveJob_8 rfl (lv_at hl 1 rfl) ?_
    refine lv_iconst (v := (-1)) hx hb dX8_giveJob_9 (by decide) ?_
    refine lv_icmp_ne (tgt := 21) hx hb dX8_giveJob_10 (by decide) (fun cx => absurd cx (by decide)) (fun cx => ?_)
    refine lv_aload_n hx hb dX8_giveJob_13 rfl (lv_at hl 2 rfl) ?_
    refine lv_aload_n hx hb dX8_giveJob_14 rfl (lv_at hl 3 rfl) ?_
    refine fw_calli (fw_runV (As := [.ref (ma mq)]) (rest := []) C hz hw (c_X8_firstWithFreeCutter l G _ _ x lc lt lo lm lw dr tm ma f (cl_jb ja f) (cl_lf f) nW ja wj (fun j => oa (rf_n (f 17 j))) mq hX hM9 hW9 hmq) (fw_cwV hT wd_523 yVX8_firstWithFreeCutter rfl rfl ⟨Nat.le_of_ble_eq_true rfl, Nat.le_of_ble_eq_true rfl⟩) (fw_rec hz hw hX (q := vwCl[9]) rfl) rfl hl.1 rfl (Nat.le_of_ble_eq_true rfl) dX8_giveJob_15 ⟨Nat.le_of_ble_eq_true rfl, Nat.le_of_ble_eq_true rfl⟩) hw (fun r F1 H locs hw hp => ?_)
    obtain ⟨hp0, hp⟩ := hp
    rw [hp0] at hw
    refine W.widen (k := 0) (n := 0) (Nat.le_of_ble_eq_true rfl) (Nat.le_of_ble_eq_true rfl) ?_
    rcases cl_first (mc := mq) (b := false) hR (fun k hk => by rw [rf_can, if_neg (by decide), rf_on_oth f mq _ hmq, show decide (f 22 mq = f 18 (wj k)) = false from decide_eq_false (fun z => of_decide_eq_false (h12 k hk) z.symm), Bool.or_false]) hp with ⟨rfl, h21, h22⟩ | ⟨k, hk, rfl, h21⟩
    · refine lv_istore_n (lv' := [(2, .int (-1)), (3, .int (nI 0)), (0, .ref x), (1, .ref (ma mq))]) hx hb dX8_giveJob_18 rfl hl (by decide) rfl (fun ls hl => ?_)
      refine lv_iconst (v := (nI 3)) hx hb dX8_giveJob_19 (by decide) ?_
      refine lv_istore_n (lv' := [(3, .int (nI 3)), (2, .int (-1)), (0, .ref x), (1, .ref (ma mq))]) hx hb dX8_giveJob_20 rfl hl (by decide) rfl (fun ls hl => ?_)
      refine lv_iload_n hx hb dX8_giveJob_21 rfl (lv_at hl 1 rfl) ?_
      refine lv_if_lt (tgt := 36) hx hb dX8_giveJob_22 (by decide) (fun cx => ?_) (fun cx => absurd cx (by decide))
      exact fw_vret hx hb hr hlk (Nat.le_of_ble_eq_true rfl) (Nat.le_of_ble_eq_true rfl) hw dX8_giveJob_36 (by rw [cr_I.takes0 (by rw [rf_its, if_pos h11, h21])]; exact ⟨nW, wj, hK9, hI, fw_kp.rf⟩)
    · have hwk := (hR.1 k hk).1
      refine lv_istore_n (lv' := [(2, .int (nI k)), (3, .int (nI 0)), (0, .ref x), (1, .ref (ma mq))]) hx hb dX8_giveJob_18 rfl hl (by decide) rfl (fun ls hl => ?_)
      refine lv_iconst (v := (nI 3)) hx hb dX8_giveJob_19 (by decide) ?_
      refine lv_istore_n (lv' := [(3, .int (nI 3)), (2, .int (nI k)), (0, .ref x), (1, .ref (ma mq))]) hx hb dX8_giveJob_20 rfl hl (by decide) rfl (fun ls hl => ?_)
      refine lv_iload_n hx hb dX8_giveJob_21 rfl (lv_at hl 1 rfl) ?_
      obtain ⟨n9, rfl⟩ : ∃ n9, nW = n9 + 1 := ⟨nW - 1, by omega⟩
      refine lv_if_lt (tgt := 36) hx hb dX8_giveJob_22 (by decide) (fun cx => absurd cx (nI_pos (by omega))) (fun cx => ?_)
      refine lv_iload_n hx hb dX8_giveJob_25 rfl (lv_at hl 1 rfl) ?_
      refine lv_aload_n hx hb dX8_giveJob_26 rfl (lv_at hl 2 rfl) ?_
      refine fw_get (v := .ref lw) hx hb hT fi_RX8 hown hz hw hX rfl 4 (by decide) (hT _ wd_179) (fun _ h9 => h9) rfl dX8_giveJob_27 ?_
      refine fw_calli (fw_runV (As := []) (rest := [.int (nI k)]) C hz hw (c_Jx4a65c_size_8abf5 l G _ _ lw arr (n9 + 1) (1, 4, 0) _ hLw) (fw_cwV hT wd_278 yVJx4a65c_size_8abf5 rfl rfl ⟨Nat.le_of_ble_eq_true rfl, Nat.le_of_ble_eq_true rfl⟩) (fw_recL hz hw hLw) rfl hl.1 rfl (Nat.le_of_ble_eq_true rfl) dX8_giveJob_30 ⟨Nat.le_of_ble_eq_true rfl, Nat.le_of_ble_eq_true rfl⟩) hw (fun r F1 H locs hw hp => ?_)
      obtain ⟨hp0, hp⟩ := hp
      rw [hp0] at hw
      refine W.widen (k := 0) (n := 0) (Nat.le_of_ble_eq_true rfl) (Nat.le_of_ble_eq_true rfl) ?_
      subst hp
      refine lv_icmp_lt (tgt := 37) hx hb dX8_giveJob_33 (by decide) (fun cx => ?_) (fun cx => absurd cx (fun h => h (nI_lt hk (by omega))))
      refine lv_aload_n hx hb dX8_giveJob_37 rfl (lv_at hl 3 rfl) ?_
      refine lv_aload_n hx hb dX8_giveJob_38 rfl (lv_at hl 2 rfl) ?_
      refine fw_get (v := .ref lw) hx hb hT fi_RX8 hown hz hw hX rfl 4 (by decide) (hT _ wd_179) (fun _ h9 => h9) rfl dX8_giveJob_39 ?_
      refine lv_iload_n hx hb dX8_giveJob_42 rfl (lv_at hl 1 rfl) ?_
      refine fw_callo (fw_runV (As := [.int (nI k)]) (rest := [.ref (ma mq)]) C hz hw (c_Jx4a65c_get_915e3 l G _ _ lw arr (n9 + 1) (1, 4, 0) _ k hLw hk (by omega)) (fw_cwV hT wd_323 yVJx4a65c_get_915e3 rfl rfl ⟨Nat.le_of_ble_eq_true rfl, Nat.le_of_ble_eq_true rfl⟩) (fw_recL hz hw hLw) rfl hl.1 rfl (Nat.le_of_ble_eq_true rfl) dX8_giveJob_43 ⟨Nat.le_of_ble_eq_true rfl, Nat.le_of_ble_eq_true rfl⟩) hw (fun r F1 H locs hw hp => ?_)
      obtain ⟨hp0, hp⟩ := hp
      rw [hp0] at hw
      refine W.widen (k := 0) (n := 0) (Nat.le_of_ble_eq_true rfl) (Nat.le_of_ble_eq_true rfl) ?_
      subst hp
      have hs9 := hjs k hk
      refine fw_cast hx hb hown hz hw hs9 (q := vwCl[3]) rfl (hT _ wd_486) dX8_giveJob_46 ?_
      refine lv_iload_n hx hb dX8_giveJob_49 rfl (lv_at hl 0 rfl) ?_
      refine fw_callv (fw_runV (As := [.ref (ja (wj k)), .int (nI 3)]) (rest := []) C hz hw (c_X3_begin l G _ _ (ma mq) (ja (wj k)) (oa (rf_n (f 17 (wj k)))) 3 (9, mq, 0) (8, wj k, 0) (f 22 mq) (cl_lf f mq) (f 19 (wj k)) (f 18 (wj k)) (cl_jb ja f mq) (by intro z; cases z) hmm hs9) (fw_cwV hT wd_531 yVX3_begin rfl rfl ⟨Nat.le_of_ble_eq_true rfl, Nat.le_of_ble_eq_true rfl⟩) (fw_rec hz hw hmm (q := vwCl[4]) rfl) rfl hl.1 rfl (Nat.le_of_ble_eq_true rfl) dX8_giveJob_50 ⟨Nat.le_of_ble_eq_true rfl, Nat.le_of_ble_eq_true rfl⟩) hw (fun F1 H locs hw hp => ?_)
      refine W.widen (k := 0) (n := 0) (Nat.le_of_ble_eq_true rfl) (Nat.le_of_ble_eq_true rfl) ?_
      rw [hp] at hw
      obtain ⟨W1, hFW1⟩ : ∃ z, z = va_up F (ma mq) (some ((9, mq, 0), fw_obj 4 [.int (f 18 (wj k)), .ref (ja (wj k)), .int (nI 3 + f 19 (wj k))])) := ⟨_, rfl⟩
      rw [← hFW1] at hw
      have k1_0 : W1 x = some ((50, 0, 0), fw_obj 9 [.ref lc, .ref lt, .ref lo, .ref lm, .ref lw, .ref dr, .int tm]) := by rw [hFW1]; exact fw_up_tag hX hmm (by intro z; cases z)
      have k1_1 : W1 lw = some ((1, 4, 0), fw_ls arr (n9 + 1) (fun k => ja (wj k))) := by rw [hFW1]; exact fw_up_tag hLw hmm (by intro z; cases z)
      have k1_2 : W1 (ja (wj k)) = some ((8, wj k, 0), fw_obj 3 [.ref (oa (rf_n (f 17 (wj k)))), .int (f 19 (wj k)), .int (f 18 (wj k))]) := by rw [hFW1]; exact fw_up_tag hs9 hmm (by intro z; cases z)
      have k1_s : W1 (ma mq) = some ((9, mq, 0), fw_obj 4 [.int (f 18 (wj k)), .ref (ja (wj k)), .int (nI 3 + f 19 (wj k))]) := by rw [hFW1]; exact fw_up_self
      refine lv_aload_n hx hb dX8_giveJob_53 rfl (lv_at hl 2 rfl) ?_
      refine fw_get (v := .ref lw) hx hb hT fi_RX8 hown hz hw k1_0 rfl 4 (by decide) (hT _ wd_179) (fun _ h9 => h9) rfl dX8_giveJob_54 ?_
      refine lv_iload_n hx hb dX8_giveJob_57 rfl (lv_at hl 1 rfl) ?_
      refine fw_callo (fw_runV (As := [.int (nI k)]) (rest := []) C hz hw (c_Jx4a65c_remove_915e3 l G _ _ lw arr n9 k (1, 4, 0) _ (by decide) k1_1 (by omega) (by omega)) (fw_cwV hT wd_535 yVJx4a65c_remove_915e3 rfl rfl ⟨Nat.le_of_ble_eq_true rfl, Nat.le_of_ble_eq_true rfl⟩) (fw_recL hz hw k1_1) rfl hl.1 rfl (Nat.le_of_ble_eq_true rfl) dX8_giveJob_58 ⟨Nat.le_of_ble_eq_true rfl, Nat.le_of_ble_eq_true rfl⟩) hw (fun r F1 H locs hw hp => ?_)
      refine W.widen (k := 0) (n := 0) (Nat.le_of_ble_eq_true rfl) (Nat.le_of_ble_eq_true rfl) ?_
      obtain ⟨rfl, hp⟩ := hp
      rw [hp, hFW1] at hw
      refine lv_pop hx hb dX8_giveJob_61 rfl ?_
      have hend := hK9.put hI (show k ≤ n9 by omega) hmq hf (show 3 ≤ 3 by decide) hLw rfl
      exact fw_vret hx hb hr hlk (Nat.le_of_ble_eq_true rfl) (Nat.le_of_ble_eq_true rfl) hw dX8_giveJob_62 (⟨n9, fw_rm wj k, by rw [cr_I.takes2 (by omega) h11 h21]; exact hend.1, by rw [cr_I.takes2 (by omega) h11 h21]; exact hI.put (by omega) hmq hf (by decide), hend.2⟩)
  · have hwk := (hR.1 k hk).1
    refine lv_istore_n (lv' := [(2, .int (nI k)), (0, .ref x), (1, .ref (ma mq))]) hx hb dX8_giveJob_5 rfl hl (by decide) rfl (fun ls hl => ?_)
    refine lv_iconst (v := (nI 0)) hx hb dX8_giveJob_6 (by decide) ?_
    refine lv_istore_n (lv' := [(3, .int (nI 0)), (2, .int (nI k)), (0, .ref x), (1, .ref (ma mq))]) hx hb dX8_giveJob_7 rfl hl (by decide) rfl (fun ls hl => ?_)
    refine lv_iload_n hx hb dX8_giveJob_8 rfl (lv_at hl 1 rfl) ?_
    refine lv_iconst (v := (-1)) hx hb dX8_giveJob_9 (by decide) ?_
    refine lv_icmp_ne (tgt := 21) hx hb dX8_giveJob_10 (by decide) (fun cx => ?_) (fun cx => absurd cx (nI_neg1 (by omega)))
    refine lv_iload_n hx hb dX8_giveJob_21 rfl (lv_at hl 1 rfl) ?_
    obtain ⟨n9, rfl⟩ : ∃ n9, nW = n9 + 1 := ⟨nW - 1, by omega⟩
    refine lv_if_lt (tgt := 36) hx hb dX8_giveJob_22 (by decide) (fun cx => absurd cx (nI_pos (by omega))) (fun cx => ?_)
    refine lv_iload_n hx hb dX8_giveJob_25 rfl (lv_at hl 1 rfl) ?_
    refine lv_aload_n hx hb dX8_giveJob_26 rfl (lv_at hl 2 rfl) ?_
    refine fw_get (v := .ref lw) hx hb hT fi_RX8 hown hz hw hX rfl 4 (by decide) (hT _ wd_179) (fun _ h9 => h9) rfl dX8_giveJob_27 ?_
    refine fw_calli (fw_runV (As := []) (rest := [.int (nI k)]) C hz hw (c_Jx4a65c_size_8abf5 l G _ _ lw arr (n9 + 1) (1, 4, 0) _ hLw) (fw_cwV hT wd_278 yVJx4a65c_size_8abf5 rfl rfl ⟨Nat.le_of_ble_eq_true rfl, Nat.le_of_ble_eq_true rfl⟩) (fw_recL hz hw hLw) rfl hl.1 rfl (Nat.le_of_ble_eq_true rfl) dX8_giveJob_30 ⟨Nat.le_of_ble_eq_true rfl, Nat.le_of_ble_eq_true rfl⟩) hw (fun r F1 H locs hw hp => ?_)
    obtain ⟨hp0, hp⟩ := hp
    rw [hp0] at hw
    refine W.widen (k := 0) (n := 0) (Nat.le_of_ble_eq_true rfl) (Nat.le_of_ble_eq_true rfl) ?_
    subst hp
    refine lv_icmp_lt (tgt := 37) hx hb dX8_giveJob_33 (by decide) (fun cx => ?_) (fun cx => absurd cx (fun h => h (nI_lt hk (by omega))))
    refine lv_aload_n hx hb dX8_giveJob_37 rfl (lv_at hl 3 rfl) ?_
    refine lv_aload_n hx hb dX8_giveJob_38 rfl (lv_at hl 2 rfl) ?_
    refine fw_get (v := .ref lw) hx hb hT fi_RX8 hown hz hw hX rfl 4 (by decide) (hT _ wd_179) (fun _ h9 => h9) rfl dX8_giveJob_39 ?_
    refine lv_iload_n hx hb dX8_giveJob_42 rfl (lv_at hl 1 rfl) ?_
    refine fw_callo (fw_runV (As := [.int (nI k)]) (rest := [.ref (ma mq)]) C hz hw (c_Jx4a65c_get_915e3 l G _ _ lw arr (n9 + 1) (1, 4, 0) _ k hLw hk (by omega)) (fw_cwV hT wd_323 yVJx4a65c_get_915e3 rfl rfl ⟨Nat.le_of_ble_eq_true rfl, Nat.le_of_ble_eq_true rfl⟩) (fw_recL hz hw hLw) rfl hl.1 rfl (Nat.le_of_ble_eq_true rfl) dX8_giveJob_43 ⟨Nat.le_of_ble_eq_true rfl, Nat.le_of_ble_eq_true rfl⟩) hw (fun r F1 H locs hw hp => ?_)
    obtain ⟨hp0, hp⟩ := hp
    rw [hp0] at hw
    refine W.widen (k := 0) (n := 0) (Nat.le_of_ble_eq_true rfl) (Nat.le_of_ble_eq_true rfl) ?_
    subst hp
    have hs9 := hjs k hk
    refine fw_cast hx hb hown hz hw hs9 (q := vwCl[3]) rfl (hT _ wd_486) dX8_giveJob_46 ?_
    refine lv_iload_n hx hb dX8_giveJob_49 rfl (lv_at hl 0 rfl) ?_
    refine fw_callv (fw_runV (As := [.ref (ja (wj k)), .int (nI 0)]) (rest := []) C hz hw (c_X3_begin l G _ _ (ma mq) (ja (wj k)) (oa (rf_n (f 17 (wj k)))) 0 (9, mq, 0) (8, wj k, 0) (f 22 mq) (cl_lf f mq) (f 19 (wj k)) (f 18 (wj k)) (cl_jb ja f mq) (by intro z; cases z) hmm hs9) (fw_cwV hT wd_531 yVX3_begin rfl rfl ⟨Nat.le_of_ble_eq_true rfl, Nat.le_of_ble_eq_true rfl⟩) (fw_rec hz hw hmm (q := vwCl[4]) rfl) rfl hl.1 rfl (Nat.le_of_ble_eq_true rfl) dX8_giveJob_50 ⟨Nat.le_of_ble_eq_true rfl, Nat.le_of_ble_eq_true rfl⟩) hw (fun F1 H locs hw hp => ?_)
    refine W.widen (k := 0) (n := 0) (Nat.le_of_ble_eq_true rfl) (Nat.le_of_ble_eq_true rfl) ?_
    rw [hp] at hw
    obtain ⟨W1, hFW1⟩ : ∃ z, z = va_up F (ma mq) (some ((9, mq, 0), fw_obj 4 [.int (f 18 (wj k)), .ref (ja (wj k)), .int (nI 0 + f 19 (wj k))])) := ⟨_, rfl⟩
    rw [← hFW1] at hw
    have k1_0 : W1 x = some ((50, 0, 0), fw_obj 9 [.ref lc, .ref lt, .ref lo, .ref lm, .ref lw, .ref dr, .int tm]) := by rw [hFW1]; exact fw_up_tag hX hmm (by intro z; cases z)
    have k1_1 : W1 lw = some ((1, 4, 0), fw_ls arr (n9 + 1) (fun k => ja (wj k))) := by rw [hFW1]; exact fw_up_tag hLw hmm (by intro z; cases z)
    have k1_2 : W1 (ja (wj k)) = some ((8, wj k, 0), fw_obj 3 [.ref (oa (rf_n (f 17 (wj k)))), .int (f 19 (wj k)), .int (f 18 (wj k))]) := by rw [hFW1]; exact fw_up_tag hs9 hmm (by intro z; cases z)
    have k1_s : W1 (ma mq) = some ((9, mq, 0), fw_obj 4 [.int (f 18 (wj k)), .ref (ja (wj k)), .int (nI 0 + f 19 (wj k))]) := by rw [hFW1]; exact fw_up_self
    refine lv_aload_n hx hb dX8_giveJob_53 rfl (lv_at hl 2 rfl) ?_
    refine fw_get (v := .ref lw) hx hb hT fi_RX8 hown hz hw k1_0 rfl 4 (by decide) (hT _ wd_179) (fun _ h9 => h9) rfl dX8_giveJob_54 ?_
    refine lv_iload_n hx hb dX8_giveJob_57 rfl (lv_at hl 1 rfl) ?_
    refine fw_callo (fw_runV (As := [.int (nI k)]) (rest := []) C hz hw (c_Jx4a65c_remove_915e3 l G _ _ lw arr n9 k (1, 4, 0) _ (by decide) k1_1 (by omega) (by omega)) (fw_cwV hT wd_535 yVJx4a65c_remove_915e3 rfl rfl ⟨Nat.le_of_ble_eq_true rfl, Nat.le_of_ble_eq_true rfl⟩) (fw_recL hz hw k1_1) rfl hl.1 rfl (Nat.le_of_ble_eq_true rfl) dX8_giveJob_58 ⟨Nat.le_of_ble_eq_true rfl, Nat.le_of_ble_eq_true rfl⟩) hw (fun r F1 H locs hw hp => ?_)
    refine W.widen (k := 0) (n := 0) (Nat.le_of_ble_eq_true rfl) (Nat.le_of_ble_eq_true rfl) ?_
    obtain ⟨rfl, hp⟩ := hp
    rw [hp, hFW1] at hw
    refine lv_pop hx hb dX8_giveJob_61 rfl ?_
    have hend := hK9.put hI (show k ≤ n9 by omega) hmq hf (show 0 ≤ 3 by decide) hLw rfl
    exact fw_vret hx hb hr hlk (Nat.le_of_ble_eq_true rfl) (Nat.le_of_ble_eq_true rfl) hw dX8_giveJob_62 (⟨n9, fw_rm wj k, by rw [cr_I.takes1 (by omega) h11]; exact hend.1, by rw [cr_I.takes1 (by omega) h11]; exact hI.put (by omega) hmq hf (by decide), hend.2⟩)
set_option maxHeartbeats 4000000 in
set_option maxRecDepth 100000 in
theorem c_X8_giveOutJobs (l : Launch) (G : fw_G) (F : fw_F) (sz : Nat) (x lc lt lo lm lw dr : Nat) (tm : Int32) (ma ja oa tr ml : Nat → Nat) (f : mm_A) (nJ nO nW : Nat) (wj : Nat → Nat) (hX : cr_X F x lc lt lo lm lw dr tm) (hK : cr_K F lm lw ma ja oa tr ml f nJ nO nW wj) (hI : cr_I f nJ nO nW wj) : Met l yX8_giveOutJobs (fw_ws yX8_giveOutJobs cX8_giveOutJobs 3 none) { frames := 6, cells := 0, slots := 0, locals := 133 } (va_Pc [.ref x] (fw_Pre G F sz)) (va_Qv (fun F1 => ∃ nW1 wj1, cr_K F1 lm lw ma ja oa tr ml (rf_give f nJ 3) nJ nO nW1 wj1 ∧ cr_I (rf_give f nJ 3) nJ nO nW1 wj1 ∧ fw_kp F F1 (fun t => t.1 = 9 ∨ t = (1, 4, 0))) (fw_B G (fw_W G F sz)) (fw_W G F sz)) 0 0 (fw_W G F sz) := by
  refine fw_met (lv := [(0, .ref x)]) (by decide +kernel) (Nat.le_of_ble_eq_true rfl) rfl ?_
  intro A hA p e s m below meth c ls hx hb hml hown hT hr hlk hin hz hsz hw hAn hl
  rw [← hA]
  have hown : s.vm.findClass RX8 = some m.cls := hown
  have C : CallFix p m c cX8_giveOutJobs 3 s _ fw_tb RX8 := ⟨hx, hb, hml, hown, hT⟩
  refine lv_iconst (v := (nI 0)) hx hb dX8_giveOutJobs_0 (by decide) ?_
  refine lv_istore_n (lv' := [(1, .int (nI 0)), (0, .ref x)]) hx hb dX8_giveOutJobs_1 rfl hl (by decide) rfl (fun ls hl => ?_)
  suffices hlp : ∀ (d k : Nat) (F1 : fw_F) (nW1 : Nat) (wj1 : Nat → Nat), k + d = 3 → cr_K F1 lm lw ma ja oa tr ml (rf_give f nJ k) nJ nO nW1 wj1 → cr_I (rf_give f nJ k) nJ nO nW1 wj1 → fw_kp F F1 (fun t => t.1 = 9 ∨ t = (1, 4, 0)) → ∀ (H : Heap) (locs : List Loc) (ls : Array Slot), fw_S G A s F1 H locs → lv_has ls 3 [(1, .int (nI k)), (0, .ref x)] → W p l e { frames := 6, cells := 0, slots := 0, locals := 133 } s m ([.ref x] : List Value).toArray below meth c H locs 0 0 (MQ below (va_Qv (fun F1 => ∃ nW1 wj1, cr_K F1 lm lw ma ja oa tr ml (rf_give f nJ 3) nJ nO nW1 wj1 ∧ cr_I (rf_give f nJ 3) nJ nO nW1 wj1 ∧ fw_kp F F1 (fun t => t.1 = 9 ∨ t = (1, 4, 0))) (fw_B G A) A) ([.ref x] : List Value).toArray s 0 0 A) (F0 m 2 ls []) by
    exact hlp 3 0 F nW wj rfl hK hI fw_kp.rf _ _ _ hw (lv_sub hl [0, 1] rfl)
  intro d
  induction d with
  | zero =>
    intro k E1 nW1 wj1 hk hK1 hI1 hkp H locs ls hw hl
    have hX1 : cr_X E1 x lc lt lo lm lw dr tm := hkp _ _ _ hX (by simp)
    have hKK := hK1
    obtain ⟨⟨⟨arm, hLm⟩, hms⟩, -, -, -⟩ := hKK
    refine lv_iload_n hx hb dX8_giveOutJobs_2 rfl (lv_at hl 0 rfl) ?_
    refine lv_aload_n hx hb dX8_giveOutJobs_3 rfl (lv_at hl 1 rfl) ?_
    refine fw_get (v := .ref lm) hx hb hT fi_RX8 hown hz hw hX1 rfl 3 (by decide) (hT _ wd_178) (fun _ h9 => h9) rfl dX8_giveOutJobs_4 ?_
    refine fw_calli (fw_runV (As := []) (rest := [.int (nI k)]) C hz hw (c_Jx4a65c_size_8abf5 l G _ _ lm arm 3 (1, 3, 0) ma hLm) (fw_cwV hT wd_278 yVJx4a65c_size_8abf5 rfl rfl ⟨Nat.le_of_ble_eq_true rfl, Nat.le_of_ble_eq_true rfl⟩) (fw_recL hz hw hLm) rfl hl.1 rfl (Nat.le_of_ble_eq_true rfl) dX8_giveOutJobs_7 ⟨Nat.le_of_ble_eq_true rfl, Nat.le_of_ble_eq_true rfl⟩) hw (fun r F1 H locs hw hp => ?_)
    obtain ⟨hp0, hp⟩ := hp
    rw [hp0] at hw
    refine W.widen (k := 0) (n := 0) (Nat.le_of_ble_eq_true rfl) (Nat.le_of_ble_eq_true rfl) ?_
    subst hp
    refine lv_icmp_ge (tgt := 43) hx hb dX8_giveOutJobs_10 (by decide) (fun q => ?_) (fun q => ?_)
    · have q := (nI_leI (a := 3) (b := k) (by omega) (by omega)).mp q
      obtain rfl : k = 3 := by omega
      exact fw_vret hx hb hr hlk (Nat.le_of_ble_eq_true rfl) (Nat.le_of_ble_eq_true rfl) hw dX8_giveOutJobs_43 (⟨nW1, wj1, hK1, hI1, hkp⟩)
    · have q : ¬ 3 ≤ k := fun h9 => q ((nI_leI (a := 3) (b := k) (by omega) (by omega)).mpr h9)
      omega
  | succ d ih =>
    intro k E1 nW1 wj1 hk hK1 hI1 hkp H locs ls hw hl
    have hX1 : cr_X E1 x lc lt lo lm lw dr tm := hkp _ _ _ hX (by simp)
    have hKK := hK1
    obtain ⟨⟨⟨arm, hLm⟩, hms⟩, -, -, -⟩ := hKK
    refine lv_iload_n hx hb dX8_giveOutJobs_2 rfl (lv_at hl 0 rfl) ?_
    refine lv_aload_n hx hb dX8_giveOutJobs_3 rfl (lv_at hl 1 rfl) ?_
    refine fw_get (v := .ref lm) hx hb hT fi_RX8 hown hz hw hX1 rfl 3 (by decide) (hT _ wd_178) (fun _ h9 => h9) rfl dX8_giveOutJobs_4 ?_
    refine fw_calli (fw_runV (As := []) (rest := [.int (nI k)]) C hz hw (c_Jx4a65c_size_8abf5 l G _ _ lm arm 3 (1, 3, 0) ma hLm) (fw_cwV hT wd_278 yVJx4a65c_size_8abf5 rfl rfl ⟨Nat.le_of_ble_eq_true rfl, Nat.le_of_ble_eq_true rfl⟩) (fw_recL hz hw hLm) rfl hl.1 rfl (Nat.le_of_ble_eq_true rfl) dX8_giveOutJobs_7 ⟨Nat.le_of_ble_eq_true rfl, Nat.le_of_ble_eq_true rfl⟩) hw (fun r F1 H locs hw hp => ?_)
    obtain ⟨hp0, hp⟩ := hp
    rw [hp0] at hw
    refine W.widen (k := 0) (n := 0) (Nat.le_of_ble_eq_true rfl) (Nat.le_of_ble_eq_true rfl) ?_
    subst hp
    refine lv_icmp_ge (tgt := 43) hx hb dX8_giveOutJobs_10 (by decide) (fun q => ?_) (fun q => ?_)
    · have q := (nI_leI (a := 3) (b := k) (by omega) (by omega)).mp q
      omega
    · have q : ¬ 3 ≤ k := fun h9 => q ((nI_leI (a := 3) (b := k) (by omega) (by omega)).mpr h9)
      have hk9 : k < 3 := by omega
      refine lv_aload_n hx hb dX8_giveOutJobs_13 rfl (lv_at hl 1 rfl) ?_
      refine fw_get (v := .ref lm) hx hb hT fi_RX8 hown hz hw hX1 rfl 3 (by decide) (hT _ wd_178) (fun _ h9 => h9) rfl dX8_giveOutJobs_14 ?_
      refine lv_iload_n hx hb dX8_giveOutJobs_17 rfl (lv_at hl 0 rfl) ?_
      refine fw_callo (fw_runV (As := [.int (nI k)]) (rest := []) C hz hw (c_Jx4a65c_get_915e3 l G _ _ lm arm 3 (1, 3, 0) ma k hLm hk9 (by omega)) (fw_cwV hT wd_323 yVJx4a65c_get_915e3 rfl rfl ⟨Nat.le_of_ble_eq_true rfl, Nat.le_of_ble_eq_true rfl⟩) (fw_recL hz hw hLm) rfl hl.1 rfl (Nat.le_of_ble_eq_true rfl) dX8_giveOutJobs_18 ⟨Nat.le_of_ble_eq_true rfl, Nat.le_of_ble_eq_true rfl⟩) hw (fun r F1 H locs hw hp => ?_)
      obtain ⟨hp0, hp⟩ := hp
      rw [hp0] at hw
      refine W.widen (k := 0) (n := 0) (Nat.le_of_ble_eq_true rfl) (Nat.le_of_ble_eq_true rfl) ?_
      subst hp
      have hs9 := hms k hk9
      refine fw_cast hx hb hown hz hw hs9 (q := vwCl[4]) rfl (hT _ wd_96) dX8_giveOutJobs_21 ?_
      refine lv_astore_n (lv' := [(2, .ref (ma k)), (1, .int (nI k)), (0, .ref x)]) hx hb dX8_giveOutJobs_24 rfl hl (by decide) rfl (fun ls hl => ?_)
      refine lv_aload_n hx hb dX8_giveOutJobs_25 rfl (lv_at hl 0 rfl) ?_
      refine fw_get (v := va_rf (cl_jb ja (rf_give f nJ k) k)) hx hb hT fi_RX3 hown hz hw hs9 rfl 1 (by decide) (hT _ wd_105) (fun _ h9 => h9) rfl dX8_giveOutJobs_26 ?_
      by_cases hfr : (rf_give f nJ k) 23 k = -1
      · rw [show cl_jb ja (rf_give f nJ k) k = none from if_pos hfr]
        refine lv_ifnonnullN hx hb dX8_giveOutJobs_29 ?_
        refine lv_aload_n hx hb dX8_giveOutJobs_32 rfl (lv_at hl 2 rfl) ?_
        refine lv_aload_n hx hb dX8_giveOutJobs_33 rfl (lv_at hl 0 rfl) ?_
        refine fw_callv (fw_runV (As := [.ref (ma k)]) (rest := []) C hz hw (c_X8_giveJob l G _ _ x lc lt lo lm lw dr tm ma ja oa tr ml (rf_give f nJ k) nJ nO nW1 wj1 k hX1 hK1 hI1 hk9 hfr) (fw_cwV hT wd_515 yVX8_giveJob rfl rfl ⟨Nat.le_of_ble_eq_true rfl, Nat.le_of_ble_eq_true rfl⟩) (fw_rec hz hw hX1 (q := vwCl[9]) rfl) rfl hl.1 rfl (Nat.le_of_ble_eq_true rfl) dX8_giveOutJobs_34 ⟨Nat.le_of_ble_eq_true rfl, Nat.le_of_ble_eq_true rfl⟩) hw (fun F2 H locs hw hp => ?_)
        refine W.widen (k := 0) (n := 0) (Nat.le_of_ble_eq_true rfl) (Nat.le_of_ble_eq_true rfl) ?_
        obtain ⟨nW2, wj2, hK2, hI2, hkp2⟩ := hp
        have e9 : rf_give f nJ (k + 1) = rf_takes (rf_give f nJ k) nJ k := by rw [rf_give_s, if_pos hfr]
        rw [← e9] at hK2 hI2
        have hkp3 := (hkp.tr hkp2).wk (Q := (fun t => t.1 = 9 ∨ t = (1, 4, 0))) (fun t z => z.elim id id)
        refine lv_iinc (v := (nI (k + 1))) (lv' := [(1, .int (nI (k + 1))), (2, .ref (ma k)), (0, .ref x)]) hx hb dX8_giveOutJobs_37 hl (k := 1) rfl (nI_1 _) (by decide) rfl (fun ls hl => ?_)
        refine lv_goto (tgt := 2) hx hb dX8_giveOutJobs_40 (by decide) ?_
        exact ih (k + 1) F2 nW2 wj2 (by omega) hK2 hI2 hkp3 _ _ _ hw (lv_sub hl [0, 2] rfl)
      · rw [show cl_jb ja (rf_give f nJ k) k = some (ja (rf_n ((rf_give f nJ k) 23 k))) from if_neg hfr]
        refine lv_ifnonnull (tgt := 37) hx hb dX8_giveOutJobs_29 (by decide) ?_
        have e9 : rf_give f nJ (k + 1) = rf_give f nJ k := by rw [rf_give_s, if_neg hfr]
        rw [← e9] at hK1 hI1
        refine lv_iinc (v := (nI (k + 1))) (lv' := [(1, .int (nI (k + 1))), (2, .ref (ma k)), (0, .ref x)]) hx hb dX8_giveOutJobs_37 hl (k := 1) rfl (nI_1 _) (by decide) rfl (fun ls hl => ?_)
        refine lv_goto (tgt := 2) hx hb dX8_giveOutJobs_40 (by decide) ?_
        exact ih (k + 1) _ nW1 wj1 (by omega) hK1 hI1 hkp _ _ _ hw (lv_sub hl [0, 2] rfl)
theorem rf_left_pos {f : mm_A} {o : Int32} {i : Nat} (h1 : f 17 i = o) (h2 : ¬ f 20 i = -2) : ∀ n, i < n → 0 < rf_left f o n
  | 0, h => absurd h (Nat.not_lt_zero _)
  | n + 1, h => by
    rw [rf_left]
    rcases Nat.eq_or_lt_of_le (Nat.le_of_lt_succ h) with e | e
    · rw [← e, if_pos ⟨h1, h2⟩]; omega
    · have := rf_left_pos h1 h2 n e; omega
set_option maxHeartbeats 4000000 in
set_option maxRecDepth 100000 in
theorem c_X8_workOneTick (l : Launch) (G : fw_G) (F : fw_F) (sz : Nat) (x lc lt lo lm lw dr : Nat) (tm : Int32) (ma ja oa tr ml : Nat → Nat) (f : mm_A) (nJ nO nW : Nat) (wj : Nat → Nat) (hX : cr_X F x lc lt lo lm lw dr tm) (hK : cr_K F lm lw ma ja oa tr ml f nJ nO nW wj) (hI : cr_I f nJ nO nW wj) : Met l yX8_workOneTick (fw_ws yX8_workOneTick cX8_workOneTick 4 (some (.int))) { frames := 3, cells := 0, slots := 0, locals := 64 } (va_Pc [.ref x] (fw_Pre G F sz)) (va_Qi (fun r F1 => r = nI (rf_cnt nJ tm f 3) ∧ cr_K F1 lm lw ma ja oa tr ml (rf_work nJ tm f 3) nJ nO nW wj ∧ cr_I (rf_work nJ tm f 3) nJ nO nW wj ∧ fw_kp F F1 (fun t => t.1 = 9 ∨ t.1 = 5)) (fw_B G (fw_W G F sz)) (fw_W G F sz)) 0 0 (fw_W G F sz) := by
  refine fw_met (lv := [(0, .ref x)]) (by decide +kernel) (Nat.le_of_ble_eq_true rfl) rfl ?_
  intro A hA p e s m below meth c ls hx hb hml hown hT hr hlk hin hz hsz hw hAn hl
  rw [← hA]
  have hown : s.vm.findClass RX8 = some m.cls := hown
  have C : CallFix p m c cX8_workOneTick 4 s _ fw_tb RX8 := ⟨hx, hb, hml, hown, hT⟩
  refine lv_iconst (v := (nI 0)) hx hb dX8_workOneTick_0 (by decide) ?_
  refine lv_istore_n (lv' := [(1, .int (nI 0)), (0, .ref x)]) hx hb dX8_workOneTick_1 rfl hl (by decide) rfl (fun ls hl => ?_)
  refine lv_iconst (v := (nI 0)) hx hb dX8_workOneTick_2 (by decide) ?_
  refine lv_istore_n (lv' := [(2, .int (nI 0)), (1, .int (nI 0)), (0, .ref x)]) hx hb dX8_workOneTick_3 rfl hl (by decide) rfl (fun ls hl => ?_)
  suffices hlp : ∀ (d k : Nat) (F1 : fw_F), k + d = 3 → cr_K F1 lm lw ma ja oa tr ml (rf_work nJ tm f k) nJ nO nW wj → cr_I (rf_work nJ tm f k) nJ nO nW wj → fw_kp F F1 (fun t => t.1 = 9 ∨ t.1 = 5) → ∀ (H : Heap) (locs : List Loc) (ls : Array Slot), fw_S G A s F1 H locs → lv_has ls 4 [(2, .int (nI k)), (1, .int (nI (rf_cnt nJ tm f k))), (0, .ref x)] → W p l e { frames := 3, cells := 0, slots := 0, locals := 64 } s m ([.ref x] : List Value).toArray below meth c H locs 0 0 (MQ below (va_Qi (fun r F1 => r = nI (rf_cnt nJ tm f 3) ∧ cr_K F1 lm lw ma ja oa tr ml (rf_work nJ tm f 3) nJ nO nW wj ∧ cr_I (rf_work nJ tm f 3) nJ nO nW wj ∧ fw_kp F F1 (fun t => t.1 = 9 ∨ t.1 = 5)) (fw_B G A) A) ([.ref x] : List Value).toArray s 0 0 A) (F0 m 4 ls []) by
    exact hlp 3 0 F rfl hK hI fw_kp.rf _ _ _ hw (lv_sub hl [0, 1, 2] rfl)
  intro d
  induction d with
  | zero =>
    intro k E1 hk hK1 hI1 hkp H locs ls hw hl
    have hX1 : cr_X E1 x lc lt lo lm lw dr tm := hkp _ _ _ hX (by simp)
    have hKK := hK1
    obtain ⟨⟨⟨arm, hLm⟩, hms⟩, -, hO, hJ⟩ := hKK
    refine lv_iload_n hx hb dX8_workOneTick_4 rfl (lv_at hl 0 rfl) ?_
    refine lv_aload_n hx hb dX8_workOneTick_5 rfl (lv_at hl 2 rfl) ?_
    refine fw_get (v := .ref lm) hx hb hT fi_RX8 hown hz hw hX1 rfl 3 (by decide) (hT _ wd_178) (fun _ h9 => h9) rfl dX8_workOneTick_6 ?_
    refine fw_calli (fw_runV (As := []) (rest := [.int (nI k)]) C hz hw (c_Jx4a65c_size_8abf5 l G _ _ lm arm 3 (1, 3, 0) ma hLm) (fw_cwV hT wd_278 yVJx4a65c_size_8abf5 rfl rfl ⟨Nat.le_of_ble_eq_true rfl, Nat.le_of_ble_eq_true rfl⟩) (fw_recL hz hw hLm) rfl hl.1 rfl (Nat.le_of_ble_eq_true rfl) dX8_workOneTick_9 ⟨Nat.le_of_ble_eq_true rfl, Nat.le_of_ble_eq_true rfl⟩) hw (fun r F1 H locs hw hp => ?_)
    obtain ⟨hp0, hp⟩ := hp
    rw [hp0] at hw
    refine W.widen (k := 0) (n := 0) (Nat.le_of_ble_eq_true rfl) (Nat.le_of_ble_eq_true rfl) ?_
    subst hp
    refine lv_icmp_ge (tgt := 51) hx hb dX8_workOneTick_12 (by decide) (fun q => ?_) (fun q => ?_)
    · have q := (nI_leI (a := 3) (b := k) (by omega) (by omega)).mp q
      obtain rfl : k = 3 := by omega
      refine lv_iload_n hx hb dX8_workOneTick_51 rfl (lv_at hl 1 rfl) ?_
      exact fw_iret hx hb hr hlk (Nat.le_of_ble_eq_true rfl) (Nat.le_of_ble_eq_true rfl) hw dX8_workOneTick_52 (⟨rfl, hK1, hI1, hkp⟩)
    · have q : ¬ 3 ≤ k := fun h9 => q ((nI_leI (a := 3) (b := k) (by omega) (by omega)).mpr h9)
      omega
  | succ d ih =>
    intro k E1 hk hK1 hI1 hkp H locs ls hw hl
    have hX1 : cr_X E1 x lc lt lo lm lw dr tm := hkp _ _ _ hX (by simp)
    have hKK := hK1
    obtain ⟨⟨⟨arm, hLm⟩, hms⟩, -, hO, hJ⟩ := hKK
    refine lv_iload_n hx hb dX8_workOneTick_4 rfl (lv_at hl 0 rfl) ?_
    refine lv_aload_n hx hb dX8_workOneTick_5 rfl (lv_at hl 2 rfl) ?_
    refine fw_get (v := .ref lm) hx hb hT fi_RX8 hown hz hw hX1 rfl 3 (by decide) (hT _ wd_178) (fun _ h9 => h9) rfl dX8_workOneTick_6 ?_
    refine fw_calli (fw_runV (As := []) (rest := [.int (nI k)]) C hz hw (c_Jx4a65c_size_8abf5 l G _ _ lm arm 3 (1, 3, 0) ma hLm) (fw_cwV hT wd_278 yVJx4a65c_size_8abf5 rfl rfl ⟨Nat.le_of_ble_eq_true rfl, Nat.le_of_ble_eq_true rfl⟩) (fw_recL hz hw hLm) rfl hl.1 rfl (Nat.le_of_ble_eq_true rfl) dX8_workOneTick_9 ⟨Nat.le_of_ble_eq_true rfl, Nat.le_of_ble_eq_true rfl⟩) hw (fun r F1 H locs hw hp => ?_)
    obtain ⟨hp0, hp⟩ := hp
    rw [hp0] at hw
    refine W.widen (k := 0) (n := 0) (Nat.le_of_ble_eq_true rfl) (Nat.le_of_ble_eq_true rfl) ?_
    subst hp
    refine lv_icmp_ge (tgt := 51) hx hb dX8_workOneTick_12 (by decide) (fun q => ?_) (fun q => ?_)
    · have q := (nI_leI (a := 3) (b := k) (by omega) (by omega)).mp q
      omega
    · have q : ¬ 3 ≤ k := fun h9 => q ((nI_leI (a := 3) (b := k) (by omega) (by omega)).mpr h9)
      have hk9 : k < 3 := by omega
      refine lv_aload_n hx hb dX8_workOneTick_15 rfl (lv_at hl 2 rfl) ?_
      refine fw_get (v := .ref lm) hx hb hT fi_RX8 hown hz hw hX1 rfl 3 (by decide) (hT _ wd_178) (fun _ h9 => h9) rfl dX8_workOneTick_16 ?_
      refine lv_iload_n hx hb dX8_workOneTick_19 rfl (lv_at hl 0 rfl) ?_
      refine fw_callo (fw_runV (As := [.int (nI k)]) (rest := []) C hz hw (c_Jx4a65c_get_915e3 l G _ _ lm arm 3 (1, 3, 0) ma k hLm hk9 (by omega)) (fw_cwV hT wd_323 yVJx4a65c_get_915e3 rfl rfl ⟨Nat.le_of_ble_eq_true rfl, Nat.le_of_ble_eq_true rfl⟩) (fw_recL hz hw hLm) rfl hl.1 rfl (Nat.le_of_ble_eq_true rfl) dX8_workOneTick_20 ⟨Nat.le_of_ble_eq_true rfl, Nat.le_of_ble_eq_true rfl⟩) hw (fun r F1 H locs hw hp => ?_)
      obtain ⟨hp0, hp⟩ := hp
      rw [hp0] at hw
      refine W.widen (k := 0) (n := 0) (Nat.le_of_ble_eq_true rfl) (Nat.le_of_ble_eq_true rfl) ?_
      subst hp
      have hs9 := hms k hk9
      refine fw_cast hx hb hown hz hw hs9 (q := vwCl[4]) rfl (hT _ wd_96) dX8_workOneTick_23 ?_
      by_cases hfr : (rf_work nJ tm f k) 23 k = -1
      · have hs8 := hs9
        rw [show cl_jb ja (rf_work nJ tm f k) k = none from if_pos hfr] at hs8
        refine fw_callo (fw_runV (As := []) (rest := []) C hz hw (c_X3_work_N l G _ _ (ma k) (9, k, 0) ((rf_work nJ tm f k) 22 k) (cl_lf (rf_work nJ tm f k) k) hs8) (fw_cwV hT wd_548 yVX3_work rfl rfl ⟨Nat.le_of_ble_eq_true rfl, Nat.le_of_ble_eq_true rfl⟩) (fw_rec hz hw hs8 (q := vwCl[4]) rfl) rfl hl.1 rfl (Nat.le_of_ble_eq_true rfl) dX8_workOneTick_26 ⟨Nat.le_of_ble_eq_true rfl, Nat.le_of_ble_eq_true rfl⟩) hw (fun r F2 H locs hw hp => ?_)
        refine W.widen (k := 0) (n := 0) (Nat.le_of_ble_eq_true rfl) (Nat.le_of_ble_eq_true rfl) ?_
        obtain ⟨rfl, hp⟩ := hp
        rw [hp] at hw
        have e9 : rf_work nJ tm f (k + 1) = rf_work nJ tm f k := by rw [rf_work_s, rf_wk, if_pos hfr]
        have e8 : rf_cnt nJ tm f (k + 1) = rf_cnt nJ tm f k := by rw [rf_cnt_s, rf_wc, if_pos hfr]; rfl
        rw [← e9] at hK1 hI1
        rw [← e8] at hl
        refine lv_astore_nN (lv' := [(3, .null), (2, .int (nI k)), (1, .int (nI (rf_cnt nJ tm f (k + 1)))), (0, .ref x)]) hx hb dX8_workOneTick_29 rfl hl (by decide) rfl (fun ls hl => ?_)
        refine lv_aload_nN hx hb dX8_workOneTick_30 rfl (lv_at hl 0 rfl) ?_
        refine lv_ifnullN (tgt := 45) hx hb dX8_workOneTick_31 (by decide) ?_
        refine lv_iinc (v := (nI (k + 1))) (lv' := [(2, .int (nI (k + 1))), (3, .null), (1, .int (nI (rf_cnt nJ tm f (k + 1)))), (0, .ref x)]) hx hb dX8_workOneTick_45 hl (k := 1) rfl (nI_1 _) (by decide) rfl (fun ls hl => ?_)
        refine lv_goto (tgt := 4) hx hb dX8_workOneTick_48 (by decide) ?_
        exact ih (k + 1) _ (by omega) hK1 hI1 hkp _ _ _ hw (lv_sub hl [0, 2, 3] rfl)
      · obtain ⟨i9, hi9, e23⟩ := (hI1.jok.1 k hk9).resolve_left hfr
        obtain ⟨h20, L, hL, e24⟩ := hI1.mac k hk9 i9 hi9 e23
        obtain ⟨o9, ho9, e17⟩ := hI1.jok.2 i9 hi9
        have hj96 := hI1.j96
        have ho12 := hI1.o12
        have ejb : cl_jb ja (rf_work nJ tm f k) k = some (ja i9) := by rw [cl_jb, if_neg hfr, e23, rf_n, nI_clamp (by omega)]
        have elf : cl_lf (rf_work nJ tm f k) k = (rf_work nJ tm f k) 24 k := if_neg hfr
        have hs8 := hs9
        rw [ejb, elf] at hs8
        have hs7 := hJ i9 hi9
        rw [e17, show rf_n (nI o9) = o9 from nI_clamp (by omega)] at hs7
        refine fw_callo (fw_runV (As := []) (rest := []) C hz hw (c_X3_work_S l G _ _ (ma k) (9, k, 0) ((rf_work nJ tm f k) 22 k) ((rf_work nJ tm f k) 24 k) (ja i9) (oa o9) (8, i9, 0) ((rf_work nJ tm f k) 19 i9) ((rf_work nJ tm f k) 18 i9) hs8 (by intro z; cases z) hs7) (fw_cwV hT wd_548 yVX3_work rfl rfl ⟨Nat.le_of_ble_eq_true rfl, Nat.le_of_ble_eq_true rfl⟩) (fw_rec hz hw hs8 (q := vwCl[4]) rfl) rfl hl.1 rfl (Nat.le_of_ble_eq_true rfl) dX8_workOneTick_26 ⟨Nat.le_of_ble_eq_true rfl, Nat.le_of_ble_eq_true rfl⟩) hw (fun r F2 H locs hw hp => ?_)
        refine W.widen (k := 0) (n := 0) (Nat.le_of_ble_eq_true rfl) (Nat.le_of_ble_eq_true rfl) ?_
        rcases Nat.eq_zero_or_pos L with hL0 | hL0
        · subst hL0
          have d0 : ¬ 0 < (rf_work nJ tm f k) 24 k - nI 1 := by rw [e24]; decide
          rw [if_neg d0, if_neg d0] at hp
          obtain ⟨rfl, hp⟩ := hp
          have hp0 := hp
          have h24 : (rf_work nJ tm f k) 24 k - 1 = 0 := by rw [e24]; decide
          have e9 : rf_work nJ tm f (k + 1) = rf_done (rf_less (rf_work nJ tm f k) k) nJ tm k i9 := by rw [rf_work_s, rf_wk, if_neg hfr, if_pos h24, e23, rf_n, nI_clamp (by omega)]
          have e8 : rf_cnt nJ tm f (k + 1) = rf_cnt nJ tm f k + 1 := by rw [rf_cnt_s, rf_wc, if_neg hfr, if_pos h24]
          obtain ⟨u9, hu9⟩ : ∃ u9, rf_left (rf_work nJ tm f k) (nI o9) nJ = u9 + 1 := ⟨rf_left (rf_work nJ tm f k) (nI o9) nJ - 1, by have := rf_left_pos e17 (by rw [h20]; exact nI_neg2 (by omega)) nJ hi9; omega⟩
          have hus : u9 < 1000 := by have := rf_left_le (rf_work nJ tm f k) (nI o9) nJ; omega
          have ho8 := hO o9 ho9
          rw [hu9] at ho8
          have hkm : fw_kp E1 F2 (fun t => t.1 = 9) := by rw [hp]; exact fw_kp.rf.up hs8 rfl
          have hX2 : cr_X F2 x lc lt lo lm lw dr tm := hkm _ _ _ hX1 (by simp)
          have ho7 := hkm _ _ _ ho8 (by simp)
          refine lv_astore_n (lv' := [(3, .ref (oa o9)), (2, .int (nI k)), (1, .int (nI (rf_cnt nJ tm f k))), (0, .ref x)]) hx hb dX8_workOneTick_29 rfl hl (by decide) rfl (fun ls hl => ?_)
          refine lv_aload_n hx hb dX8_workOneTick_30 rfl (lv_at hl 0 rfl) ?_
          refine lv_ifnull hx hb dX8_workOneTick_31 ?_
          refine lv_aload_n hx hb dX8_workOneTick_34 rfl (lv_at hl 0 rfl) ?_
          refine lv_aload_n hx hb dX8_workOneTick_35 rfl (lv_at hl 3 rfl) ?_
          refine fw_get (v := .int tm) hx hb hT fi_RX8 hown hz hw hX2 rfl 6 (by decide) (hT _ wd_181) (fun _ h9 => h9) rfl dX8_workOneTick_36 ?_
          refine fw_callv (fw_runV (As := [.int tm]) (rest := []) C hz hw (c_X5_countCutGear l G _ _ (oa o9) (5, o9, 0) (tr o9) (ml o9) u9 tm ((rf_work nJ tm f k) 13 o9) ((rf_work nJ tm f k) 14 o9) ho7 hus) (fw_cwV hT wd_552 yVX5_countCutGear rfl rfl ⟨Nat.le_of_ble_eq_true rfl, Nat.le_of_ble_eq_true rfl⟩) (fw_rec hz hw ho7 (q := vwCl[6]) rfl) rfl hl.1 rfl (Nat.le_of_ble_eq_true rfl) dX8_workOneTick_39 ⟨Nat.le_of_ble_eq_true rfl, Nat.le_of_ble_eq_true rfl⟩) hw (fun F3 H locs hw hp => ?_)
          refine W.widen (k := 0) (n := 0) (Nat.le_of_ble_eq_true rfl) (Nat.le_of_ble_eq_true rfl) ?_
          rw [hp0] at hp
          obtain ⟨hK2, hkp2⟩ := hK1.done hI1 hk9 hi9 e23 ho9 e17 e24 hu9 hp
          have hI2 := (hI1.done (tm := tm) hk9 hi9 e23 ho9 e17).1
          rw [← e9] at hK2 hI2
          have hkp3 := (hkp.tr hkp2).wk (Q := (fun t => t.1 = 9 ∨ t.1 = 5)) (fun t z => z.elim id id)
          refine lv_iinc (v := (nI (rf_cnt nJ tm f k + 1))) (lv' := [(1, .int (nI (rf_cnt nJ tm f k + 1))), (3, .ref (oa o9)), (2, .int (nI k)), (0, .ref x)]) hx hb dX8_workOneTick_42 hl (k := 2) rfl (nI_1 _) (by decide) rfl (fun ls hl => ?_)
          refine lv_iinc (v := (nI (k + 1))) (lv' := [(2, .int (nI (k + 1))), (1, .int (nI (rf_cnt nJ tm f k + 1))), (3, .ref (oa o9)), (0, .ref x)]) hx hb dX8_workOneTick_45 hl (k := 2) rfl (nI_1 _) (by decide) rfl (fun ls hl => ?_)
          refine lv_goto (tgt := 4) hx hb dX8_workOneTick_48 (by decide) ?_
          rw [← e8] at hl
          exact ih (k + 1) _ (by omega) hK2 hI2 hkp3 _ _ _ hw (lv_sub hl [0, 1, 3] rfl)
        · have d0 : 0 < (rf_work nJ tm f k) 24 k - nI 1 := by rw [e24, pk_sub (by omega), Nat.add_sub_cancel, ← nI_0]; exact nI_lt hL0 (by omega)
          rw [if_pos d0, if_pos d0] at hp
          obtain ⟨rfl, hp⟩ := hp
          obtain ⟨L1, rfl⟩ : ∃ L1, L = L1 + 1 := ⟨L - 1, by omega⟩
          have h24 : ¬ (rf_work nJ tm f k) 24 k - 1 = 0 := by rw [e24, nI_pred]; exact nI_ne0 (by omega) (by omega)
          have e9 : rf_work nJ tm f (k + 1) = rf_less (rf_work nJ tm f k) k := by rw [rf_work_s, rf_wk, if_neg hfr, if_neg h24]
          have e8 : rf_cnt nJ tm f (k + 1) = rf_cnt nJ tm f k := by rw [rf_cnt_s, rf_wc, if_neg hfr, if_neg h24]; rfl
          rw [← e8] at hl
          obtain ⟨hK2, hkp2⟩ := hK1.less hk9 (by omega) e23 hp
          have hI2 := hI1.less (by omega) e24
          rw [← e9] at hK2 hI2
          have hkp3 := (hkp.tr hkp2).wk (Q := (fun t => t.1 = 9 ∨ t.1 = 5)) (fun t z => z.elim id id)
          refine lv_astore_nN (lv' := [(3, .null), (2, .int (nI k)), (1, .int (nI (rf_cnt nJ tm f (k + 1)))), (0, .ref x)]) hx hb dX8_workOneTick_29 rfl hl (by decide) rfl (fun ls hl => ?_)
          refine lv_aload_nN hx hb dX8_workOneTick_30 rfl (lv_at hl 0 rfl) ?_
          refine lv_ifnullN (tgt := 45) hx hb dX8_workOneTick_31 (by decide) ?_
          refine lv_iinc (v := (nI (k + 1))) (lv' := [(2, .int (nI (k + 1))), (3, .null), (1, .int (nI (rf_cnt nJ tm f (k + 1)))), (0, .ref x)]) hx hb dX8_workOneTick_45 hl (k := 1) rfl (nI_1 _) (by decide) rfl (fun ls hl => ?_)
          refine lv_goto (tgt := 4) hx hb dX8_workOneTick_48 (by decide) ?_
          exact ih (k + 1) _ (by omega) hK2 hI2 hkp3 _ _ _ hw (lv_sub hl [0, 2, 3] rfl)
