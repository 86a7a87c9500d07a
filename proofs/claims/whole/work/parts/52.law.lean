/-! The law's loop, its start, the claim. -/
theorem lw_R.more {G : fw_G} {F : fw_F} {x y o i : Nat} (h : lw_R G F x y o i) : lw_R G F x y o (i + 1) := by
  obtain ⟨ad, sc, f, g0, nC, nT, nO, nJ, nD, T, h1, h2, h3, h4⟩ := h
  exact ⟨ad, sc, f, g0, nC, nT, nO, nJ, nD, T, h1, h2, by omega, h4⟩
set_option maxHeartbeats 4000000 in
set_option maxRecDepth 100000 in
theorem law_loop {p : Program} {l : Launch} {e : Env} {s : State} {m : MethodId} {below : List Frame} {meth : Method} {c : Code} {b L : Nat} {xs : Nat → Int32} {G : fw_G} (E0 : lw_E p l s m meth c b L xs G) (hr9 : meth.sig.returnType = ret) (hlocks : meth.locks = false) {x y o : Nat} :
    ∀ (d i : Nat), i + d = 513 → 4 * i ≤ L ∨ i = 0 → ∀ (F : fw_F) (H : Heap) (locs : List Loc) (ls : Array Slot), fw_S G (fun q : Nat => s.heap.size ≤ q) s F H locs → lw_R G F x y o i → lv_has ls 7 [(4, .int (nI (4 * i))), (0, .ref b), (1, .ref x), (2, .ref y), (3, .ref o)] → W p l e room_1 s m #[Value.ref b] below meth c H locs (40 * (i + 1)) (4000 * (i + 1)) (lw_Z below #[Value.ref b] s) (F0 m 23 ls []) := by
  have E1 := E0
  obtain ⟨hx, hb, hml, hown, hT, hz, hcx, hnc, hl9, hXs, hbl, hL⟩ := E1
  have hbA : ¬ (fun q : Nat => s.heap.size ≤ q) b := Nat.not_le.mpr hbl
  intro d
  induction d with
  | zero => intro i h1 h2; omega
  | succ d ih =>
    intro i hid hi4 F H locs ls hw hR hl
    refine lv_iload hx hb dL_law_23 (lv_at hl 0 rfl) ?_
    refine lv_aload_n hx hb dL_law_25 rfl (lv_at hl 1 rfl) ?_
    refine va_slen hx hb hXs hbl hbA hw.2.1 dL_law_26 ?_
    refine lv_iconst (v := (nI 4)) hx hb dL_law_27 (by decide) ?_
    refine lv_isub hx hb dL_law_28 ?_
    refine lv_icmp_gt (tgt := 1340) hx hb dL_law_29 (by decide) (fun cx => ?_) (fun cx => ?_)
    · refine lv_iconst (v := (nI 1)) hx hb dL_law_1340 (by decide) ?_
      refine va_forget (fun q hq => hw.2.1.2.2 q hq) ?_
      refine W.widen (k := 875399) (n := 6469906) (by omega) (by omega) ?_
      exact lw_ret hx hb hr9 hlocks dL_law_1341
    · have h4 : 4 ≤ L := by
        rcases Nat.lt_or_ge L 4 with q | q
        · exfalso
          have hi0 : i = 0 := by omega
          subst hi0
          rcases (show L = 0 ∨ L = 1 ∨ L = 2 ∨ L = 3 by omega) with rfl | rfl | rfl | rfl <;> exact cx (by decide)
        · exact q
      have hi4 : 4 * i + 3 < L := by
        have cx : ¬ nI L - nI 4 < nI (4 * i) := cx
        rw [pk_sub h4] at cx
        have cx : ¬ nI (L - 4) < nI (4 * i) := cx
        rw [nI_ltI (by omega) (by omega)] at cx
        omega
      have hback : ∀ (F : fw_F) (H : Heap) (locs : List Loc) (ls : Array Slot), fw_S G (fun q : Nat => s.heap.size ≤ q) s F H locs → lw_R G F x y o (i + 1) → lv_has ls 7 [(4, .int (nI (4 * i))), (0, .ref b), (1, .ref x), (2, .ref y), (3, .ref o)] → W p l e room_1 s m #[Value.ref b] below meth c H locs (40 * (i + 1) + 40) (4000 * (i + 1) + 4000) (lw_Z below #[Value.ref b] s) (F0 m 1334 ls []) := by
        intro F H locs ls hw hR hl
        refine lv_iinc (v := (nI (4 * i + 4))) (lv' := [(4, .int (nI (4 * i + 4))), (0, .ref b), (1, .ref x), (2, .ref y), (3, .ref o)]) hx hb dL_law_1334 hl (k := 0) rfl (nI_add _ _) (by decide) rfl (fun ls hl => ?_)
        refine lv_goto (tgt := 23) hx hb dL_law_1337 (by decide) ?_
        refine W.widen (k := 40 * (i + 1 + 1)) (n := 4000 * (i + 1 + 1)) (by omega) (by omega) ?_
        exact ih (i + 1) (by omega) (Or.inl (by omega)) _ _ _ _ hw hR (lv_sub hl [0, 1, 2, 3, 4] rfl)
      refine lv_aload_n hx hb dL_law_32 rfl (lv_at hl 1 rfl) ?_
      refine lv_iload hx hb dL_law_33 (lv_at hl 0 rfl) ?_
      refine va_sld hx hb hXs hbl hbA hw.2.1 (vp_in_nI (show 4 * i < L by omega) (by omega)) dL_law_35 ?_
      rw [nI_clamp (show 4 * i < 2 ^ 31 by omega)]
      refine lv_bipush (v := (nI 31)) hx hb dL_law_36 (by decide) ?_
      refine lv_iand hx hb dL_law_38 ?_
      obtain ⟨j, hj, ej⟩ := pk_andE (xs (4 * i)) (m := nI 31) 5 (by decide)
      have hj : j < 32 := hj
      rw [ej]
      rcases (show j = 0 ∨ j = 1 ∨ j = 2 ∨ j = 3 ∨ j = 4 ∨ j = 5 ∨ j = 6 ∨ j = 7 ∨ j = 8 ∨ j = 9 ∨ j = 10 ∨ j = 11 ∨ j = 12 ∨ j = 13 ∨ j = 14 ∨ j = 15 ∨ j = 16 ∨ j = 17 ∨ j = 18 ∨ j = 19 ∨ j = 20 ∨ 21 ≤ j by omega) with rfl | rfl | rfl | rfl | rfl | rfl | rfl | rfl | rfl | rfl | rfl | rfl | rfl | rfl | rfl | rfl | rfl | rfl | rfl | rfl | rfl | hj2
      · refine lv_tableIn (off := 97) (tgt := 136) hx hb dL_law_39 (by decide) (by decide) (by decide) (by decide) ?_
        exact law_addCutter E0 hi4 (by omega) (by omega) hR hw (lv_sub hl [0, 1, 2, 3, 4] rfl) hback
      · refine lv_tableIn (off := 177) (tgt := 216) hx hb dL_law_39 (by decide) (by decide) (by decide) (by decide) ?_
        exact law_cutterFor E0 hi4 (by omega) (by omega) hR hw (lv_sub hl [0, 1, 2, 3, 4] rfl) hback
      · refine lv_tableIn (off := 245) (tgt := 284) hx hb dL_law_39 (by decide) (by decide) (by decide) (by decide) ?_
        exact law_stage E0 hi4 (by omega) (by omega) hR hw (lv_sub hl [0, 1, 2, 3, 4] rfl) hback
      · refine lv_tableIn (off := 325) (tgt := 364) hx hb dL_law_39 (by decide) (by decide) (by decide) (by decide) ?_
        exact law_scrap E0 hi4 (by omega) (by omega) hR hw (lv_sub hl [0, 1, 2, 3, 4] rfl) hback
      · refine lv_tableIn (off := 338) (tgt := 377) hx hb dL_law_39 (by decide) (by decide) (by decide) (by decide) ?_
        exact law_make E0 hi4 (by omega) (by omega) hR hw (lv_sub hl [0, 1, 2, 3, 4] rfl) hback
      · refine lv_tableIn (off := 394) (tgt := 433) hx hb dL_law_39 (by decide) (by decide) (by decide) (by decide) ?_
        exact law_numerator E0 hi4 (by omega) (by omega) hR hw (lv_sub hl [0, 1, 2, 3, 4] rfl) hback
      · refine lv_tableIn (off := 450) (tgt := 489) hx hb dL_law_39 (by decide) (by decide) (by decide) (by decide) ?_
        exact law_denominator E0 hi4 (by omega) (by omega) hR hw (lv_sub hl [0, 1, 2, 3, 4] rfl) hback
      · refine lv_tableIn (off := 506) (tgt := 545) hx hb dL_law_39 (by decide) (by decide) (by decide) (by decide) ?_
        exact law_turned E0 hi4 (by omega) (by omega) hR hw (lv_sub hl [0, 1, 2, 3, 4] rfl) hback
      · refine lv_tableIn (off := 574) (tgt := 613) hx hb dL_law_39 (by decide) (by decide) (by decide) (by decide) ?_
        exact law_turnedByWalk E0 hi4 (by omega) (by omega) hR hw (lv_sub hl [0, 1, 2, 3, 4] rfl) hback
      · refine lv_tableIn (off := 642) (tgt := 681) hx hb dL_law_39 (by decide) (by decide) (by decide) (by decide) ?_
        exact law_order E0 hi4 (by omega) (by omega) hR hw (lv_sub hl [0, 1, 2, 3, 4] rfl) hback
      · refine lv_tableIn (off := 698) (tgt := 737) hx hb dL_law_39 (by decide) (by decide) (by decide) (by decide) ?_
        exact law_pass E0 hi4 (by omega) (by omega) hR hw (lv_sub hl [0, 1, 2, 3, 4] rfl) hback
      · refine lv_tableIn (off := 754) (tgt := 793) hx hb dL_law_39 (by decide) (by decide) (by decide) (by decide) ?_
        exact law_time E0 hi4 (by omega) (by omega) hR hw (lv_sub hl [0, 1, 2, 3, 4] rfl) hback
      · refine lv_tableIn (off := 767) (tgt := 806) hx hb dL_law_39 (by decide) (by decide) (by decide) (by decide) ?_
        exact law_waiting E0 hi4 (by omega) (by omega) hR hw (lv_sub hl [0, 1, 2, 3, 4] rfl) hback
      · refine lv_tableIn (off := 780) (tgt := 819) hx hb dL_law_39 (by decide) (by decide) (by decide) (by decide) ?_
        exact law_cutterOn E0 hi4 (by omega) (by omega) hR hw (lv_sub hl [0, 1, 2, 3, 4] rfl) hback
      · refine lv_tableIn (off := 836) (tgt := 875) hx hb dL_law_39 (by decide) (by decide) (by decide) (by decide) ?_
        exact law_ticksLeft E0 hi4 (by omega) (by omega) hR hw (lv_sub hl [0, 1, 2, 3, 4] rfl) hback
      · refine lv_tableIn (off := 892) (tgt := 931) hx hb dL_law_39 (by decide) (by decide) (by decide) (by decide) ?_
        exact law_gearsLeft E0 hi4 (by omega) (by omega) hR hw (lv_sub hl [0, 1, 2, 3, 4] rfl) hback
      · refine lv_tableIn (off := 948) (tgt := 987) hx hb dL_law_39 (by decide) (by decide) (by decide) (by decide) ?_
        exact law_doneAt E0 hi4 (by omega) (by omega) hR hw (lv_sub hl [0, 1, 2, 3, 4] rfl) hback
      · refine lv_tableIn (off := 1004) (tgt := 1043) hx hb dL_law_39 (by decide) (by decide) (by decide) (by decide) ?_
        exact law_test E0 hi4 (by omega) (by omega) hR hw (lv_sub hl [0, 1, 2, 3, 4] rfl) hback
      · refine lv_tableIn (off := 1091) (tgt := 1130) hx hb dL_law_39 (by decide) (by decide) (by decide) (by decide) ?_
        exact law_wear E0 hi4 (by omega) (by omega) hR hw (lv_sub hl [0, 1, 2, 3, 4] rfl) hback
      · refine lv_tableIn (off := 1159) (tgt := 1198) hx hb dL_law_39 (by decide) (by decide) (by decide) (by decide) ?_
        exact law_claims E0 hi4 (by omega) (by omega) hR hw (lv_sub hl [0, 1, 2, 3, 4] rfl) hback
      · refine lv_tableIn (off := 1215) (tgt := 1254) hx hb dL_law_39 (by decide) (by decide) (by decide) (by decide) ?_
        exact law_leastNew E0 hi4 (by omega) (by omega) hR hw (lv_sub hl [0, 1, 2, 3, 4] rfl) hback
      · refine lv_tableOut (tgt := 1334) hx hb dL_law_39 (Or.inr (by rw [nI_toInt (by omega)]; omega)) (by decide) ?_
        refine W.widen (k := 40 * (i + 1) + 40) (n := 4000 * (i + 1) + 4000) (by omega) (by omega) ?_
        exact hback _ _ _ _ hw hR.more (lv_sub hl [0, 1, 2, 3, 4] rfl)
set_option maxHeartbeats 4000000 in
set_option maxRecDepth 100000 in
theorem whole_start {p : Program} {e : Env} {s : State} {m : MethodId} {below : List Frame} {meth : Method} {c : Code} (l : Launch) (hflags : l.flags = flags0) {b L : Nat} {xs : Nat → Int32} (hL : L ≤ 2048) (C0 : lw_At p s m meth c b L xs) : W p l e room_1 s m #[Value.ref b] below meth c s.heap [] 0 0 (lw_Z below #[Value.ref b] s) (entryFrame m ([Value.ref b] : List Value).toArray 7) := by
  obtain ⟨G, hz, hcx, hnc⟩ := lw_env C0
  obtain ⟨hx, hb, hr9, hml, hown, hts, hXs, hbl, hlocks, hgv⟩ := C0
  have hT : ∀ w ∈ fw_tb, w.before #[Value.ref b] s = true := fun w hw => hts w (List.mem_filter.mp hw).1
  have hown : s.vm.findClass RL = some m.cls := hown
  have C : CallFix p m c code 7 s #[Value.ref b] fw_tb RL := ⟨hx, hb, hml, hown, hT⟩
  have hl9 : l.stackTraces = false := by
    have h9 := hflags
    simp only [Launch.stackTraces, h9]
    decide
  have hAn : ∀ q, s.heap.size ≤ q → (fun q : Nat => s.heap.size ≤ q) q := fun _ h => h
  have hw : fw_S G (fun q : Nat => s.heap.size ≤ q) s (fun _ => none) s.heap [] := ⟨⟨fun a t e h => (by cases h), fun a t arr n f h => (by cases h), fun a t arr n f h => (by cases h)⟩, va_S.rf, fun q h => by
    rcases h with ⟨x, h⟩ | ⟨a, t, n, f, h, _⟩ | h
    · cases h
    · cases h
    · exact h⟩
  have hl := lv_entry ([.ref b]) (n := 7) (Nat.le_of_ble_eq_true rfl)
  rw [lg_entry_eq]
  generalize (lg_sl ([.ref b]) ++ List.replicate (7 - (lg_sl ([.ref b])).length) Slot.unset).toArray = ls at hl ⊢
  have hl : lv_has ls 7 [(0, .ref b)] := hl
  refine fw_new (50, 0, 0) (ci := 9) (fs := [.null, .null, .null, .null, .null, .null, .int (nI 0)]) hx hb hT fi_RX8 tyX8 tyX8_ok hown (hT _ wd_27) (hT _ wd_28) (hT _ wd_1) hz hw hAn rfl (by intro j hj; rcases (show j = 0 ∨ j = 1 ∨ j = 2 ∨ j = 3 ∨ j = 4 ∨ j = 5 ∨ j = 6 by omega) with rfl | rfl | rfl | rfl | rfl | rfl | rfl <;> rfl) (Nat.le_of_ble_eq_true rfl) (Nat.le_of_ble_eq_true rfl) dL_law_0 (fun x H hqx hw => ?_)
  refine W.widen (k := 1) (n := 7) (Nat.le_of_ble_eq_true rfl) (Nat.le_of_ble_eq_true rfl) ?_
  obtain ⟨W1, hFW1⟩ : ∃ z, z = va_up (fun _ => none) x (some ((50, 0, 0), fw_obj 9 [.null, .null, .null, .null, .null, .null, .int (nI 0)])) := ⟨_, rfl⟩
  rw [← hFW1] at hw
  have k1_s : W1 x = some ((50, 0, 0), fw_obj 9 [.null, .null, .null, .null, .null, .null, .int (nI 0)]) := by rw [hFW1]; exact fw_up_self
  refine lv_dup hx hb dL_law_3 rfl ?_
  refine fw_callv (fw_runI (As := []) (rest := [.ref x]) C hz hw (c_X8_init l G _ _ x k1_s) (fw_cwI hT wd_29 yIX8_init rfl rfl ⟨Nat.le_of_ble_eq_true rfl, Nat.le_of_ble_eq_true rfl⟩) rfl hl.1 rfl (Nat.le_of_ble_eq_true rfl) dL_law_4 ⟨Nat.le_of_ble_eq_true rfl, Nat.le_of_ble_eq_true rfl⟩) hw (fun F1 H locs hw hp => ?_)
  refine W.widen (k := 15) (n := 759) (Nat.le_of_ble_eq_true rfl) (Nat.le_of_ble_eq_true rfl) ?_
  obtain ⟨lc, lt, lo, lm, lw, dr, ds, dfr, am, ma, hX, p1, p2, p3, p4, p5, p6, p7, p8, p9⟩ := hp
  have hB := st_new hX p1 p2 p3 p4 p5 p6 p7 p8 p9
  refine lv_astore_n (lv' := [(1, .ref x), (0, .ref b)]) hx hb dL_law_7 rfl hl (by decide) rfl (fun ls hl => ?_)
  refine fw_new (100, 0, 0) (ci := 10) (fs := [.int (nI 0), .int (nI 0), .null, .null, .null, .int (nI 0), .null, .int (nI 0), .null, .null, .null, .int (nI 0), .null, .null, .null, .null, .int (nI 0), .null, .null, .null, .null, .int (nI 0), .null, .null, .null]) hx hb hT fi_RX9 tyX9 tyX9_ok hown (hT _ wd_729) (hT _ wd_730) (hT _ wd_12) hz hw hAn rfl (by intro j hj; rcases (show j = 0 ∨ j = 1 ∨ j = 2 ∨ j = 3 ∨ j = 4 ∨ j = 5 ∨ j = 6 ∨ j = 7 ∨ j = 8 ∨ j = 9 ∨ j = 10 ∨ j = 11 ∨ j = 12 ∨ j = 13 ∨ j = 14 ∨ j = 15 ∨ j = 16 ∨ j = 17 ∨ j = 18 ∨ j = 19 ∨ j = 20 ∨ j = 21 ∨ j = 22 ∨ j = 23 ∨ j = 24 by omega) with rfl | rfl | rfl | rfl | rfl | rfl | rfl | rfl | rfl | rfl | rfl | rfl | rfl | rfl | rfl | rfl | rfl | rfl | rfl | rfl | rfl | rfl | rfl | rfl | rfl <;> rfl) (Nat.le_of_ble_eq_true rfl) (Nat.le_of_ble_eq_true rfl) dL_law_8 (fun y H hqy hw => ?_)
  refine W.widen (k := 16) (n := 784) (Nat.le_of_ble_eq_true rfl) (Nat.le_of_ble_eq_true rfl) ?_
  obtain ⟨W2, hFW2⟩ : ∃ z, z = va_up F1 y (some ((100, 0, 0), fw_obj 10 [.int (nI 0), .int (nI 0), .null, .null, .null, .int (nI 0), .null, .int (nI 0), .null, .null, .null, .int (nI 0), .null, .null, .null, .null, .int (nI 0), .null, .null, .null, .null, .int (nI 0), .null, .null, .null])) := ⟨_, rfl⟩
  rw [← hFW2] at hw
  have k2_s : W2 y = some ((100, 0, 0), fw_obj 10 [.int (nI 0), .int (nI 0), .null, .null, .null, .int (nI 0), .null, .int (nI 0), .null, .null, .null, .int (nI 0), .null, .null, .null, .null, .int (nI 0), .null, .null, .null, .null, .int (nI 0), .null, .null, .null]) := by rw [hFW2]; exact fw_up_self
  have hk1 : fw_kp F1 W2 cl_P := by rw [hFW2]; exact fw_kp.rf.new hqy
  refine lv_dup hx hb dL_law_11 rfl ?_
  refine fw_callv (fw_runI (As := []) (rest := [.ref y]) C hz hw (c_X9_init l G _ _ y k2_s) (fw_cwI hT wd_731 yIX9_init rfl rfl ⟨Nat.le_of_ble_eq_true rfl, Nat.le_of_ble_eq_true rfl⟩) rfl hl.1 rfl (Nat.le_of_ble_eq_true rfl) dL_law_12 ⟨Nat.le_of_ble_eq_true rfl, Nat.le_of_ble_eq_true rfl⟩) hw (fun F2 H locs hw hp => ?_)
  refine W.widen (k := 34) (n := 1415) (Nat.le_of_ble_eq_true rfl) (Nat.le_of_ble_eq_true rfl) ?_
  obtain ⟨ad, hmW, hk2⟩ := hp
  have hk2 : fw_kp W2 F2 cl_P := hk2.wk (fun t z => Or.inl (by omega))
  refine lv_astore_n (lv' := [(2, .ref y), (1, .ref x), (0, .ref b)]) hx hb dL_law_15 rfl hl (by decide) rfl (fun ls hl => ?_)
  refine lv_iconst (v := (nI 1)) hx hb dL_law_16 (by decide) ?_
  refine fw_newa (60, 0, 0) (atype := .long) (cA := fw_cJ G) (n := nI 1) (N' := 1) (a0 := (1, .inr (.inl (fun _ => 0)))) hx hb (hT _ wd_965) (fun cX h9 => Option.some.inj (h9.symm.trans (hz.1.2 3 _ rfl).2)) hw hAn (fun _ => rfl) (by decide) (nI_clamp (by decide)) (Nat.le_of_ble_eq_true rfl) (Nat.le_of_ble_eq_true rfl) (Nat.le_of_ble_eq_true rfl) dL_law_17 (fun o H hqo hw => ?_)
  refine W.widen (k := 35) (n := 1416) (Nat.le_of_ble_eq_true rfl) (Nat.le_of_ble_eq_true rfl) ?_
  have hk3 : fw_kp F2 (va_up F2 o (some ((60, 0, 0), fw_la (fw_cJ G) 1 (fun _ => 0)))) cl_P := fw_kp.rf.new hqo
  have hR : lw_R G (va_up F2 o (some ((60, 0, 0), fw_la (fw_cJ G) 1 (fun _ => 0)))) x y o 0 := ⟨ad, _, _, fun _ => 0, 0, 0, 0, 0, 0, 0, ⟨fw_up_new hmW.1 hqo, fun k hk => fw_up_new (hmW.2 k hk) hqo⟩, fw_up_self, by decide, ((hB.1.kp hk1).kp hk2).kp hk3, hB.2.1, hB.2.2⟩
  refine lv_astore_n (lv' := [(3, .ref o), (2, .ref y), (1, .ref x), (0, .ref b)]) hx hb dL_law_19 rfl hl (by decide) rfl (fun ls hl => ?_)
  refine lv_iconst (v := (nI 0)) hx hb dL_law_20 (by decide) ?_
  refine lv_istore (lv' := [(4, .int (nI 0)), (3, .ref o), (2, .ref y), (1, .ref x), (0, .ref b)]) hx hb dL_law_21 hl (by decide) rfl (fun ls hl => ?_)
  refine W.widen (k := 40 * (0 + 1)) (n := 4000 * (0 + 1)) (by omega) (by omega) ?_
  exact law_loop ⟨hx, hb, hml, hown, hT, hz, hcx, hnc, hl9, hXs, hbl, hL⟩ hr9 hlocks 513 0 rfl (Or.inr rfl) _ _ _ _ hw hR (lv_sub hl [0, 4, 3, 2, 1] rfl)
set_option maxHeartbeats 4000000 in
theorem lw_walk (l : Launch) (hflags : l.flags = flags0) (b : Addr) (xs : List Int32) : MetFree l x (headSpec (Jvm.Cond.code x code maxLocals ret :: tables_1) room_1) (lw_P b xs) (fun _ _ _ _ _ => True) lw_Q := by
  refine MetFree.of_bodyS (code := code) (maxLocals := maxLocals) (ret := ret) (by decide) ?_ ?_
  · intro args s m h hn
    obtain ⟨meth, c, h1, h2, h3, h4, h5, h6, -, -⟩ := Cond.code_spec hn (atoms_spec (ws := Jvm.Cond.code x code maxLocals ret :: tables_1) h _ List.mem_cons_self)
    exact ⟨meth, c, h1, h2, h3, h4, h5, h6⟩
  · intro p e s m args below meth c s₁ B hml0 hP _
    obtain ⟨rfl, hx, hbd, hgv⟩ := hP
    obtain ⟨scr, harrAt, hlist, hof, hsmall⟩ := hx
    obtain ⟨hcb, hkn, -, -⟩ := State.arrayAt?_spec harrAt
    have hown : s.vm.findClass R_law = some m.cls := findClass_of_methodNamed B.named
    have hts0 : ∀ c ∈ (Jvm.Cond.code x code maxLocals ret :: tables_1), c.before #[Value.ref b] s = true := atoms_spec (ws := Jvm.Cond.code x code maxLocals ret :: tables_1) B.pre
    have hts : ∀ w ∈ lw_tbl, w.before #[Value.ref b] s = true := k2_hts_sels lw_privs (fun w hw => hts0 w (List.mem_cons_of_mem _ hw)) lw_privs_ok
    have hml : c.maxLocals = 7 := B.maxLocals_eq (hts0 _ List.mem_cons_self)
    have X₀ : Stand p l e room_1 s m #[Value.ref b] below meth c s₁ [] 0 0 := Stand.of_body B
    have hh0 : s₁.heap = s.heap := by rw [B.state]; rfl
    have hsz : scr.slots.size = xs.length := by rw [← Array.length_toList, hlist, List.length_map]
    have hval : ∀ j : Nat, j < xs.length → scr.slots[j]? = some (.int (xs.getD j 0)) := fun j hj => by
      rw [← Array.getElem?_toList, hlist]
      simp [hj]
    have hbl : b < s.heap.size := (Array.getElem?_eq_some_iff.mp hcb).1
    have hX : va_X b xs.length (fun j => xs.getD j 0) s s.heap := ⟨scr, hcb, hof, hkn, hsz, hval⟩
    have K : W p l e room_1 s m #[Value.ref b] below meth c s₁.heap [] 0 0 (lw_Z below #[Value.ref b] s) (entryFrame m ([Value.ref b] : List Value).toArray 7) := by
      rw [hh0]
      exact whole_start l hflags hbd ⟨B.exec, B.bytes, B.returns, hml, hown, hts, hX, hbl, B.notSynchronized, hgv⟩
    obtain ⟨t, a1, o, b1, b2, b3⟩ := K s₁ rfl X₀
    exact ⟨t, o, a1, b1, b2, b3⟩
theorem lw_pre_spec {args : Array Value} {s : State} (h : (Jvm.Cond.and given_1 narrow_1).before args s = true) (hr : rest_1_c.before args s = true) : ∃ (b : Addr) (xs : List Int32), lw_P b xs args s := by
  have hs := flat_of_before _ h
  have hq := flat_of_before _ hr
  have hc : (Cond.count 1).before args s = true := hs _ (by decide +kernel)
  have harr : (Cond.arrayOf (.arg 0) .int).before args s = true := hs _ (by decide +kernel)
  have hle : (Cond.le (.length (.arg 0)) (.int 2048)).before args s = true := hs _ (by decide +kernel)
  have hlen : (Cond.isInt (.length (.arg 0))).before args s = true := hq _ (by decide +kernel)
  have hall : (Cond.all (.arg 0) (.isInt (.elem (.arg 0) (.index 0)))).before args s = true := hq _ (by decide +kernel)
  obtain ⟨b, xs, hb, hx⟩ := State.ints_of_pre rfl harr hlen hall
  have hsm : xs.length < 2 ^ 31 := hx.choose_spec.2.2.2
  have hev : (Term.length (.arg 0)).eval args s none [] s = some (.int xs.length.toInt32) := hx.length_eval hb
  have hv := Cond.le_ints hev (show (Term.int 2048).eval args s none [] s = some (.int 2048) from rfl)
  have hd : xs.length.toInt32 ≤ 2048 := by
    simpa [Cond.before, Cond.holds, hv] using hle
  have hN : xs.length ≤ 2048 := (Int32.ofNat_le_ofNat hsm (by decide)).mp (show Int32.ofNat xs.length ≤ Int32.ofNat 2048 from hd)
  exact ⟨b, xs, Cond.one_arg hc (show args[0]? = some (.ref b) from hb), hx, hN, h⟩
theorem lw_comes (l : Launch) (hflags : l.flags = flags0) : Comes l x (Jvm.Cond.code x code maxLocals ret :: tables_1) room_1 (fun tb e args s => Calls_1 tb e args s ∧ rest_1 tb e args s ∧ Pre_1 tb e args s)
    (fun _ _ args s o t => lw_Q args s o t) := by
  intro p e ha hc hk s m args below hf hfit hheap happ hpre
  obtain ⟨b, xs, hP⟩ := lw_pre_spec hpre.2.2 hpre.2.1
  obtain ⟨k, o, h1, h2, h3, hQ⟩ := lw_walk l hflags b xs p e ha hc hk s m args below hf ((Spec.applies_iff_loose hf).mp happ).1 hP trivial
  exact ⟨k, o, h1, h2, h3, hQ⟩
theorem lw_frame {s t : State} {o : Outcome} {args : Array Value} (h : Framed s o t [] 875399 6469906) :
    Framed s o t (fieldLocs frame_1_writes args s ++ arrayLocs frame_1_arrays args s ++ staticLocs frame_1_statics s) 875399 6469906 := h
theorem lw_limb (L : Cond) (hL : ∀ (args : Array Value) (s t : State), L.after args s (.returned (some (.int 1))) t = true) :
    ArmFor flags0 classFile x code maxLocals ret World_1 tables_1 room_1 Calls_1 rest_1 Pre_1
      (fun tb e a s o t => postC L tb e a s o t ∧ Framed s o t (fieldLocs frame_1_writes a s ++ arrayLocs frame_1_arrays a s ++ staticLocs frame_1_statics s) 875399 6469906) := by
  intro l hflags _ _ p e ha hc hk s m args below hf hfit hheap happ hpre
  obtain ⟨k, o, h1, h2, h3, rfl, hF⟩ := lw_comes l hflags p e ha hc hk s m args below hf hfit hheap happ hpre
  exact ⟨k, _, h1, h2, h3, hL args s _, lw_frame hF⟩
theorem i_vc : Claimed_1_1 ∧ Claimed_1_2 := ⟨lw_limb limb_1_1 (fun args s t => by simp [limb_1_1, Cond.after, Cond.holds, Cond.value]), lw_limb limb_1_2 (fun args s t => Cond.after_iff.mpr (by
  first | (rw [show limb_1_2 = Cond.eq .result (.int 1) from rfl, Cond.eq_ints (x := 1) (y := 1) rfl rfl]; simp; done) | (simp [limb_1_2, Cond.value, Term.eval]; done)))⟩

