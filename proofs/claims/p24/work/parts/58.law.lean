/-! The law's loop, its start, the claim. -/
set_option maxHeartbeats 4000000 in
set_option maxRecDepth 100000 in
theorem law_loop {p : Program} {l : Launch} {e : Env} {s : State} {m : MethodId} {below : List Frame} {meth : Method} {c : Code} {b L : Nat} {xs : Nat → Int32} {G : fw_G} (E0 : lw_E p l s m c b L xs G) (hr9 : meth.sig.returnType = ret) (hlocks : meth.locks = false) {x q2 q3 q4 q5 : Nat} :
    ∀ (d i : Nat), i + d = 50 → ∀ (F : fw_F) (H : Heap) (locs : List Loc) (ls : Array Slot) (nC nT nO T : Nat), fw_S G (fun q : Nat => s.heap.size ≤ q) s F H locs → p4_R G F x q2 q3 q4 q5 i nC nT nO T → lv_has ls 24 [(0, .ref b), (1, .ref x), (2, .ref q2), (3, .ref q3), (4, .ref q4), (5, .ref q5), (6, .int (nI nC)), (7, .int (nI nT)), (8, .int (nI nO)), (9, .int (nI T)), (10, .int (nI i))] → W p l e room_1 s m #[Value.ref b] below meth c H locs (300 * (i + 1)) (12000 * (i + 1)) (lw_Z below #[Value.ref b] s) (F0 m 45 ls []) := by
  have E9 := E0
  obtain ⟨hx, hb, hml, hown, hT, hz, hcx, hl9, hX9, hbl, hL, hAn⟩ := E0
  intro d
  induction d with
  | zero =>
    intro i hid F H locs ls nC nT nO T hw hR hl
    refine lv_iload hx hb dL_law_45 (lv_at hl 10 rfl) ?_
    refine lv_bipush (v := (nI 50)) hx hb dL_law_47 (by decide) ?_
    refine lv_icmp_ge (tgt := 742) hx hb dL_law_49 (by decide) (fun d => ?_) (fun d => ?_)
    · have d := (nI_leI (a := 50) (b := i) (by omega) (by omega)).mp d
      refine lv_iconst (v := (nI 1)) hx hb dL_law_742 (by decide) ?_
      refine va_forget (fun q hq => hw.2.1.2.2 q hq) ?_
      refine W.widen (k := 827442) (n := 6619141) (by omega) (by omega) ?_
      exact lw_ret hx hb hr9 hlocks dL_law_743
    · have d : ¬ 50 ≤ i := fun h9 => d ((nI_leI (a := 50) (b := i) (by omega) (by omega)).mpr h9)
      omega
  | succ d ih =>
    intro i hid F H locs ls nC nT nO T hw hR hl
    refine lv_iload hx hb dL_law_45 (lv_at hl 10 rfl) ?_
    refine lv_bipush (v := (nI 50)) hx hb dL_law_47 (by decide) ?_
    refine lv_icmp_ge (tgt := 742) hx hb dL_law_49 (by decide) (fun d => ?_) (fun d => ?_)
    · have d := (nI_leI (a := 50) (b := i) (by omega) (by omega)).mp d
      omega
    · have d : ¬ 50 ≤ i := fun h9 => d ((nI_leI (a := 50) (b := i) (by omega) (by omega)).mpr h9)
      refine law_turn E9 (show i < 50 by omega) (by omega) (by omega) hR hw (lv_sub hl [0, 1, 2, 3, 4, 5, 6, 7, 8, 9, 10] rfl) (fun F H locs ls nC nT nO T hw hR hl => ?_)
      refine W.widen (k := 300 * (i + 1 + 1)) (n := 12000 * (i + 1 + 1)) (by omega) (by omega) ?_
      exact ih (i + 1) (by omega) _ _ _ _ _ _ _ _ hw hR hl
set_option maxHeartbeats 4000000 in
set_option maxRecDepth 100000 in
theorem whole_start {p : Program} {e : Env} {s : State} {m : MethodId} {below : List Frame} {meth : Method} {c : Code} (l : Launch) (hflags : l.flags = flags0) {b L : Nat} {xs : Nat → Int32} (hL : L ≤ 260) (C0 : lw_At p s m meth c b L xs) : W p l e room_1 s m #[Value.ref b] below meth c s.heap [] 0 0 (lw_Z below #[Value.ref b] s) (entryFrame m ([Value.ref b] : List Value).toArray 24) := by
  obtain ⟨G, hz, hcx⟩ := lw_env C0
  obtain ⟨hx, hb, hr9, hml, hown, hts, hXs, hbl, hlocks, hgv⟩ := C0
  have hT : ∀ w ∈ fw_tb, w.before #[Value.ref b] s = true := fun w hw => hts w (List.mem_filter.mp hw).1
  have hown : s.vm.findClass RL = some m.cls := hown
  have C : CallFix p m c code 24 s #[Value.ref b] fw_tb RL := ⟨hx, hb, hml, hown, hT⟩
  have hl9 : l.stackTraces = false := by
    have h9 := hflags
    simp only [Launch.stackTraces, h9]
    decide
  have hAn : ∀ q, s.heap.size ≤ q → (fun q : Nat => s.heap.size ≤ q) q := fun _ h => h
  have hw : fw_S G (fun q : Nat => s.heap.size ≤ q) s (fun _ => none) s.heap [] := ⟨⟨fun a t e h => (by cases h), fun a t arr n f h => (by cases h), fun a t arr n f h => (by cases h)⟩, va_S.rf, fun q h => by
    rcases h with ⟨x, h⟩ | ⟨a, t, n, f, h, _⟩ | h
    · cases h
    · cases h
    · exact h⟩
  have hl := lv_entry ([.ref b]) (n := 24) (Nat.le_of_ble_eq_true rfl)
  rw [lg_entry_eq]
  generalize (lg_sl ([.ref b]) ++ List.replicate (24 - (lg_sl ([.ref b])).length) Slot.unset).toArray = ls at hl ⊢
  have hl : lv_has ls 24 [(0, .ref b)] := hl
  refine fw_new (50, 0, 0) (ci := 9) (fs := [.null, .null, .null, .null, .null, .null, .int (nI 0)]) hx hb hT fi_RX8 tyX8 tyX8_ok hown (hT _ wd_25) (hT _ wd_26) (hT _ wd_1) hz hw hAn rfl (by intro j hj; rcases (show j = 0 ∨ j = 1 ∨ j = 2 ∨ j = 3 ∨ j = 4 ∨ j = 5 ∨ j = 6 by omega) with rfl | rfl | rfl | rfl | rfl | rfl | rfl <;> rfl) (Nat.le_of_ble_eq_true rfl) (Nat.le_of_ble_eq_true rfl) dL_law_0 (fun x H hqx hw => ?_)
  refine W.widen (k := 1) (n := 7) (Nat.le_of_ble_eq_true rfl) (Nat.le_of_ble_eq_true rfl) ?_
  obtain ⟨W1, hFW1⟩ : ∃ z, z = va_up (fun _ => none) x (some ((50, 0, 0), fw_obj 9 [.null, .null, .null, .null, .null, .null, .int (nI 0)])) := ⟨_, rfl⟩
  rw [← hFW1] at hw
  have k1_s : W1 x = some ((50, 0, 0), fw_obj 9 [.null, .null, .null, .null, .null, .null, .int (nI 0)]) := by rw [hFW1]; exact fw_up_self
  refine lv_dup hx hb dL_law_3 rfl ?_
  refine fw_callv (fw_runI (As := []) (rest := [.ref x]) C hz hw (c_X8_init l G _ _ x k1_s) (fw_cwI hT wd_27 yIX8_init rfl rfl ⟨Nat.le_of_ble_eq_true rfl, Nat.le_of_ble_eq_true rfl⟩) rfl hl.1 rfl (Nat.le_of_ble_eq_true rfl) dL_law_4 ⟨Nat.le_of_ble_eq_true rfl, Nat.le_of_ble_eq_true rfl⟩) hw (fun F1 H locs hw hp => ?_)
  refine W.widen (k := 15) (n := 759) (Nat.le_of_ble_eq_true rfl) (Nat.le_of_ble_eq_true rfl) ?_
  obtain ⟨lc, lt, lo, lm, lw, dr, ds, dfr, am, ma, hX, p1, p2, p3, p4, p5, p6, p7, p8, p9⟩ := hp
  have hB := st_new hX p1 p2 p3 p4 p5 p6 p7 p8 p9
  refine lv_astore_n (lv' := [(1, .ref x), (0, .ref b)]) hx hb dL_law_7 rfl hl (by decide) rfl (fun ls hl => ?_)
  refine lv_bipush (v := (nI 8)) hx hb dL_law_8 (by decide) ?_
  refine fw_newa (61, 0, 0) (atype := .int) (cA := fw_cI G) (n := nI 8) (N' := 8) (a0 := (8, .inl (fun _ => 0))) hx hb (hT _ wd_661) (fun cX h9 => Option.some.inj (h9.symm.trans (hz.1.2 0 _ rfl).2)) hw hAn (fun _ => rfl) (by decide) (nI_clamp (by decide)) (Nat.le_of_ble_eq_true rfl) (Nat.le_of_ble_eq_true rfl) (Nat.le_of_ble_eq_true rfl) dL_law_10 (fun q2 H hq2 hw => ?_)
  refine W.widen (k := 16) (n := 767) (Nat.le_of_ble_eq_true rfl) (Nat.le_of_ble_eq_true rfl) ?_
  obtain ⟨G1, hG1⟩ : ∃ z, z = va_up F1 q2 (some ((61, 0, 0), fw_ia (fw_cI G) 8 (fun _ => 0))) := ⟨_, rfl⟩
  rw [← hG1] at hw
  have kG1 : fw_kp F1 G1 (fun _ => False) := by rw [hG1]; exact fw_kp.rf.new hq2
  have zq2 : G1 q2 = some ((61, 0, 0), fw_ia (fw_cI G) 8 (fun _ => 0)) := by rw [hG1]; exact fw_up_self
  refine lv_astore_n (lv' := [(2, .ref q2), (1, .ref x), (0, .ref b)]) hx hb dL_law_12 rfl hl (by decide) rfl (fun ls hl => ?_)
  refine lv_bipush (v := (nI 8)) hx hb dL_law_13 (by decide) ?_
  refine fw_newa (62, 0, 0) (atype := .int) (cA := fw_cI G) (n := nI 8) (N' := 8) (a0 := (8, .inl (fun _ => 0))) hx hb (hT _ wd_661) (fun cX h9 => Option.some.inj (h9.symm.trans (hz.1.2 0 _ rfl).2)) hw hAn (fun _ => rfl) (by decide) (nI_clamp (by decide)) (Nat.le_of_ble_eq_true rfl) (Nat.le_of_ble_eq_true rfl) (Nat.le_of_ble_eq_true rfl) dL_law_15 (fun q3 H hq3 hw => ?_)
  refine W.widen (k := 17) (n := 775) (Nat.le_of_ble_eq_true rfl) (Nat.le_of_ble_eq_true rfl) ?_
  obtain ⟨G2, hG2⟩ : ∃ z, z = va_up G1 q3 (some ((62, 0, 0), fw_ia (fw_cI G) 8 (fun _ => 0))) := ⟨_, rfl⟩
  rw [← hG2] at hw
  have kG2 : fw_kp G1 G2 (fun _ => False) := by rw [hG2]; exact fw_kp.rf.new hq3
  have zq3 : G2 q3 = some ((62, 0, 0), fw_ia (fw_cI G) 8 (fun _ => 0)) := by rw [hG2]; exact fw_up_self
  refine lv_astore_n (lv' := [(3, .ref q3), (2, .ref q2), (1, .ref x), (0, .ref b)]) hx hb dL_law_17 rfl hl (by decide) rfl (fun ls hl => ?_)
  refine lv_bipush (v := (nI 12)) hx hb dL_law_18 (by decide) ?_
  refine fw_newa (63, 0, 0) (atype := .int) (cA := fw_cI G) (n := nI 12) (N' := 12) (a0 := (12, .inl (fun _ => 0))) hx hb (hT _ wd_661) (fun cX h9 => Option.some.inj (h9.symm.trans (hz.1.2 0 _ rfl).2)) hw hAn (fun _ => rfl) (by decide) (nI_clamp (by decide)) (Nat.le_of_ble_eq_true rfl) (Nat.le_of_ble_eq_true rfl) (Nat.le_of_ble_eq_true rfl) dL_law_20 (fun q4 H hq4 hw => ?_)
  refine W.widen (k := 18) (n := 787) (Nat.le_of_ble_eq_true rfl) (Nat.le_of_ble_eq_true rfl) ?_
  obtain ⟨G3, hG3⟩ : ∃ z, z = va_up G2 q4 (some ((63, 0, 0), fw_ia (fw_cI G) 12 (fun _ => 0))) := ⟨_, rfl⟩
  rw [← hG3] at hw
  have kG3 : fw_kp G2 G3 (fun _ => False) := by rw [hG3]; exact fw_kp.rf.new hq4
  have zq4 : G3 q4 = some ((63, 0, 0), fw_ia (fw_cI G) 12 (fun _ => 0)) := by rw [hG3]; exact fw_up_self
  refine lv_astore (lv' := [(4, .ref q4), (3, .ref q3), (2, .ref q2), (1, .ref x), (0, .ref b)]) hx hb dL_law_22 hl (by decide) rfl (fun ls hl => ?_)
  refine lv_bipush (v := (nI 12)) hx hb dL_law_24 (by decide) ?_
  refine fw_newa (64, 0, 0) (atype := .int) (cA := fw_cI G) (n := nI 12) (N' := 12) (a0 := (12, .inl (fun _ => 0))) hx hb (hT _ wd_661) (fun cX h9 => Option.some.inj (h9.symm.trans (hz.1.2 0 _ rfl).2)) hw hAn (fun _ => rfl) (by decide) (nI_clamp (by decide)) (Nat.le_of_ble_eq_true rfl) (Nat.le_of_ble_eq_true rfl) (Nat.le_of_ble_eq_true rfl) dL_law_26 (fun q5 H hq5 hw => ?_)
  refine W.widen (k := 19) (n := 799) (Nat.le_of_ble_eq_true rfl) (Nat.le_of_ble_eq_true rfl) ?_
  obtain ⟨G4, hG4⟩ : ∃ z, z = va_up G3 q5 (some ((64, 0, 0), fw_ia (fw_cI G) 12 (fun _ => 0))) := ⟨_, rfl⟩
  rw [← hG4] at hw
  have kG4 : fw_kp G3 G4 (fun _ => False) := by rw [hG4]; exact fw_kp.rf.new hq5
  have zq5 : G4 q5 = some ((64, 0, 0), fw_ia (fw_cI G) 12 (fun _ => 0)) := by rw [hG4]; exact fw_up_self
  have hA : p4_A G G4 q2 q3 q4 q5 (fun _ => 0) (fun _ => 0) (fun _ => 0) (fun _ => 0) := ⟨kG4 _ _ _ (kG3 _ _ _ (kG2 _ _ _ zq2 id) id) id, kG4 _ _ _ (kG3 _ _ _ zq3 id) id, kG4 _ _ _ zq4 id, zq5⟩
  have hCL : CL G4 x cl_f0 0 0 0 0 0 (nI 0) := (((hB.1.kp (kG1.wk (fun _ z => z.elim))).kp (kG2.wk (fun _ z => z.elim))).kp (kG3.wk (fun _ z => z.elim))).kp (kG4.wk (fun _ z => z.elim))
  have hR : p4_R G G4 x q2 q3 q4 q5 0 0 0 0 0 := ⟨cl_f0, 0, fun _ => 0, _, _, _, _, hA, Nat.le_refl _, hCL, hB.2.1, pw_new⟩
  refine lv_astore (lv' := [(5, .ref q5), (4, .ref q4), (3, .ref q3), (2, .ref q2), (1, .ref x), (0, .ref b)]) hx hb dL_law_28 hl (by decide) rfl (fun ls hl => ?_)
  refine lv_iconst (v := (nI 0)) hx hb dL_law_30 (by decide) ?_
  refine lv_istore (lv' := [(6, .int (nI 0)), (5, .ref q5), (4, .ref q4), (3, .ref q3), (2, .ref q2), (1, .ref x), (0, .ref b)]) hx hb dL_law_31 hl (by decide) rfl (fun ls hl => ?_)
  refine lv_iconst (v := (nI 0)) hx hb dL_law_33 (by decide) ?_
  refine lv_istore (lv' := [(7, .int (nI 0)), (6, .int (nI 0)), (5, .ref q5), (4, .ref q4), (3, .ref q3), (2, .ref q2), (1, .ref x), (0, .ref b)]) hx hb dL_law_34 hl (by decide) rfl (fun ls hl => ?_)
  refine lv_iconst (v := (nI 0)) hx hb dL_law_36 (by decide) ?_
  refine lv_istore (lv' := [(8, .int (nI 0)), (7, .int (nI 0)), (6, .int (nI 0)), (5, .ref q5), (4, .ref q4), (3, .ref q3), (2, .ref q2), (1, .ref x), (0, .ref b)]) hx hb dL_law_37 hl (by decide) rfl (fun ls hl => ?_)
  refine lv_iconst (v := (nI 0)) hx hb dL_law_39 (by decide) ?_
  refine lv_istore (lv' := [(9, .int (nI 0)), (8, .int (nI 0)), (7, .int (nI 0)), (6, .int (nI 0)), (5, .ref q5), (4, .ref q4), (3, .ref q3), (2, .ref q2), (1, .ref x), (0, .ref b)]) hx hb dL_law_40 hl (by decide) rfl (fun ls hl => ?_)
  refine lv_iconst (v := (nI 0)) hx hb dL_law_42 (by decide) ?_
  refine lv_istore (lv' := [(10, .int (nI 0)), (9, .int (nI 0)), (8, .int (nI 0)), (7, .int (nI 0)), (6, .int (nI 0)), (5, .ref q5), (4, .ref q4), (3, .ref q3), (2, .ref q2), (1, .ref x), (0, .ref b)]) hx hb dL_law_43 hl (by decide) rfl (fun ls hl => ?_)
  refine W.widen (k := 300 * (0 + 1)) (n := 12000 * (0 + 1)) (by omega) (by omega) ?_
  exact law_loop ⟨hx, hb, hml, hown, hT, hz, hcx, hl9, hXs, hbl, hL, hAn⟩ hr9 hlocks 50 0 rfl _ _ _ _ 0 0 0 0 hw hR (lv_sub hl [10, 9, 8, 7, 6, 5, 4, 3, 2, 1, 0] rfl)
set_option maxHeartbeats 4000000 in
theorem lw_walk (l : Launch) (hflags : l.flags = flags0) (b : Addr) (xs : List Int32) : MetFree l x (headSpec (Jvm.Cond.code x code maxLocals ret :: tables_1) room_1) (lw_P b xs) (fun _ _ _ _ _ => True) lw_Q := by
  refine MetFree.of_bodyS (code := code) (maxLocals := maxLocals) (ret := ret) (by decide) ?_ ?_
  · intro args s m h hn
    obtain ⟨meth, c, h1, h2, h3, h4, h5, h6, -, -⟩ := Cond.code_spec hn (atoms_spec (ws := Jvm.Cond.code x code maxLocals ret :: tables_1) h _ List.mem_cons_self)
    exact ⟨meth, c, h1, h2, h3, h4, h5, h6⟩
  · intro p e s m args below meth c s₁ B hml0 hP _
    obtain ⟨rfl, hx, hbd, hgv⟩ := hP
    obtain ⟨scr, harrAt, hlist, hof, hsmall⟩ := hx
    obtain ⟨hcb, hkn, -, -⟩ := State.arrayAt?_spec harrAt
    have hown : s.vm.findClass R_law = some m.cls := findClass_of_methodNamed B.named
    have hts0 : ∀ c ∈ (Jvm.Cond.code x code maxLocals ret :: tables_1), c.before #[Value.ref b] s = true := atoms_spec (ws := Jvm.Cond.code x code maxLocals ret :: tables_1) B.pre
    have hts : ∀ w ∈ lw_tbl, w.before #[Value.ref b] s = true := k2_hts_sels lw_privs (fun w hw => hts0 w (List.mem_cons_of_mem _ hw)) lw_privs_ok
    have hml : c.maxLocals = 24 := B.maxLocals_eq (hts0 _ List.mem_cons_self)
    have X₀ : Stand p l e room_1 s m #[Value.ref b] below meth c s₁ [] 0 0 := Stand.of_body B
    have hh0 : s₁.heap = s.heap := by rw [B.state]; rfl
    have hsz : scr.slots.size = xs.length := by rw [← Array.length_toList, hlist, List.length_map]
    have hval : ∀ j : Nat, j < xs.length → scr.slots[j]? = some (.int (xs.getD j 0)) := fun j hj => by
      rw [← Array.getElem?_toList, hlist]
      simp [hj]
    have hbl : b < s.heap.size := (Array.getElem?_eq_some_iff.mp hcb).1
    have hX : va_X b xs.length (fun j => xs.getD j 0) s s.heap := ⟨scr, hcb, hof, hkn, hsz, hval⟩
    have K : W p l e room_1 s m #[Value.ref b] below meth c s₁.heap [] 0 0 (lw_Z below #[Value.ref b] s) (entryFrame m ([Value.ref b] : List Value).toArray 24) := by
      rw [hh0]
      exact whole_start l hflags hbd ⟨B.exec, B.bytes, B.returns, hml, hown, hts, hX, hbl, B.notSynchronized, hgv⟩
    obtain ⟨t, a1, o, b1, b2, b3⟩ := K s₁ rfl X₀
    exact ⟨t, o, a1, b1, b2, b3⟩
theorem lw_pre_spec {args : Array Value} {s : State} (h : (Jvm.Cond.and given_1 narrow_1).before args s = true) (hr : rest_1_c.before args s = true) : ∃ (b : Addr) (xs : List Int32), lw_P b xs args s := by
  have hs := flat_of_before _ h
  have hq := flat_of_before _ hr
  have hc : (Cond.count 1).before args s = true := hs _ (by decide +kernel)
  have harr : (Cond.arrayOf (.arg 0) .int).before args s = true := hs _ (by decide +kernel)
  have hle : (Cond.le (.length (.arg 0)) (.int 260)).before args s = true := hs _ (by decide +kernel)
  have hlen : (Cond.isInt (.length (.arg 0))).before args s = true := hq _ (by decide +kernel)
  have hall : (Cond.all (.arg 0) (.isInt (.elem (.arg 0) (.index 0)))).before args s = true := hq _ (by decide +kernel)
  obtain ⟨b, xs, hb, hx⟩ := State.ints_of_pre rfl harr hlen hall
  have hsm : xs.length < 2 ^ 31 := hx.choose_spec.2.2.2
  have hev : (Term.length (.arg 0)).eval args s none [] s = some (.int xs.length.toInt32) := hx.length_eval hb
  have hv := Cond.le_ints hev (show (Term.int 260).eval args s none [] s = some (.int 260) from rfl)
  have hd : xs.length.toInt32 ≤ 260 := by
    simpa [Cond.before, Cond.holds, hv] using hle
  have hN : xs.length ≤ 260 := (Int32.ofNat_le_ofNat hsm (by decide)).mp (show Int32.ofNat xs.length ≤ Int32.ofNat 260 from hd)
  exact ⟨b, xs, Cond.one_arg hc (show args[0]? = some (.ref b) from hb), hx, hN, h⟩
theorem lw_comes (l : Launch) (hflags : l.flags = flags0) : Comes l x (Jvm.Cond.code x code maxLocals ret :: tables_1) room_1 (fun tb e args s => Calls_1 tb e args s ∧ rest_1 tb e args s ∧ Pre_1 tb e args s)
    (fun _ _ args s o t => lw_Q args s o t) := by
  intro p e ha hc hk s m args below hf hfit hheap happ hpre
  obtain ⟨b, xs, hP⟩ := lw_pre_spec hpre.2.2 hpre.2.1
  obtain ⟨k, o, h1, h2, h3, hQ⟩ := lw_walk l hflags b xs p e ha hc hk s m args below hf ((Spec.applies_iff_loose hf).mp happ).1 hP trivial
  exact ⟨k, o, h1, h2, h3, hQ⟩
theorem lw_frame {s t : State} {o : Outcome} {args : Array Value} (h : Framed s o t [] 827442 6619141) :
    Framed s o t (fieldLocs frame_1_writes args s ++ arrayLocs frame_1_arrays args s ++ staticLocs frame_1_statics s) 827442 6619141 := h
theorem lw_limb (L : Cond) (hL : ∀ (args : Array Value) (s t : State), L.after args s (.returned (some (.int 1))) t = true) :
    ArmFor flags0 classFile x code maxLocals ret World_1 tables_1 room_1 Calls_1 rest_1 Pre_1
      (fun tb e a s o t => postC L tb e a s o t ∧ Framed s o t (fieldLocs frame_1_writes a s ++ arrayLocs frame_1_arrays a s ++ staticLocs frame_1_statics s) 827442 6619141) := by
  intro l hflags _ _ p e ha hc hk s m args below hf hfit hheap happ hpre
  obtain ⟨k, o, h1, h2, h3, rfl, hF⟩ := lw_comes l hflags p e ha hc hk s m args below hf hfit hheap happ hpre
  exact ⟨k, _, h1, h2, h3, hL args s _, lw_frame hF⟩
theorem i_vc : Claimed_1_1 ∧ Claimed_1_2 := ⟨lw_limb limb_1_1 (fun args s t => by simp [limb_1_1, Cond.after, Cond.holds, Cond.value]), lw_limb limb_1_2 (fun args s t => Cond.after_iff.mpr (by
  first | (rw [show limb_1_2 = Cond.eq .result (.int 1) from rfl, Cond.eq_ints (x := 1) (y := 1) rfl rfl]; simp; done) | (simp [limb_1_2, Cond.value, Term.eval]; done)))⟩

