/-! The class's small ones. -/
section FWX
variable {p : Program} {l : Launch} {e : Env} {R : Room} {s : State} {m : MethodId} {args : Array Value} {below : List Frame} {meth : Method} {c : Code} {H : Heap} {locs : List Loc} {cells slots : Nat} {Q : State → Prop}
variable {cc : ByteArray} {pc : Nat} {ls : Array Slot} {rest : List Value} {G : fw_G} {A : Nat → Prop} {a : Nat} {F : fw_F} {t : fw_T}
theorem fw_cast (hexec : p.tables.exec = Jvm.exec) (hb : c.code = cc) {own : String} {index : Nat} (hown : s.vm.findClass own = some m.cls) (hz : fw_Z G A s s.heap) (hw : fw_S G A s F H locs) {ci : Nat} {fs : List Value} {q : vw_C} (hF : F a = some (t, fw_obj ci fs)) (hc : vwCl[ci]? = some q) (hlink : (Cond.classLink own index q.1).before args s = true) (hdg : decode cc pc = .ok (.checkcast index, 3))
    (k : W p l e R s m args below meth c H locs cells slots Q (F0 m (pc + 3) ls (.ref a :: rest))) : W p l e R s m args below meth c H locs cells slots Q (F0 m pc ls (.ref a :: rest)) :=
  va_castS hexec hb hown hlink (hz.1.1 ci q hc).2 (fw_rec hz hw hF hc) hdg k
variable {y : MethodName} {bytes : ByteArray} {maxL nL mc ms n index : Nat} {ret : Option FieldType} {ws : List Cond} {rm : Room} {Ts : List Cond} {own host C : String} {b : Addr} {As : List Value} {st0 : List Value}
theorem fw_cnS (ht : ∀ w ∈ fw_tb, w.before args s = true) (hl : va_Nw (.methodLinkNest own index y host) s) (h : fw_yS C y bytes maxL ret n) (hrc : rm.cells = mc) (hrs : rm.slots = ms) (hR : rm.frames + 1 ≤ R.frames ∧ 8 + (maxL + 11) + rm.locals ≤ R.locals) : va_CN R s args own index y host bytes maxL ret (fw_ws y bytes maxL ret) rm mc ms n ∧ (Cond.static y).before args s = true ∧ True :=
  ⟨va_cnB n ht (fw_gw h.2.2.1) rfl hrc hrs hl (by rw [h.2.2.2.1]; exact ht _ h.2.1) h.2.2.2.2 hR, ht _ h.1, trivial⟩
theorem fw_cnI (ht : ∀ w ∈ fw_tb, w.before args s = true) (hl : va_Nw (.methodLinkNest own index y host) s) (h : fw_yI C y bytes maxL n) (hrc : rm.cells = mc) (hrs : rm.slots = ms) (hR : rm.frames + 1 ≤ R.frames ∧ 8 + (maxL + 11) + rm.locals ≤ R.locals) : va_CN R s args own index y host bytes maxL none (fw_ws y bytes maxL none) rm mc ms n ∧ y.name = "<init>" ∧ (Cond.instanceMethod y).before args s = true :=
  ⟨va_cnB n ht (fw_gw h.2.2.1) rfl hrc hrs hl (by rw [h.2.2.2.2.1]; exact ht _ h.2.1) h.2.2.2.2.2 hR, h.2.2.2.1, ht _ h.1⟩
theorem fw_runSN {Qc : Array Value → State → Outcome → State → Prop} (S : CallFix p m c cc nL s args Ts own) (hz : fw_Z G A s s.heap) (hw : fw_S G A s F H locs) (hM : Met l y ws rm (va_Pc As (fw_Pre G F H.size)) Qc mc ms (fw_A G F H)) (cw : va_CN R s args own index y host bytes maxL ret ws rm mc ms n ∧ (Cond.static y).before args s = true ∧ True)
    (hn : As.length = n) (hsize : ls.size = nL) (hstack : st0 = As.reverse ++ rest) (hW : (rest.map fun v => v.category).sum ≤ 8) (hdg : decode cc pc = .ok (.invokestatic index, 3)) (hf : cells + mc ≤ R.cells ∧ slots + ms ≤ R.slots) :
    va_Run p l e R s m args below meth c H locs cells slots mc ms (F0 m pc ls st0) rest (Qc As.toArray) (fw_A G F H) :=
  va_runSN (rest := rest) S hM cw (fw_preS hz hw) rfl hn hsize hstack (lv_room (m := m) (pc := pc) (ls := ls) (rest := st0) hW) hdg hf
theorem fw_runIN {Qc : Array Value → State → Outcome → State → Prop} (S : CallFix p m c cc nL s args Ts own) (hz : fw_Z G A s s.heap) (hw : fw_S G A s F H locs) (hM : Met l y ws rm (va_Pc (.ref b :: As) (fw_Pre G F H.size)) Qc mc ms (fw_A G F H)) (cw : va_CN R s args own index y host bytes maxL none ws rm mc ms n ∧ y.name = "<init>" ∧ (Cond.instanceMethod y).before args s = true)
    (hn : As.length = n) (hsize : ls.size = nL) (hstack : st0 = As.reverse ++ .ref b :: rest) (hW : (rest.map fun v => v.category).sum ≤ 8) (hdg : decode cc pc = .ok (.invokespecial index, 3)) (hf : cells + mc ≤ R.cells ∧ slots + ms ≤ R.slots) :
    va_Run p l e R s m args below meth c H locs cells slots mc ms (F0 m pc ls st0) rest (Qc (Value.ref b :: As).toArray) (fw_A G F H) :=
  va_runIN (rest := rest) S hM cw (fw_preS (as := .ref b :: As) hz hw) rfl hn hsize hstack (lv_room (m := m) (pc := pc) (ls := ls) (rest := st0) hW) hdg hf
end FWX
set_option maxHeartbeats 4000000 in
set_option maxRecDepth 100000 in
theorem c_X8_isOutside (l : Launch) (G : fw_G) (F : fw_F) (sz : Nat) (v lo hi : Int32) : Met l yX8_isOutside (fw_ws yX8_isOutside cX8_isOutside 3 (some (.boolean))) { frames := 0, cells := 0, slots := 0, locals := 0 } (va_Pc [.int v, .int lo, .int hi] (fw_Pre G F sz)) (va_Qi (fun r F1 => F1 = F ∧ (fun r => r = fw_b (!rf_in v lo hi)) r) (fw_B G (fw_W G F sz)) (fw_W G F sz)) 0 0 (fw_W G F sz) := by
  refine fw_met (lv := [(0, .int v), (1, .int lo), (2, .int hi)]) (by decide +kernel) (Nat.le_of_ble_eq_true rfl) rfl ?_
  intro A hA p e s m below meth c ls hx hb hml hown hT hr hlk hin hz hsz hw hAn hl
  rw [← hA]
  have hown : s.vm.findClass RX8 = some m.cls := hown
  have C : CallFix p m c cX8_isOutside 3 s _ fw_tb RX8 := ⟨hx, hb, hml, hown, hT⟩
  refine lv_iload_n hx hb dX8_isOutside_0 rfl (lv_at hl 0 rfl) ?_
  refine lv_iload_n hx hb dX8_isOutside_1 rfl (lv_at hl 1 rfl) ?_
  refine lv_icmp_lt (tgt := 10) hx hb dX8_isOutside_2 (by decide) (fun d => ?_) (fun d => ?_)
  · refine lv_iconst (v := (nI 1)) hx hb dX8_isOutside_10 (by decide) ?_
    refine lv_goto (tgt := 15) hx hb dX8_isOutside_11 (by decide) ?_
    exact fw_zret hx hb hr (by decide) hlk (Nat.le_of_ble_eq_true rfl) (Nat.le_of_ble_eq_true rfl) hw dX8_isOutside_15 (⟨rfl, by rw [rf_in_f1 d]; rfl⟩)
  · refine lv_iload_n hx hb dX8_isOutside_5 rfl (lv_at hl 0 rfl) ?_
    refine lv_iload_n hx hb dX8_isOutside_6 rfl (lv_at hl 2 rfl) ?_
    refine lv_icmp_le (tgt := 14) hx hb dX8_isOutside_7 (by decide) (fun d2 => ?_) (fun d2 => ?_)
    · refine lv_iconst (v := (nI 0)) hx hb dX8_isOutside_14 (by decide) ?_
      exact fw_zret hx hb hr (by decide) hlk (Nat.le_of_ble_eq_true rfl) (Nat.le_of_ble_eq_true rfl) hw dX8_isOutside_15 (⟨rfl, by rw [rf_in_t.mpr ⟨Int32.not_lt.mp d, d2⟩]; rfl⟩)
    · refine lv_iconst (v := (nI 1)) hx hb dX8_isOutside_10 (by decide) ?_
      refine lv_goto (tgt := 15) hx hb dX8_isOutside_11 (by decide) ?_
      exact fw_zret hx hb hr (by decide) hlk (Nat.le_of_ble_eq_true rfl) (Nat.le_of_ble_eq_true rfl) hw dX8_isOutside_15 (⟨rfl, by rw [rf_in_f2 (Int32.not_le.mp d2)]; rfl⟩)
set_option maxHeartbeats 4000000 in
set_option maxRecDepth 100000 in
theorem c_X8_isNoModule (l : Launch) (G : fw_G) (F : fw_F) (sz : Nat) (v : Int32) : Met l yX8_isNoModule (fw_ws yX8_isNoModule cX8_isNoModule 1 (some (.boolean))) { frames := 1, cells := 0, slots := 0, locals := 22 } (va_Pc [.int v] (fw_Pre G F sz)) (va_Qi (fun r F1 => F1 = F ∧ (fun r => r = fw_b (!rf_in v (nI 1) (nI 4))) r) (fw_B G (fw_W G F sz)) (fw_W G F sz)) 0 0 (fw_W G F sz) := by
  refine fw_met (lv := [(0, .int v)]) (by decide +kernel) (Nat.le_of_ble_eq_true rfl) rfl ?_
  intro A hA p e s m below meth c ls hx hb hml hown hT hr hlk hin hz hsz hw hAn hl
  rw [← hA]
  have hown : s.vm.findClass RX8 = some m.cls := hown
  have C : CallFix p m c cX8_isNoModule 1 s _ fw_tb RX8 := ⟨hx, hb, hml, hown, hT⟩
  refine lv_iload_n hx hb dX8_isNoModule_0 rfl (lv_at hl 0 rfl) ?_
  refine lv_iconst (v := (nI 1)) hx hb dX8_isNoModule_1 (by decide) ?_
  refine lv_iconst (v := (nI 4)) hx hb dX8_isNoModule_2 (by decide) ?_
  refine fw_calli (fw_runS (As := [.int v, .int (nI 1), .int (nI 4)]) (rest := []) C hz hw (c_X8_isOutside l G _ _ v (nI 1) (nI 4)) (fw_cwS hT wd_204 ySX8_isOutside rfl rfl ⟨Nat.le_of_ble_eq_true rfl, Nat.le_of_ble_eq_true rfl⟩) rfl hl.1 rfl (Nat.le_of_ble_eq_true rfl) dX8_isNoModule_3 ⟨Nat.le_of_ble_eq_true rfl, Nat.le_of_ble_eq_true rfl⟩) hw (fun r F1 H locs hw hp => ?_)
  obtain ⟨hp0, hp⟩ := hp
  rw [hp0] at hw
  refine W.widen (k := 0) (n := 0) (Nat.le_of_ble_eq_true rfl) (Nat.le_of_ble_eq_true rfl) ?_
  subst hp
  exact fw_zret hx hb hr (by rcases fw_b01 (!rf_in v (nI 1) (nI 4)) with h | h <;> rw [h] <;> rfl) hlk (Nat.le_of_ble_eq_true rfl) (Nat.le_of_ble_eq_true rfl) hw dX8_isNoModule_6 (⟨rfl, rfl⟩)
set_option maxHeartbeats 4000000 in
set_option maxRecDepth 100000 in
theorem c_X8_isNoToothCount (l : Launch) (G : fw_G) (F : fw_F) (sz : Nat) (v : Int32) : Met l yX8_isNoToothCount (fw_ws yX8_isNoToothCount cX8_isNoToothCount 1 (some (.boolean))) { frames := 1, cells := 0, slots := 0, locals := 22 } (va_Pc [.int v] (fw_Pre G F sz)) (va_Qi (fun r F1 => F1 = F ∧ (fun r => r = fw_b (!rf_in v (nI 8) (nI 60))) r) (fw_B G (fw_W G F sz)) (fw_W G F sz)) 0 0 (fw_W G F sz) := by
  refine fw_met (lv := [(0, .int v)]) (by decide +kernel) (Nat.le_of_ble_eq_true rfl) rfl ?_
  intro A hA p e s m below meth c ls hx hb hml hown hT hr hlk hin hz hsz hw hAn hl
  rw [← hA]
  have hown : s.vm.findClass RX8 = some m.cls := hown
  have C : CallFix p m c cX8_isNoToothCount 1 s _ fw_tb RX8 := ⟨hx, hb, hml, hown, hT⟩
  refine lv_iload_n hx hb dX8_isNoToothCount_0 rfl (lv_at hl 0 rfl) ?_
  refine lv_bipush (v := (nI 8)) hx hb dX8_isNoToothCount_1 (by decide) ?_
  refine lv_bipush (v := (nI 60)) hx hb dX8_isNoToothCount_3 (by decide) ?_
  refine fw_calli (fw_runS (As := [.int v, .int (nI 8), .int (nI 60)]) (rest := []) C hz hw (c_X8_isOutside l G _ _ v (nI 8) (nI 60)) (fw_cwS hT wd_204 ySX8_isOutside rfl rfl ⟨Nat.le_of_ble_eq_true rfl, Nat.le_of_ble_eq_true rfl⟩) rfl hl.1 rfl (Nat.le_of_ble_eq_true rfl) dX8_isNoToothCount_5 ⟨Nat.le_of_ble_eq_true rfl, Nat.le_of_ble_eq_true rfl⟩) hw (fun r F1 H locs hw hp => ?_)
  obtain ⟨hp0, hp⟩ := hp
  rw [hp0] at hw
  refine W.widen (k := 0) (n := 0) (Nat.le_of_ble_eq_true rfl) (Nat.le_of_ble_eq_true rfl) ?_
  subst hp
  exact fw_zret hx hb hr (by rcases fw_b01 (!rf_in v (nI 8) (nI 60)) with h | h <;> rw [h] <;> rfl) hlk (Nat.le_of_ble_eq_true rfl) (Nat.le_of_ble_eq_true rfl) hw dX8_isNoToothCount_8 (⟨rfl, rfl⟩)
set_option maxHeartbeats 4000000 in
set_option maxRecDepth 100000 in
theorem c_X0_cuts (l : Launch) (G : fw_G) (F : fw_F) (sz : Nat) (b : Nat) (t : fw_T) (mo te v1 v2 v3 : Int32) (hF : F b = some (t, fw_obj 1 [.int v1, .int v2, .int v3])) : Met l yX0_cuts (fw_ws yX0_cuts cX0_cuts 3 (some (.boolean))) { frames := 0, cells := 0, slots := 0, locals := 0 } (va_Pc [.ref b, .int mo, .int te] (fw_Pre G F sz)) (va_Qi (fun r F1 => F1 = F ∧ (fun r => r = fw_b (decide (v1 = mo) && rf_in te v2 v3)) r) (fw_B G (fw_W G F sz)) (fw_W G F sz)) 0 0 (fw_W G F sz) := by
  refine fw_met (lv := [(0, .ref b), (1, .int mo), (2, .int te)]) (by decide +kernel) (Nat.le_of_ble_eq_true rfl) rfl ?_
  intro A hA p e s m below meth c ls hx hb hml hown hT hr hlk hin hz hsz hw hAn hl
  rw [← hA]
  have hown : s.vm.findClass RX0 = some m.cls := hown
  have C : CallFix p m c cX0_cuts 3 s _ fw_tb RX0 := ⟨hx, hb, hml, hown, hT⟩
  refine lv_aload_n hx hb dX0_cuts_0 rfl (lv_at hl 0 rfl) ?_
  refine fw_get (v := .int v1) hx hb hT fi_RX0 hown hz hw hF rfl 0 (by decide) (hT _ wd_304) (fun _ h9 => h9) rfl dX0_cuts_1 ?_
  refine lv_iload_n hx hb dX0_cuts_4 rfl (lv_at hl 1 rfl) ?_
  refine lv_icmp_ne (tgt := 28) hx hb dX0_cuts_5 (by decide) (fun d => ?_) (fun d => ?_)
  · refine lv_iconst (v := (nI 0)) hx hb dX0_cuts_28 (by decide) ?_
    exact fw_zret hx hb hr (by decide) hlk (Nat.le_of_ble_eq_true rfl) (Nat.le_of_ble_eq_true rfl) hw dX0_cuts_29 (⟨rfl, by rw [decide_eq_false d]; rfl⟩)
  · refine lv_iload_n hx hb dX0_cuts_8 rfl (lv_at hl 2 rfl) ?_
    refine lv_aload_n hx hb dX0_cuts_9 rfl (lv_at hl 0 rfl) ?_
    refine fw_get (v := .int v2) hx hb hT fi_RX0 hown hz hw hF rfl 1 (by decide) (hT _ wd_305) (fun _ h9 => h9) rfl dX0_cuts_10 ?_
    refine lv_icmp_lt (tgt := 28) hx hb dX0_cuts_13 (by decide) (fun d2 => ?_) (fun d2 => ?_)
    · refine lv_iconst (v := (nI 0)) hx hb dX0_cuts_28 (by decide) ?_
      exact fw_zret hx hb hr (by decide) hlk (Nat.le_of_ble_eq_true rfl) (Nat.le_of_ble_eq_true rfl) hw dX0_cuts_29 (⟨rfl, by rw [rf_in_f1 d2, Bool.and_false]; rfl⟩)
    · refine lv_iload_n hx hb dX0_cuts_16 rfl (lv_at hl 2 rfl) ?_
      refine lv_aload_n hx hb dX0_cuts_17 rfl (lv_at hl 0 rfl) ?_
      refine fw_get (v := .int v3) hx hb hT fi_RX0 hown hz hw hF rfl 2 (by decide) (hT _ wd_306) (fun _ h9 => h9) rfl dX0_cuts_18 ?_
      refine lv_icmp_gt (tgt := 28) hx hb dX0_cuts_21 (by decide) (fun d3 => ?_) (fun d3 => ?_)
      · refine lv_iconst (v := (nI 0)) hx hb dX0_cuts_28 (by decide) ?_
        exact fw_zret hx hb hr (by decide) hlk (Nat.le_of_ble_eq_true rfl) (Nat.le_of_ble_eq_true rfl) hw dX0_cuts_29 (⟨rfl, by rw [rf_in_f2 d3, Bool.and_false]; rfl⟩)
      · refine lv_iconst (v := (nI 1)) hx hb dX0_cuts_24 (by decide) ?_
        refine lv_goto (tgt := 29) hx hb dX0_cuts_25 (by decide) ?_
        exact fw_zret hx hb hr (by decide) hlk (Nat.le_of_ble_eq_true rfl) (Nat.le_of_ble_eq_true rfl) hw dX0_cuts_29 (⟨rfl, by rw [decide_eq_true d, rf_in_t.mpr ⟨Int32.not_lt.mp d2, Int32.not_lt.mp d3⟩]; rfl⟩)
set_option maxHeartbeats 4000000 in
set_option maxRecDepth 100000 in
theorem c_X0_init (l : Launch) (G : fw_G) (F : fw_F) (sz : Nat) (b : Nat) (t : fw_T) (v1 v2 v3 : Int32) (hF : F b = some (t, fw_obj 1 [.int (nI 0), .int (nI 0), .int (nI 0)])) : Met l yX0_init (fw_ws yX0_init cX0_init 4 none) { frames := 1, cells := 0, slots := 0, locals := 20 } (va_Pc [.ref b, .int v1, .int v2, .int v3] (fw_Pre G F sz)) (va_Qv (fun F1 => F1 = va_up F b (some (t, fw_obj 1 [.int v1, .int v2, .int v3]))) (fw_B G (fw_W G F sz)) (fw_W G F sz)) 0 0 (fw_W G F sz) := by
  refine fw_met (lv := [(0, .ref b), (1, .int v1), (2, .int v2), (3, .int v3)]) (by decide +kernel) (Nat.le_of_ble_eq_true rfl) rfl ?_
  intro A hA p e s m below meth c ls hx hb hml hown hT hr hlk hin hz hsz hw hAn hl
  rw [← hA]
  have hown : s.vm.findClass RX0 = some m.cls := hown
  have C : CallFix p m c cX0_init 4 s _ fw_tb RX0 := ⟨hx, hb, hml, hown, hT⟩
  refine lv_aload_n hx hb dX0_init_0 rfl (lv_at hl 0 rfl) ?_
  refine W.objInit hx hb hown (hT _ wd_303) (hT _ wd_31) (hT _ wd_32) rfl (hl.1.trans hml.symm) rfl dX0_init_1 (Nat.le_of_ble_eq_true rfl) (Nat.le_of_ble_eq_true rfl) ?_
  refine W.eq (g2 := F0 m 4 ls []) rfl ?_
  refine lv_aload_n hx hb dX0_init_4 rfl (lv_at hl 0 rfl) ?_
  refine lv_iload_n hx hb dX0_init_5 rfl (lv_at hl 1 rfl) ?_
  refine fw_putF (v := .int v1) (fs' := [.int v1, .int (nI 0), .int (nI 0)]) hx hb hT fi_RX0 tyX0 tyX0_ok nmX0 hown hz hw hF rfl 0 (by decide) (hT _ wd_304) (fun _ h9 => h9) rfl (hin rfl) rfl (ty := tyX0 0) (by decide +kernel) rfl rfl (Nat.le_of_ble_eq_true rfl) rfl dX0_init_6 (fun H locs hw => ?_)
  obtain ⟨W1, hFW1⟩ : ∃ z, z = va_up F b (some (t, fw_obj 1 [.int v1, .int (nI 0), .int (nI 0)])) := ⟨_, rfl⟩
  rw [← hFW1] at hw
  have k1_s : W1 b = some (t, fw_obj 1 [.int v1, .int (nI 0), .int (nI 0)]) := by rw [hFW1]; exact fw_up_self
  refine lv_aload_n hx hb dX0_init_9 rfl (lv_at hl 0 rfl) ?_
  refine lv_iload_n hx hb dX0_init_10 rfl (lv_at hl 2 rfl) ?_
  refine fw_putF (v := .int v2) (fs' := [.int v1, .int v2, .int (nI 0)]) hx hb hT fi_RX0 tyX0 tyX0_ok nmX0 hown hz hw k1_s rfl 1 (by decide) (hT _ wd_305) (fun _ h9 => h9) rfl (hin rfl) rfl (ty := tyX0 1) (by decide +kernel) rfl rfl (Nat.le_of_ble_eq_true rfl) rfl dX0_init_11 (fun H locs hw => ?_)
  obtain ⟨W2, hFW2⟩ : ∃ z, z = va_up W1 b (some (t, fw_obj 1 [.int v1, .int v2, .int (nI 0)])) := ⟨_, rfl⟩
  rw [← hFW2] at hw
  have k2_s : W2 b = some (t, fw_obj 1 [.int v1, .int v2, .int (nI 0)]) := by rw [hFW2]; exact fw_up_self
  refine lv_aload_n hx hb dX0_init_14 rfl (lv_at hl 0 rfl) ?_
  refine lv_iload_n hx hb dX0_init_15 rfl (lv_at hl 3 rfl) ?_
  refine fw_putF (v := .int v3) (fs' := [.int v1, .int v2, .int v3]) hx hb hT fi_RX0 tyX0 tyX0_ok nmX0 hown hz hw k2_s rfl 2 (by decide) (hT _ wd_306) (fun _ h9 => h9) rfl (hin rfl) rfl (ty := tyX0 2) (by decide +kernel) rfl rfl (Nat.le_of_ble_eq_true rfl) rfl dX0_init_16 (fun H locs hw => ?_)
  obtain ⟨W3, hFW3⟩ : ∃ z, z = va_up W2 b (some (t, fw_obj 1 [.int v1, .int v2, .int v3])) := ⟨_, rfl⟩
  rw [← hFW3] at hw
  have k3_s : W3 b = some (t, fw_obj 1 [.int v1, .int v2, .int v3]) := by rw [hFW3]; exact fw_up_self
  exact fw_vret hx hb hr hlk (Nat.le_of_ble_eq_true rfl) (Nat.le_of_ble_eq_true rfl) hw dX0_init_19 (by rw [hFW3, hFW2, hFW1, bx_uu, bx_uu])
set_option maxHeartbeats 4000000 in
set_option maxRecDepth 100000 in
theorem c_X6_init (l : Launch) (G : fw_G) (F : fw_F) (sz : Nat) (b : Nat) (t : fw_T) (v1 v2 v3 : Int32) (hF : F b = some (t, fw_obj 7 [.int (nI 0), .int (nI 0), .int (nI 0)])) : Met l yX6_init (fw_ws yX6_init cX6_init 4 none) { frames := 1, cells := 0, slots := 0, locals := 20 } (va_Pc [.ref b, .int v1, .int v2, .int v3] (fw_Pre G F sz)) (va_Qv (fun F1 => F1 = va_up F b (some (t, fw_obj 7 [.int v1, .int v2, .int v3]))) (fw_B G (fw_W G F sz)) (fw_W G F sz)) 0 0 (fw_W G F sz) := by
  refine fw_met (lv := [(0, .ref b), (1, .int v1), (2, .int v2), (3, .int v3)]) (by decide +kernel) (Nat.le_of_ble_eq_true rfl) rfl ?_
  intro A hA p e s m below meth c ls hx hb hml hown hT hr hlk hin hz hsz hw hAn hl
  rw [← hA]
  have hown : s.vm.findClass RX6 = some m.cls := hown
  have C : CallFix p m c cX6_init 4 s _ fw_tb RX6 := ⟨hx, hb, hml, hown, hT⟩
  refine lv_aload_n hx hb dX6_init_0 rfl (lv_at hl 0 rfl) ?_
  refine W.objInit hx hb hown (hT _ wd_352) (hT _ wd_31) (hT _ wd_32) rfl (hl.1.trans hml.symm) rfl dX6_init_1 (Nat.le_of_ble_eq_true rfl) (Nat.le_of_ble_eq_true rfl) ?_
  refine W.eq (g2 := F0 m 4 ls []) rfl ?_
  refine lv_aload_n hx hb dX6_init_4 rfl (lv_at hl 0 rfl) ?_
  refine lv_iload_n hx hb dX6_init_5 rfl (lv_at hl 1 rfl) ?_
  refine fw_putF (v := .int v1) (fs' := [.int v1, .int (nI 0), .int (nI 0)]) hx hb hT fi_RX6 tyX6 tyX6_ok nmX6 hown hz hw hF rfl 0 (by decide) (hT _ wd_353) (fun _ h9 => h9) rfl (hin rfl) rfl (ty := tyX6 0) (by decide +kernel) rfl rfl (Nat.le_of_ble_eq_true rfl) rfl dX6_init_6 (fun H locs hw => ?_)
  obtain ⟨W1, hFW1⟩ : ∃ z, z = va_up F b (some (t, fw_obj 7 [.int v1, .int (nI 0), .int (nI 0)])) := ⟨_, rfl⟩
  rw [← hFW1] at hw
  have k1_s : W1 b = some (t, fw_obj 7 [.int v1, .int (nI 0), .int (nI 0)]) := by rw [hFW1]; exact fw_up_self
  refine lv_aload_n hx hb dX6_init_9 rfl (lv_at hl 0 rfl) ?_
  refine lv_iload_n hx hb dX6_init_10 rfl (lv_at hl 2 rfl) ?_
  refine fw_putF (v := .int v2) (fs' := [.int v1, .int v2, .int (nI 0)]) hx hb hT fi_RX6 tyX6 tyX6_ok nmX6 hown hz hw k1_s rfl 1 (by decide) (hT _ wd_356) (fun _ h9 => h9) rfl (hin rfl) rfl (ty := tyX6 1) (by decide +kernel) rfl rfl (Nat.le_of_ble_eq_true rfl) rfl dX6_init_11 (fun H locs hw => ?_)
  obtain ⟨W2, hFW2⟩ : ∃ z, z = va_up W1 b (some (t, fw_obj 7 [.int v1, .int v2, .int (nI 0)])) := ⟨_, rfl⟩
  rw [← hFW2] at hw
  have k2_s : W2 b = some (t, fw_obj 7 [.int v1, .int v2, .int (nI 0)]) := by rw [hFW2]; exact fw_up_self
  refine lv_aload_n hx hb dX6_init_14 rfl (lv_at hl 0 rfl) ?_
  refine lv_iload_n hx hb dX6_init_15 rfl (lv_at hl 3 rfl) ?_
  refine fw_putF (v := .int v3) (fs' := [.int v1, .int v2, .int v3]) hx hb hT fi_RX6 tyX6 tyX6_ok nmX6 hown hz hw k2_s rfl 2 (by decide) (hT _ wd_359) (fun _ h9 => h9) rfl (hin rfl) rfl (ty := tyX6 2) (by decide +kernel) rfl rfl (Nat.le_of_ble_eq_true rfl) rfl dX6_init_16 (fun H locs hw => ?_)
  obtain ⟨W3, hFW3⟩ : ∃ z, z = va_up W2 b (some (t, fw_obj 7 [.int v1, .int v2, .int v3])) := ⟨_, rfl⟩
  rw [← hFW3] at hw
  have k3_s : W3 b = some (t, fw_obj 7 [.int v1, .int v2, .int v3]) := by rw [hFW3]; exact fw_up_self
  exact fw_vret hx hb hr hlk (Nat.le_of_ble_eq_true rfl) (Nat.le_of_ble_eq_true rfl) hw dX6_init_19 (by rw [hFW3, hFW2, hFW1, bx_uu, bx_uu])
set_option maxHeartbeats 4000000 in
set_option maxRecDepth 100000 in
theorem c_X2_init (l : Launch) (G : fw_G) (F : fw_F) (sz : Nat) (b : Nat) (t : fw_T) (o : Nat) (v2 v3 : Int32) (hF : F b = some (t, fw_obj 3 [.null, .int (nI 0), .int (nI 0)])) : Met l yX2_init (fw_ws yX2_init cX2_init 4 none) { frames := 1, cells := 0, slots := 0, locals := 20 } (va_Pc [.ref b, .ref o, .int v2, .int v3] (fw_Pre G F sz)) (va_Qv (fun F1 => F1 = va_up F b (some (t, fw_obj 3 [.ref o, .int v2, .int v3]))) (fw_B G (fw_W G F sz)) (fw_W G F sz)) 0 0 (fw_W G F sz) := by
  refine fw_met (lv := [(0, .ref b), (1, .ref o), (2, .int v2), (3, .int v3)]) (by decide +kernel) (Nat.le_of_ble_eq_true rfl) rfl ?_
  intro A hA p e s m below meth c ls hx hb hml hown hT hr hlk hin hz hsz hw hAn hl
  rw [← hA]
  have hown : s.vm.findClass RX2 = some m.cls := hown
  have C : CallFix p m c cX2_init 4 s _ fw_tb RX2 := ⟨hx, hb, hml, hown, hT⟩
  refine lv_aload_n hx hb dX2_init_0 rfl (lv_at hl 0 rfl) ?_
  refine W.objInit hx hb hown (hT _ wd_491) (hT _ wd_31) (hT _ wd_32) rfl (hl.1.trans hml.symm) rfl dX2_init_1 (Nat.le_of_ble_eq_true rfl) (Nat.le_of_ble_eq_true rfl) ?_
  refine W.eq (g2 := F0 m 4 ls []) rfl ?_
  refine lv_aload_n hx hb dX2_init_4 rfl (lv_at hl 0 rfl) ?_
  refine lv_aload_n hx hb dX2_init_5 rfl (lv_at hl 1 rfl) ?_
  refine fw_putF (v := .ref o) (fs' := [.ref o, .int (nI 0), .int (nI 0)]) hx hb hT fi_RX2 tyX2 tyX2_ok nmX2 hown hz hw hF rfl 0 (by decide) (hT _ wd_492) (fun _ h9 => h9) rfl (hin rfl) rfl (ty := tyX2 0) (by decide +kernel) rfl rfl (Nat.le_of_ble_eq_true rfl) rfl dX2_init_6 (fun H locs hw => ?_)
  obtain ⟨W1, hFW1⟩ : ∃ z, z = va_up F b (some (t, fw_obj 3 [.ref o, .int (nI 0), .int (nI 0)])) := ⟨_, rfl⟩
  rw [← hFW1] at hw
  have k1_s : W1 b = some (t, fw_obj 3 [.ref o, .int (nI 0), .int (nI 0)]) := by rw [hFW1]; exact fw_up_self
  refine lv_aload_n hx hb dX2_init_9 rfl (lv_at hl 0 rfl) ?_
  refine lv_iload_n hx hb dX2_init_10 rfl (lv_at hl 2 rfl) ?_
  refine fw_putF (v := .int v2) (fs' := [.ref o, .int v2, .int (nI 0)]) hx hb hT fi_RX2 tyX2 tyX2_ok nmX2 hown hz hw k1_s rfl 1 (by decide) (hT _ wd_494) (fun _ h9 => h9) rfl (hin rfl) rfl (ty := tyX2 1) (by decide +kernel) rfl rfl (Nat.le_of_ble_eq_true rfl) rfl dX2_init_11 (fun H locs hw => ?_)
  obtain ⟨W2, hFW2⟩ : ∃ z, z = va_up W1 b (some (t, fw_obj 3 [.ref o, .int v2, .int (nI 0)])) := ⟨_, rfl⟩
  rw [← hFW2] at hw
  have k2_s : W2 b = some (t, fw_obj 3 [.ref o, .int v2, .int (nI 0)]) := by rw [hFW2]; exact fw_up_self
  refine lv_aload_n hx hb dX2_init_14 rfl (lv_at hl 0 rfl) ?_
  refine lv_iload_n hx hb dX2_init_15 rfl (lv_at hl 3 rfl) ?_
  refine fw_putF (v := .int v3) (fs' := [.ref o, .int v2, .int v3]) hx hb hT fi_RX2 tyX2 tyX2_ok nmX2 hown hz hw k2_s rfl 2 (by decide) (hT _ wd_496) (fun _ h9 => h9) rfl (hin rfl) rfl (ty := tyX2 2) (by decide +kernel) rfl rfl (Nat.le_of_ble_eq_true rfl) rfl dX2_init_16 (fun H locs hw => ?_)
  obtain ⟨W3, hFW3⟩ : ∃ z, z = va_up W2 b (some (t, fw_obj 3 [.ref o, .int v2, .int v3])) := ⟨_, rfl⟩
  rw [← hFW3] at hw
  have k3_s : W3 b = some (t, fw_obj 3 [.ref o, .int v2, .int v3]) := by rw [hFW3]; exact fw_up_self
  exact fw_vret hx hb hr hlk (Nat.le_of_ble_eq_true rfl) (Nat.le_of_ble_eq_true rfl) hw dX2_init_19 (by rw [hFW3, hFW2, hFW1, bx_uu, bx_uu])
set_option maxHeartbeats 4000000 in
set_option maxRecDepth 100000 in
theorem c_X4_init (l : Launch) (G : fw_G) (F : fw_F) (sz : Nat) (b : Nat) (t : fw_T) (o : Nat) (hF : F b = some (t, fw_obj 5 [.null, .int (nI 0)])) : Met l yX4_init (fw_ws yX4_init cX4_init 2 none) { frames := 1, cells := 0, slots := 0, locals := 20 } (va_Pc [.ref b, .ref o] (fw_Pre G F sz)) (va_Qv (fun F1 => F1 = va_up F b (some (t, fw_obj 5 [.ref o, .int (nI 0)]))) (fw_B G (fw_W G F sz)) (fw_W G F sz)) 0 0 (fw_W G F sz) := by
  refine fw_met (lv := [(0, .ref b), (1, .ref o)]) (by decide +kernel) (Nat.le_of_ble_eq_true rfl) rfl ?_
  intro A hA p e s m below meth c ls hx hb hml hown hT hr hlk hin hz hsz hw hAn hl
  rw [← hA]
  have hown : s.vm.findClass RX4 = some m.cls := hown
  have C : CallFix p m c cX4_init 2 s _ fw_tb RX4 := ⟨hx, hb, hml, hown, hT⟩
  refine lv_aload_n hx hb dX4_init_0 rfl (lv_at hl 0 rfl) ?_
  refine W.objInit hx hb hown (hT _ wd_449) (hT _ wd_31) (hT _ wd_32) rfl (hl.1.trans hml.symm) rfl dX4_init_1 (Nat.le_of_ble_eq_true rfl) (Nat.le_of_ble_eq_true rfl) ?_
  refine W.eq (g2 := F0 m 4 ls []) rfl ?_
  refine lv_aload_n hx hb dX4_init_4 rfl (lv_at hl 0 rfl) ?_
  refine lv_iconst (v := (nI 0)) hx hb dX4_init_5 (by decide) ?_
  refine fw_put (v := .int (nI 0)) (fs' := [.null, .int (nI 0)]) hx hb hT fi_RX4 tyX4 tyX4_ok nmX4 hown hz hw hF rfl 1 (by decide) (hT _ wd_452) (fun _ h9 => h9) rfl (ty := tyX4 1) (by decide +kernel) rfl rfl (Nat.le_of_ble_eq_true rfl) rfl dX4_init_6 (fun H locs hw => ?_)
  obtain ⟨W1, hFW1⟩ : ∃ z, z = va_up F b (some (t, fw_obj 5 [.null, .int (nI 0)])) := ⟨_, rfl⟩
  rw [← hFW1] at hw
  have k1_s : W1 b = some (t, fw_obj 5 [.null, .int (nI 0)]) := by rw [hFW1]; exact fw_up_self
  refine lv_aload_n hx hb dX4_init_9 rfl (lv_at hl 0 rfl) ?_
  refine lv_aload_n hx hb dX4_init_10 rfl (lv_at hl 1 rfl) ?_
  refine fw_putF (v := .ref o) (fs' := [.ref o, .int (nI 0)]) hx hb hT fi_RX4 tyX4 tyX4_ok nmX4 hown hz hw k1_s rfl 0 (by decide) (hT _ wd_450) (fun _ h9 => h9) rfl (hin rfl) rfl (ty := tyX4 0) (by decide +kernel) rfl rfl (Nat.le_of_ble_eq_true rfl) rfl dX4_init_11 (fun H locs hw => ?_)
  obtain ⟨W2, hFW2⟩ : ∃ z, z = va_up W1 b (some (t, fw_obj 5 [.ref o, .int (nI 0)])) := ⟨_, rfl⟩
  rw [← hFW2] at hw
  have k2_s : W2 b = some (t, fw_obj 5 [.ref o, .int (nI 0)]) := by rw [hFW2]; exact fw_up_self
  exact fw_vret hx hb hr hlk (Nat.le_of_ble_eq_true rfl) (Nat.le_of_ble_eq_true rfl) hw dX4_init_14 (by rw [hFW2, hFW1, bx_uu])
set_option maxHeartbeats 4000000 in
set_option maxRecDepth 100000 in
theorem c_X3_init (l : Launch) (G : fw_G) (F : fw_F) (sz : Nat) (b : Nat) (t : fw_T) (hF : F b = some (t, fw_obj 4 [.int (nI 0), .null, .int (nI 0)])) : Met l yX3_init (fw_ws yX3_init cX3_init 1 none) { frames := 1, cells := 0, slots := 0, locals := 20 } (va_Pc [.ref b] (fw_Pre G F sz)) (va_Qv (fun F1 => F1 = va_up F b (some (t, fw_obj 4 [.int (-1), .null, .int (nI 0)]))) (fw_B G (fw_W G F sz)) (fw_W G F sz)) 0 0 (fw_W G F sz) := by
  refine fw_met (lv := [(0, .ref b)]) (by decide +kernel) (Nat.le_of_ble_eq_true rfl) rfl ?_
  intro A hA p e s m below meth c ls hx hb hml hown hT hr hlk hin hz hsz hw hAn hl
  rw [← hA]
  have hown : s.vm.findClass RX3 = some m.cls := hown
  have C : CallFix p m c cX3_init 1 s _ fw_tb RX3 := ⟨hx, hb, hml, hown, hT⟩
  refine lv_aload_n hx hb dX3_init_0 rfl (lv_at hl 0 rfl) ?_
  refine W.objInit hx hb hown (hT _ wd_101) (hT _ wd_31) (hT _ wd_32) rfl (hl.1.trans hml.symm) rfl dX3_init_1 (Nat.le_of_ble_eq_true rfl) (Nat.le_of_ble_eq_true rfl) ?_
  refine W.eq (g2 := F0 m 4 ls []) rfl ?_
  refine lv_aload_n hx hb dX3_init_4 rfl (lv_at hl 0 rfl) ?_
  refine lv_iconst (v := (-1)) hx hb dX3_init_5 (by decide) ?_
  refine fw_put (v := .int (-1)) (fs' := [.int (-1), .null, .int (nI 0)]) hx hb hT fi_RX3 tyX3 tyX3_ok nmX3 hown hz hw hF rfl 0 (by decide) (hT _ wd_102) (fun _ h9 => h9) rfl (ty := tyX3 0) (by decide +kernel) rfl rfl (Nat.le_of_ble_eq_true rfl) rfl dX3_init_6 (fun H locs hw => ?_)
  obtain ⟨W1, hFW1⟩ : ∃ z, z = va_up F b (some (t, fw_obj 4 [.int (-1), .null, .int (nI 0)])) := ⟨_, rfl⟩
  rw [← hFW1] at hw
  have k1_s : W1 b = some (t, fw_obj 4 [.int (-1), .null, .int (nI 0)]) := by rw [hFW1]; exact fw_up_self
  refine lv_aload_n hx hb dX3_init_9 rfl (lv_at hl 0 rfl) ?_
  refine lv_null hx hb dX3_init_10 ?_
  refine fw_put (v := .null) (fs' := [.int (-1), .null, .int (nI 0)]) hx hb hT fi_RX3 tyX3 tyX3_ok nmX3 hown hz hw k1_s rfl 1 (by decide) (hT _ wd_104) (fun _ h9 => h9) rfl (ty := tyX3 1) (by decide +kernel) rfl rfl (Nat.le_of_ble_eq_true rfl) rfl dX3_init_11 (fun H locs hw => ?_)
  obtain ⟨W2, hFW2⟩ : ∃ z, z = va_up W1 b (some (t, fw_obj 4 [.int (-1), .null, .int (nI 0)])) := ⟨_, rfl⟩
  rw [← hFW2] at hw
  have k2_s : W2 b = some (t, fw_obj 4 [.int (-1), .null, .int (nI 0)]) := by rw [hFW2]; exact fw_up_self
  refine lv_aload_n hx hb dX3_init_14 rfl (lv_at hl 0 rfl) ?_
  refine lv_iconst (v := (nI 0)) hx hb dX3_init_15 (by decide) ?_
  refine fw_put (v := .int (nI 0)) (fs' := [.int (-1), .null, .int (nI 0)]) hx hb hT fi_RX3 tyX3 tyX3_ok nmX3 hown hz hw k2_s rfl 2 (by decide) (hT _ wd_106) (fun _ h9 => h9) rfl (ty := tyX3 2) (by decide +kernel) rfl rfl (Nat.le_of_ble_eq_true rfl) rfl dX3_init_16 (fun H locs hw => ?_)
  obtain ⟨W3, hFW3⟩ : ∃ z, z = va_up W2 b (some (t, fw_obj 4 [.int (-1), .null, .int (nI 0)])) := ⟨_, rfl⟩
  rw [← hFW3] at hw
  have k3_s : W3 b = some (t, fw_obj 4 [.int (-1), .null, .int (nI 0)]) := by rw [hFW3]; exact fw_up_self
  exact fw_vret hx hb hr hlk (Nat.le_of_ble_eq_true rfl) (Nat.le_of_ble_eq_true rfl) hw dX3_init_19 (by rw [hFW3, hFW2, hFW1, bx_uu, bx_uu])
set_option maxHeartbeats 4000000 in
set_option maxRecDepth 100000 in
theorem c_X1_init (l : Launch) (G : fw_G) (F : fw_F) (sz : Nat) (b : Nat) (t : fw_T) (v1 : Nat) (hF : F b = some (t, fw_obj 2 [.long (lN 0), .long (lN 0)])) : Met l yX1_init (fw_ws yX1_init cX1_init 3 none) { frames := 1, cells := 0, slots := 0, locals := 20 } (va_Pc [.ref b, .long (lN v1)] (fw_Pre G F sz)) (va_Qv (fun F1 => F1 = va_up F b (some (t, fw_obj 2 [.long (lN v1), .long (lN 1)]))) (fw_B G (fw_W G F sz)) (fw_W G F sz)) 0 0 (fw_W G F sz) := by
  refine fw_met (lv := [(0, .ref b), (1, .long (lN v1))]) (by decide +kernel) (Nat.le_of_ble_eq_true rfl) rfl ?_
  intro A hA p e s m below meth c ls hx hb hml hown hT hr hlk hin hz hsz hw hAn hl
  rw [← hA]
  have hown : s.vm.findClass RX1 = some m.cls := hown
  have C : CallFix p m c cX1_init 3 s _ fw_tb RX1 := ⟨hx, hb, hml, hown, hT⟩
  refine lv_aload_n hx hb dX1_init_0 rfl (lv_at hl 0 rfl) ?_
  refine W.objInit hx hb hown (hT _ wd_72) (hT _ wd_31) (hT _ wd_32) rfl (hl.1.trans hml.symm) rfl dX1_init_1 (Nat.le_of_ble_eq_true rfl) (Nat.le_of_ble_eq_true rfl) ?_
  refine W.eq (g2 := F0 m 4 ls []) rfl ?_
  refine lv_aload_n hx hb dX1_init_4 rfl (lv_at hl 0 rfl) ?_
  refine lv_lconst (v := (1 : Int64)) hx hb dX1_init_5 (by decide) ?_
  refine fw_put (v := .long (1 : Int64)) (fs' := [.long (lN 0), .long (1 : Int64)]) hx hb hT fi_RX1 tyX1 tyX1_ok nmX1 hown hz hw hF rfl 1 (by decide) (hT _ wd_75) (fun _ h9 => h9) rfl (ty := tyX1 1) (by decide +kernel) rfl rfl (Nat.le_of_ble_eq_true rfl) rfl dX1_init_6 (fun H locs hw => ?_)
  obtain ⟨W1, hFW1⟩ : ∃ z, z = va_up F b (some (t, fw_obj 2 [.long (lN 0), .long (1 : Int64)])) := ⟨_, rfl⟩
  rw [← hFW1] at hw
  have k1_s : W1 b = some (t, fw_obj 2 [.long (lN 0), .long (1 : Int64)]) := by rw [hFW1]; exact fw_up_self
  refine lv_aload_n hx hb dX1_init_9 rfl (lv_at hl 0 rfl) ?_
  refine lv_lload_n hx hb dX1_init_10 rfl (lv_at hl 1 rfl) ?_
  refine fw_put (v := .long (lN v1)) (fs' := [.long (lN v1), .long (1 : Int64)]) hx hb hT fi_RX1 tyX1 tyX1_ok nmX1 hown hz hw k1_s rfl 0 (by decide) (hT _ wd_73) (fun _ h9 => h9) rfl (ty := tyX1 0) (by decide +kernel) rfl rfl (Nat.le_of_ble_eq_true rfl) rfl dX1_init_11 (fun H locs hw => ?_)
  obtain ⟨W2, hFW2⟩ : ∃ z, z = va_up W1 b (some (t, fw_obj 2 [.long (lN v1), .long (1 : Int64)])) := ⟨_, rfl⟩
  rw [← hFW2] at hw
  have k2_s : W2 b = some (t, fw_obj 2 [.long (lN v1), .long (1 : Int64)]) := by rw [hFW2]; exact fw_up_self
  exact fw_vret hx hb hr hlk (Nat.le_of_ble_eq_true rfl) (Nat.le_of_ble_eq_true rfl) hw dX1_init_14 (by rw [hFW2, hFW1, bx_uu]; rfl)
set_option maxHeartbeats 4000000 in
set_option maxRecDepth 100000 in
theorem c_X6_wearOf (l : Launch) (G : fw_G) (F : fw_F) (sz : Nat) (b : Nat) (t : fw_T) (v1 v2 v3 : Nat) (q : Nat) (hF : F b = some (t, fw_obj 7 [.int (nI v1), .int (nI v2), .int (nI v3)])) (h1 : 1 ≤ v1) (h4 : v1 ≤ 4) (hq : q ≤ 10000) : Met l yX6_wearOf (fw_ws yX6_wearOf cX6_wearOf 2 (some (.int))) { frames := 0, cells := 0, slots := 0, locals := 0 } (va_Pc [.ref b, .int (nI q)] (fw_Pre G F sz)) (va_Qi (fun r F1 => F1 = F ∧ (fun r => r = nI (q / v1)) r) (fw_B G (fw_W G F sz)) (fw_W G F sz)) 0 0 (fw_W G F sz) := by
  refine fw_met (lv := [(0, .ref b), (1, .int (nI q))]) (by decide +kernel) (Nat.le_of_ble_eq_true rfl) rfl ?_
  intro A hA p e s m below meth c ls hx hb hml hown hT hr hlk hin hz hsz hw hAn hl
  rw [← hA]
  have hown : s.vm.findClass RX6 = some m.cls := hown
  have C : CallFix p m c cX6_wearOf 2 s _ fw_tb RX6 := ⟨hx, hb, hml, hown, hT⟩
  refine lv_aload_n hx hb dX6_wearOf_0 rfl (lv_at hl 0 rfl) ?_
  refine fw_get (v := .int (nI v1)) hx hb hT fi_RX6 hown hz hw hF rfl 0 (by decide) (hT _ wd_353) (fun _ h9 => h9) rfl dX6_wearOf_1 ?_
  refine lv_if_le (tgt := 16) hx hb dX6_wearOf_4 (by decide) (fun d => ?_) (fun d => ?_)
  · have d := (nI_leI (a := v1) (b := 0) (by omega) (by omega)).mp d
    omega
  · have d : ¬ v1 ≤ 0 := fun h9 => d ((nI_leI (a := v1) (b := 0) (by omega) (by omega)).mpr h9)
    refine lv_iload_n hx hb dX6_wearOf_7 rfl (lv_at hl 1 rfl) ?_
    refine lv_aload_n hx hb dX6_wearOf_8 rfl (lv_at hl 0 rfl) ?_
    refine fw_get (v := .int (nI v1)) hx hb hT fi_RX6 hown hz hw hF rfl 0 (by decide) (hT _ wd_353) (fun _ h9 => h9) rfl dX6_wearOf_9 ?_
    refine lv_idiv hx hb dX6_wearOf_12 (nI_ne0 (by omega) (by omega)) ?_
    refine fw_top (x' := (nI (q / v1))) (pk_div (by omega) (by omega) (by omega)) ?_
    refine lv_goto (tgt := 17) hx hb dX6_wearOf_13 (by decide) ?_
    exact fw_iret hx hb hr hlk (Nat.le_of_ble_eq_true rfl) (Nat.le_of_ble_eq_true rfl) hw dX6_wearOf_17 (⟨rfl, rfl⟩)
theorem fw_minI {v2 v3 : Nat} (h2 : v2 ≤ 60) (h3 : v3 ≤ 60) : (if nI v3 < nI v2 then nI v3 else nI v2) = nI (if v2 < v3 then v2 else v3) := by
  by_cases h : v2 < v3
  · rw [if_pos h, if_neg (nI_nlt (by omega) (by omega))]
  · rw [if_neg h]
    by_cases h' : v3 < v2
    · rw [if_pos (nI_lt h' (by omega))]
    · rw [if_neg (nI_nlt (by omega) (by omega)), show v2 = v3 by omega]
set_option maxHeartbeats 4000000 in
set_option maxRecDepth 100000 in
theorem c_X6_mostWear (l : Launch) (G : fw_G) (F : fw_F) (sz : Nat) (b : Nat) (t : fw_T) (v1 v2 v3 : Nat) (hF : F b = some (t, fw_obj 7 [.int (nI v1), .int (nI v2), .int (nI v3)])) (h2 : v2 ≤ 60) (h3 : v3 ≤ 60) : Met l yX6_mostWear (fw_ws yX6_mostWear cX6_mostWear 1 (some (.int))) { frames := 1, cells := 0, slots := 0, locals := 21 } (va_Pc [.ref b] (fw_Pre G F sz)) (va_Qi (fun r F1 => F1 = F ∧ (fun r => r = nI (10 * (if v2 < v3 then v2 else v3))) r) (fw_B G (fw_W G F sz)) (fw_W G F sz)) 0 0 (fw_W G F sz) := by
  refine fw_met (lv := [(0, .ref b)]) (by decide +kernel) (Nat.le_of_ble_eq_true rfl) rfl ?_
  intro A hA p e s m below meth c ls hx hb hml hown hT hr hlk hin hz hsz hw hAn hl
  rw [← hA]
  have hown : s.vm.findClass RX6 = some m.cls := hown
  have C : CallFix p m c cX6_mostWear 1 s _ fw_tb RX6 := ⟨hx, hb, hml, hown, hT⟩
  refine lv_bipush (v := (nI 10)) hx hb dX6_mostWear_0 (by decide) ?_
  refine lv_aload_n hx hb dX6_mostWear_2 rfl (lv_at hl 0 rfl) ?_
  refine fw_get (v := .int (nI v2)) hx hb hT fi_RX6 hown hz hw hF rfl 1 (by decide) (hT _ wd_356) (fun _ h9 => h9) rfl dX6_mostWear_3 ?_
  refine lv_aload_n hx hb dX6_mostWear_6 rfl (lv_at hl 0 rfl) ?_
  refine fw_get (v := .int (nI v3)) hx hb hT fi_RX6 hown hz hw hF rfl 2 (by decide) (hT _ wd_359) (fun _ h9 => h9) rfl dX6_mostWear_7 ?_
  refine va_mmin hx hb (hml.trans hl.1.symm) hown (hT _ wd_587) (hT _ wd_168) (hT _ wd_9) (hT _ wd_169) (Nat.le_of_ble_eq_true rfl) (Nat.le_of_ble_eq_true rfl) (Nat.le_of_ble_eq_true rfl) (Nat.le_of_ble_eq_true rfl) dX6_mostWear_10 ?_
  refine fw_top (x' := (nI (if v2 < v3 then v2 else v3))) (fw_minI h2 h3) ?_
  refine lv_imul hx hb dX6_mostWear_13 ?_
  refine fw_top (pk_mul _ _) ?_
  exact fw_iret hx hb hr hlk (Nat.le_of_ble_eq_true rfl) (Nat.le_of_ble_eq_true rfl) hw dX6_mostWear_14 (⟨rfl, rfl⟩)
set_option maxHeartbeats 4000000 in
set_option maxRecDepth 100000 in
theorem c_X3_begin (l : Launch) (G : fw_G) (F : fw_F) (sz : Nat) (b j o q : Nat) (t tj : fw_T) (v1 v3 te cu : Int32) (vj : Option Nat) (hne : tj ≠ t) (hF : F b = some (t, fw_obj 4 [.int v1, va_rf vj, .int v3])) (hj : F j = some (tj, fw_obj 3 [.ref o, .int te, .int cu])) : Met l yX3_begin (fw_ws yX3_begin cX3_begin 3 none) { frames := 0, cells := 0, slots := 0, locals := 0 } (va_Pc [.ref b, .ref j, .int (nI q)] (fw_Pre G F sz)) (va_Qv (fun F1 => F1 = va_up F b (some (t, fw_obj 4 [.int cu, .ref j, .int (nI q + te)]))) (fw_B G (fw_W G F sz)) (fw_W G F sz)) 0 0 (fw_W G F sz) := by
  refine fw_met (lv := [(0, .ref b), (1, .ref j), (2, .int (nI q))]) (by decide +kernel) (Nat.le_of_ble_eq_true rfl) rfl ?_
  intro A hA p e s m below meth c ls hx hb hml hown hT hr hlk hin hz hsz hw hAn hl
  rw [← hA]
  have hown : s.vm.findClass RX3 = some m.cls := hown
  have C : CallFix p m c cX3_begin 3 s _ fw_tb RX3 := ⟨hx, hb, hml, hown, hT⟩
  refine lv_aload_n hx hb dX3_begin_0 rfl (lv_at hl 0 rfl) ?_
  refine lv_aload_n hx hb dX3_begin_1 rfl (lv_at hl 1 rfl) ?_
  refine fw_put (v := .ref j) (fs' := [.int v1, .ref j, .int v3]) hx hb hT fi_RX3 tyX3 tyX3_ok nmX3 hown hz hw hF rfl 1 (by decide) (hT _ wd_104) (fun _ h9 => h9) rfl (ty := tyX3 1) (by decide +kernel) rfl rfl (Nat.le_of_ble_eq_true rfl) rfl dX3_begin_2 (fun H locs hw => ?_)
  obtain ⟨W1, hFW1⟩ : ∃ z, z = va_up F b (some (t, fw_obj 4 [.int v1, .ref j, .int v3])) := ⟨_, rfl⟩
  rw [← hFW1] at hw
  have k1_0 : W1 j = some (tj, fw_obj 3 [.ref o, .int te, .int cu]) := by rw [hFW1]; exact fw_up_tag hj hF hne
  have k1_s : W1 b = some (t, fw_obj 4 [.int v1, .ref j, .int v3]) := by rw [hFW1]; exact fw_up_self
  refine lv_aload_n hx hb dX3_begin_5 rfl (lv_at hl 0 rfl) ?_
  refine lv_aload_n hx hb dX3_begin_6 rfl (lv_at hl 1 rfl) ?_
  refine fw_get (v := .int cu) hx hb hT fi_RX2 hown hz hw k1_0 rfl 2 (by decide) (hT _ wd_497) (fun _ h9 => h9) rfl dX3_begin_7 ?_
  refine fw_put (v := .int cu) (fs' := [.int cu, .ref j, .int v3]) hx hb hT fi_RX3 tyX3 tyX3_ok nmX3 hown hz hw k1_s rfl 0 (by decide) (hT _ wd_102) (fun _ h9 => h9) rfl (ty := tyX3 0) (by decide +kernel) rfl rfl (Nat.le_of_ble_eq_true rfl) rfl dX3_begin_10 (fun H locs hw => ?_)
  obtain ⟨W2, hFW2⟩ : ∃ z, z = va_up W1 b (some (t, fw_obj 4 [.int cu, .ref j, .int v3])) := ⟨_, rfl⟩
  rw [← hFW2] at hw
  have k2_0 : W2 j = some (tj, fw_obj 3 [.ref o, .int te, .int cu]) := by rw [hFW2]; exact fw_up_tag k1_0 k1_s hne
  have k2_s : W2 b = some (t, fw_obj 4 [.int cu, .ref j, .int v3]) := by rw [hFW2]; exact fw_up_self
  refine lv_aload_n hx hb dX3_begin_13 rfl (lv_at hl 0 rfl) ?_
  refine lv_iload_n hx hb dX3_begin_14 rfl (lv_at hl 2 rfl) ?_
  refine lv_aload_n hx hb dX3_begin_15 rfl (lv_at hl 1 rfl) ?_
  refine fw_get (v := .int te) hx hb hT fi_RX2 hown hz hw k2_0 rfl 1 (by decide) (hT _ wd_495) (fun _ h9 => h9) rfl dX3_begin_16 ?_
  refine lv_iadd hx hb dX3_begin_19 ?_
  refine fw_put (v := .int ((nI q) + te)) (fs' := [.int cu, .ref j, .int ((nI q) + te)]) hx hb hT fi_RX3 tyX3 tyX3_ok nmX3 hown hz hw k2_s rfl 2 (by decide) (hT _ wd_106) (fun _ h9 => h9) rfl (ty := tyX3 2) (by decide +kernel) rfl rfl (Nat.le_of_ble_eq_true rfl) rfl dX3_begin_20 (fun H locs hw => ?_)
  obtain ⟨W3, hFW3⟩ : ∃ z, z = va_up W2 b (some (t, fw_obj 4 [.int cu, .ref j, .int ((nI q) + te)])) := ⟨_, rfl⟩
  rw [← hFW3] at hw
  have k3_0 : W3 j = some (tj, fw_obj 3 [.ref o, .int te, .int cu]) := by rw [hFW3]; exact fw_up_tag k2_0 k2_s hne
  have k3_s : W3 b = some (t, fw_obj 4 [.int cu, .ref j, .int ((nI q) + te)]) := by rw [hFW3]; exact fw_up_self
  exact fw_vret hx hb hr hlk (Nat.le_of_ble_eq_true rfl) (Nat.le_of_ble_eq_true rfl) hw dX3_begin_23 (by rw [hFW3, hFW2, hFW1, bx_uu, bx_uu])
set_option maxHeartbeats 4000000 in
set_option maxRecDepth 100000 in
theorem c_X5_countCutGear (l : Launch) (G : fw_G) (F : fw_F) (sz : Nat) (b : Nat) (t : fw_T) (vt vm : Nat) (u : Nat) (at9 v4 v5 : Int32) (hF : F b = some (t, fw_obj 6 [.ref vt, .ref vm, .int (nI (u + 1)), .int v4, .int v5])) (hu : u < 1000) : Met l yX5_countCutGear (fw_ws yX5_countCutGear cX5_countCutGear 2 none) { frames := 0, cells := 0, slots := 0, locals := 0 } (va_Pc [.ref b, .int at9] (fw_Pre G F sz)) (va_Qv (fun F1 => F1 = va_up F b (some (t, fw_obj 6 [.ref vt, .ref vm, .int (nI u), .int (if u = 0 then at9 else v4), .int v5]))) (fw_B G (fw_W G F sz)) (fw_W G F sz)) 0 0 (fw_W G F sz) := by
  refine fw_met (lv := [(0, .ref b), (1, .int at9)]) (by decide +kernel) (Nat.le_of_ble_eq_true rfl) rfl ?_
  intro A hA p e s m below meth c ls hx hb hml hown hT hr hlk hin hz hsz hw hAn hl
  rw [← hA]
  have hown : s.vm.findClass RX5 = some m.cls := hown
  have C : CallFix p m c cX5_countCutGear 2 s _ fw_tb RX5 := ⟨hx, hb, hml, hown, hT⟩
  refine lv_aload_n hx hb dX5_countCutGear_0 rfl (lv_at hl 0 rfl) ?_
  refine lv_dup hx hb dX5_countCutGear_1 rfl ?_
  refine fw_get (v := .int (nI (u + 1))) hx hb hT fi_RX5 hown hz hw hF rfl 2 (by decide) (hT _ wd_465) (fun _ h9 => h9) rfl dX5_countCutGear_2 ?_
  refine lv_iconst (v := (nI 1)) hx hb dX5_countCutGear_5 (by decide) ?_
  refine lv_isub hx hb dX5_countCutGear_6 ?_
  refine fw_top (pk_sub (by omega)) ?_
  refine fw_top (x' := (nI u)) (by rw [Nat.add_sub_cancel]) ?_
  refine fw_put (v := .int (nI u)) (fs' := [.ref vt, .ref vm, .int (nI u), .int v4, .int v5]) hx hb hT fi_RX5 tyX5 tyX5_ok nmX5 hown hz hw hF rfl 2 (by decide) (hT _ wd_465) (fun _ h9 => h9) rfl (ty := tyX5 2) (by decide +kernel) rfl rfl (Nat.le_of_ble_eq_true rfl) rfl dX5_countCutGear_7 (fun H locs hw => ?_)
  obtain ⟨W1, hFW1⟩ : ∃ z, z = va_up F b (some (t, fw_obj 6 [.ref vt, .ref vm, .int (nI u), .int v4, .int v5])) := ⟨_, rfl⟩
  rw [← hFW1] at hw
  have k1_s : W1 b = some (t, fw_obj 6 [.ref vt, .ref vm, .int (nI u), .int v4, .int v5]) := by rw [hFW1]; exact fw_up_self
  refine lv_aload_n hx hb dX5_countCutGear_10 rfl (lv_at hl 0 rfl) ?_
  refine fw_get (v := .int (nI u)) hx hb hT fi_RX5 hown hz hw k1_s rfl 2 (by decide) (hT _ wd_465) (fun _ h9 => h9) rfl dX5_countCutGear_11 ?_
  refine lv_if_ne (tgt := 22) hx hb dX5_countCutGear_14 (by decide) (fun d => ?_) (fun d => ?_)
  · have d : ¬ u = 0 := fun h9 => d ((nI_eq (a := u) (b := 0) (by omega) (by omega)).mpr h9)
    exact fw_vret hx hb hr hlk (Nat.le_of_ble_eq_true rfl) (Nat.le_of_ble_eq_true rfl) hw dX5_countCutGear_22 (by rw [hFW1, if_neg d])
  · have d := (nI_eq (a := u) (b := 0) (by omega) (by omega)).mp d
    refine lv_aload_n hx hb dX5_countCutGear_17 rfl (lv_at hl 0 rfl) ?_
    refine lv_iload_n hx hb dX5_countCutGear_18 rfl (lv_at hl 1 rfl) ?_
    refine fw_put (v := .int at9) (fs' := [.ref vt, .ref vm, .int (nI u), .int at9, .int v5]) hx hb hT fi_RX5 tyX5 tyX5_ok nmX5 hown hz hw k1_s rfl 3 (by decide) (hT _ wd_467) (fun _ h9 => h9) rfl (ty := tyX5 3) (by decide +kernel) rfl rfl (Nat.le_of_ble_eq_true rfl) rfl dX5_countCutGear_19 (fun H locs hw => ?_)
    obtain ⟨W2, hFW2⟩ : ∃ z, z = va_up W1 b (some (t, fw_obj 6 [.ref vt, .ref vm, .int (nI u), .int at9, .int v5])) := ⟨_, rfl⟩
    rw [← hFW2] at hw
    have k2_s : W2 b = some (t, fw_obj 6 [.ref vt, .ref vm, .int (nI u), .int at9, .int v5]) := by rw [hFW2]; exact fw_up_self
    exact fw_vret hx hb hr hlk (Nat.le_of_ble_eq_true rfl) (Nat.le_of_ble_eq_true rfl) hw dX5_countCutGear_22 (by rw [hFW2, hFW1, bx_uu, if_pos d])
theorem lc_eq {a b : Nat} (ha : a < 2 ^ 63) (hb : b < 2 ^ 63) : lg_cmp (lN a) (lN b) = 0 ↔ a = b := (lg_cmp_eq _ _).trans (pk_lEQ ha hb)
theorem lc_le {a b : Nat} (ha : a < 2 ^ 63) (hb : b < 2 ^ 63) : lg_cmp (lN a) (lN b) ≤ 0 ↔ a ≤ b := (lg_cmp_le _ _).trans (pk_lLE ha hb)
theorem lN_lit0 : (0 : Int64) = lN 0 := rfl
theorem lN_lit1 : (1 : Int64) = lN 1 := rfl
/-- a step of Euclid's rule halves the product, but for the first -/
theorem eu_step {g r d : Nat} (h0 : 0 < r) (hd : 0 < d) (hp : g * r < 2 ^ (d + 1)) (hle : r ≤ g) : r * (g % r) < 2 ^ d := by
  have h1 : g % r < r := Nat.mod_lt _ h0
  have h2 : r + g % r ≤ g := by
    have h3 := Nat.div_add_mod g r
    have h4 : 1 ≤ g / r := (Nat.le_div_iff_mul_le h0).mpr (by omega)
    have h5 : r * 1 ≤ r * (g / r) := Nat.mul_le_mul_left _ h4
    omega
  have h6 : r * (r + g % r) ≤ r * g := Nat.mul_le_mul_left _ h2
  rw [Nat.mul_add] at h6
  have h7 : r * (g % r) ≤ r * r := Nat.mul_le_mul_left _ (Nat.le_of_lt h1)
  rw [Nat.mul_comm g r, Nat.pow_succ] at hp
  omega
set_option maxHeartbeats 4000000 in
set_option maxRecDepth 100000 in
theorem c_X8_commonDivisor (l : Launch) (G : fw_G) (F : fw_F) (sz : Nat) (a b : Nat) (ha : a < 2 ^ 62) (hb0 : b < 2 ^ 62) (hab : a * b < 2 ^ 98) : Met l yX8_commonDivisor (fw_ws yX8_commonDivisor cX8_commonDivisor 11 (some (.long))) { frames := 0, cells := 0, slots := 0, locals := 0 } (va_Pc [.long (lN a), .long (lN b)] (fw_Pre G F sz)) (va_Ql (fun r F1 => F1 = F ∧ r = lN (Nat.gcd a b)) (fw_B G (fw_W G F sz)) (fw_W G F sz)) 0 0 (fw_W G F sz) := by
  refine fw_met (lv := [(0, .long (lN a)), (2, .long (lN b))]) (by decide +kernel) (Nat.le_of_ble_eq_true rfl) rfl ?_
  intro A hA p e s m below meth c ls hx hb hml hown hT hr hlk hin hz hsz hw hAn hl
  rw [← hA]
  have hown : s.vm.findClass RX8 = some m.cls := hown
  have C : CallFix p m c cX8_commonDivisor 11 s _ fw_tb RX8 := ⟨hx, hb, hml, hown, hT⟩
  refine lv_lload_n hx hb dX8_commonDivisor_0 rfl (lv_at hl 0 rfl) ?_
  refine lv_lstore (lv' := [(4, .long (lN a)), (0, .long (lN a)), (2, .long (lN b))]) hx hb dX8_commonDivisor_1 hl (by decide) rfl (fun ls hl => ?_)
  refine lv_lload_n hx hb dX8_commonDivisor_3 rfl (lv_at hl 2 rfl) ?_
  refine lv_lstore (lv' := [(6, .long (lN b)), (4, .long (lN a)), (0, .long (lN a)), (2, .long (lN b))]) hx hb dX8_commonDivisor_4 hl (by decide) rfl (fun ls hl => ?_)
  refine lv_iconst (v := (nI 0)) hx hb dX8_commonDivisor_6 (by decide) ?_
  refine lv_istore (lv' := [(8, .int (nI 0)), (6, .long (lN b)), (4, .long (lN a)), (0, .long (lN a)), (2, .long (lN b))]) hx hb dX8_commonDivisor_7 hl (by decide) rfl (fun ls hl => ?_)
  suffices hlp : ∀ (d k g1 r1 : Nat), k + d = 99 → g1 < 2 ^ 62 → r1 < 2 ^ 62 → (k = 0 ∧ g1 * r1 < 2 ^ 98 ∨ r1 ≤ g1) → g1 * r1 < 2 ^ d → Nat.gcd g1 r1 = Nat.gcd a b → ∀ (H : Heap) (locs : List Loc) (ls : Array Slot), fw_S G A s F H locs → lv_has ls 11 [(8, .int (nI k)), (4, .long (lN g1)), (6, .long (lN r1))] → W p l e { frames := 0, cells := 0, slots := 0, locals := 0 } s m ([.long (lN a), .long (lN b)] : List Value).toArray below meth c H locs 0 0 (MQ below (va_Ql (fun r F1 => F1 = F ∧ r = lN (Nat.gcd a b)) (fw_B G A) A) ([.long (lN a), .long (lN b)] : List Value).toArray s 0 0 A) (F0 m 9 ls []) by
    exact hlp 99 0 a b rfl ha hb0 (Or.inl ⟨rfl, hab⟩) (Nat.lt_trans hab (by decide)) rfl _ _ _ hw (lv_sub hl [0, 2, 1] rfl)
  intro d
  induction d with
  | zero =>
    intro k g1 r1 hk h2 h3 h4 h5 h6 H locs ls hw hl
    refine lv_iload hx hb dX8_commonDivisor_9 (lv_at hl 0 rfl) ?_
    refine lv_bipush (v := (nI 100)) hx hb dX8_commonDivisor_11 (by decide) ?_
    refine lv_icmp_ge (tgt := 44) hx hb dX8_commonDivisor_13 (by decide) (fun q => ?_) (fun q => ?_)
    · have q := (nI_leI (a := 100) (b := k) (by omega) (by omega)).mp q
      omega
    · have q : ¬ 100 ≤ k := fun h9 => q ((nI_leI (a := 100) (b := k) (by omega) (by omega)).mpr h9)
      refine lv_lload hx hb dX8_commonDivisor_16 (lv_at hl 2 rfl) ?_
      refine lv_lconst (v := lN 0) hx hb dX8_commonDivisor_18 rfl ?_
      refine W.lcmp hx hb dX8_commonDivisor_19 ?_
      refine lv_if_eq (tgt := 44) hx hb dX8_commonDivisor_20 (by decide) (fun q2 => ?_) (fun q2 => ?_)
      · have hr0 : r1 = 0 := (lc_eq (by omega) (by decide)).mp q2
        refine lv_lload hx hb dX8_commonDivisor_44 (lv_at hl 1 rfl) ?_
        exact fw_lret hx hb hr hlk (Nat.le_of_ble_eq_true rfl) (Nat.le_of_ble_eq_true rfl) hw dX8_commonDivisor_46 (⟨rfl, by rw [← h6, hr0, Nat.gcd_zero_right]⟩)
      · have hr0 : ¬ r1 = 0 := fun h => q2 ((lc_eq (by omega) (by decide)).mpr h)
        have h7 := h4.resolve_left (by omega)
        have h8 : g1 * r1 = 0 := by rw [Nat.pow_zero] at h5; omega
        rcases Nat.mul_eq_zero.mp h8 with h9 | h9 <;> omega
  | succ d ih =>
    intro k g1 r1 hk h2 h3 h4 h5 h6 H locs ls hw hl
    refine lv_iload hx hb dX8_commonDivisor_9 (lv_at hl 0 rfl) ?_
    refine lv_bipush (v := (nI 100)) hx hb dX8_commonDivisor_11 (by decide) ?_
    refine lv_icmp_ge (tgt := 44) hx hb dX8_commonDivisor_13 (by decide) (fun q => ?_) (fun q => ?_)
    · have q := (nI_leI (a := 100) (b := k) (by omega) (by omega)).mp q
      omega
    · have q : ¬ 100 ≤ k := fun h9 => q ((nI_leI (a := 100) (b := k) (by omega) (by omega)).mpr h9)
      refine lv_lload hx hb dX8_commonDivisor_16 (lv_at hl 2 rfl) ?_
      refine lv_lconst (v := lN 0) hx hb dX8_commonDivisor_18 rfl ?_
      refine W.lcmp hx hb dX8_commonDivisor_19 ?_
      refine lv_if_eq (tgt := 44) hx hb dX8_commonDivisor_20 (by decide) (fun q2 => ?_) (fun q2 => ?_)
      · have hr0 : r1 = 0 := (lc_eq (by omega) (by decide)).mp q2
        refine lv_lload hx hb dX8_commonDivisor_44 (lv_at hl 1 rfl) ?_
        exact fw_lret hx hb hr hlk (Nat.le_of_ble_eq_true rfl) (Nat.le_of_ble_eq_true rfl) hw dX8_commonDivisor_46 (⟨rfl, by rw [← h6, hr0, Nat.gcd_zero_right]⟩)
      · have hr0 : ¬ r1 = 0 := fun h => q2 ((lc_eq (by omega) (by decide)).mpr h)
        refine lv_lload hx hb dX8_commonDivisor_23 (lv_at hl 1 rfl) ?_
        refine lv_lload hx hb dX8_commonDivisor_25 (lv_at hl 2 rfl) ?_
        refine lv_lrem hx hb dX8_commonDivisor_27 (fun h => hr0 ((pk_lEQ (a := r1) (b := 0) (by omega) (by decide)).mp h)) ?_
        refine fw_topL (pk_lRem (by omega) (by omega) (by omega)) ?_
        refine lv_lstore (lv' := [(9, .long (lN (g1 % r1))), (8, .int (nI k)), (4, .long (lN g1)), (6, .long (lN r1))]) hx hb dX8_commonDivisor_28 hl (by decide) rfl (fun ls hl => ?_)
        refine lv_lload hx hb dX8_commonDivisor_30 (lv_at hl 3 rfl) ?_
        refine lv_lstore (lv' := [(4, .long (lN r1)), (9, .long (lN (g1 % r1))), (8, .int (nI k)), (6, .long (lN r1))]) hx hb dX8_commonDivisor_32 hl (by decide) rfl (fun ls hl => ?_)
        refine lv_lload hx hb dX8_commonDivisor_34 (lv_at hl 1 rfl) ?_
        refine lv_lstore (lv' := [(6, .long (lN (g1 % r1))), (4, .long (lN r1)), (9, .long (lN (g1 % r1))), (8, .int (nI k))]) hx hb dX8_commonDivisor_36 hl (by decide) rfl (fun ls hl => ?_)
        refine lv_iinc (v := (nI (k + 1))) (lv' := [(8, .int (nI (k + 1))), (6, .long (lN (g1 % r1))), (4, .long (lN r1)), (9, .long (lN (g1 % r1)))]) hx hb dX8_commonDivisor_38 hl (k := 3) rfl (nI_1 _) (by decide) rfl (fun ls hl => ?_)
        refine lv_goto (tgt := 9) hx hb dX8_commonDivisor_41 (by decide) ?_
        have hml9 := Nat.mod_lt g1 (show r1 > 0 by omega)
        have h7 : r1 * (g1 % r1) < 2 ^ d := by
          by_cases hle : r1 ≤ g1
          · cases d with
            | zero => rw [Nat.zero_add] at h5; have h8 : g1 * r1 ≥ 1 * 1 := Nat.mul_le_mul (by omega) (by omega); have : g1 = 1 ∧ r1 = 1 := by
                        constructor
                        · rcases Nat.lt_or_ge g1 2 with q9 | q9; · omega
                          have : 2 * 1 ≤ g1 * r1 := Nat.mul_le_mul q9 (by omega); omega
                        · rcases Nat.lt_or_ge r1 2 with q9 | q9; · omega
                          have : 1 * 2 ≤ g1 * r1 := Nat.mul_le_mul (by omega) q9; omega
                      rw [this.1, this.2]; decide
            | succ d => exact eu_step (by omega) (by omega) h5 hle
          · have hk0 := h4.resolve_right (fun h => hle h)
            rw [Nat.mod_eq_of_lt (by omega), Nat.mul_comm]
            have hd98 : d = 98 := by omega
            subst hd98; exact hk0.2
        exact ih (k + 1) r1 (g1 % r1) (by omega) h3 (by omega) (Or.inr (by omega)) h7 (by rw [← h6, Nat.gcd_comm r1, ← Nat.gcd_rec, Nat.gcd_comm]) _ _ _ hw (lv_sub hl [0, 2, 1] rfl)
