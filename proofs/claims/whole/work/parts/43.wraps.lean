/-! The law's own methods: a call of the class, its answer put down, its exceptions counted. -/
def fw_nc (U : State) : Prop := ∀ E ∈ fw_exs, ∀ E' ∈ fw_exs, E ≠ E' → va_Nc E E' U
theorem fw_nc.to {s U : State} (h : fw_nc s) (hW : s.WarmedH U.vm) : fw_nc U := fun E hE E' hE' hne => (h E hE E' hE' hne).moved hW.alike
def fw_PreL (G : fw_G) (F : fw_F) (sz : Nat) (U : State) : Prop := fw_PreX G F sz U ∧ fw_nc U
abbrev fw_wsW (y : MethodName) (cc : ByteArray) (maxL : Nat) (ret : Option FieldType) (hh : List (Nat × Nat × Nat × Nat)) : List Cond := Cond.codeWith y cc maxL ret hh :: fw_tb
theorem fw_metW {l : Launch} {y : MethodName} {rm : Room} {Qc : Array Value → State → Outcome → State → Prop} {mc ms : Nat} {cc : ByteArray} {maxL : Nat} {ret : Option FieldType} {hh : List (Nat × Nat × Nat × Nat)} {G : fw_G} {F : fw_F} {sz : Nat} {As : List Value} {lv : List (Nat × Value)}
    (hy : plainName y.cls = true) (hlen : (lg_sl As).length ≤ maxL) (hlv : lv_args 0 As = lv)
    (body : ∀ (A : Nat → Prop), A = fw_W G F sz → ∀ (p : Program) (e : Env) (s : State) (m : MethodId) (below : List Frame) (meth : Method) (c : Code) (ls : Array Slot), p.tables.exec = Jvm.exec → c.code = cc → c.maxLocals = maxL → s.vm.findClass y.cls = some m.cls → (∀ w ∈ fw_tb, w.before As.toArray s = true) → meth.sig.returnType = ret → meth.locks = false → c.exceptionTable.toList = tableOf hh → fw_cx s → fw_nc s → fw_Z G A s s.heap → s.heap.size = sz → fw_S G A s F s.heap [] → (∀ q, s.heap.size ≤ q → A q) → lv_has ls maxL lv →
      W p l e rm s m As.toArray below meth c s.heap [] 0 0 (MQ below Qc As.toArray s mc ms A) (F0 m 0 ls [])) : Met l y (fw_wsW y cc maxL ret hh) rm (va_Pc As (fw_PreL G F sz)) Qc mc ms (fw_W G F sz) := by
  refine va_MetW (cc := cc) (maxL := maxL) (ret := ret) (hh := hh) hy rfl ?_
  intro p e s m args below meth c s₁ B hml hv
  obtain ⟨rfl, ⟨⟨⟨hsz, hP, hZ⟩, hcx⟩, hnc⟩⟩ := hv
  subst hsz
  have hts := atoms_spec (ws := fw_wsW y cc maxL ret hh) B.pre
  have hl := lv_entry As (n := maxL) hlen
  rw [lg_entry_eq]
  generalize (lg_sl As ++ List.replicate (maxL - (lg_sl As).length) Slot.unset).toArray = ls at hl ⊢
  rw [hlv] at hl
  exact body _ rfl p e s m below meth c ls B.exec B.bytes hml (findClass_of_methodNamed B.named) (fun w hw => hts w (List.mem_cons_of_mem _ hw)) B.returns B.notSynchronized (vx_table (x := y) B (hts _ List.mem_cons_self)) hcx hnc hZ rfl (fw_S.start hP) (fun q hq => Or.inr (Or.inr hq)) hl
section FWH
variable {p : Program} {l : Launch} {e : Env} {R : Room} {s : State} {m : MethodId} {args : Array Value} {below : List Frame} {meth : Method} {c : Code} {H : Heap} {locs : List Loc} {cells slots : Nat} {Q : State → Prop}
variable {cc : ByteArray} {pc mc ms : Nat} {ls : Array Slot} {rest st0 : List Value} {G : fw_G} {A : Nat → Prop} {F : fw_F}
theorem fw_hcalli {post : Int32 → fw_F → Prop} {PX : String → Prop} {as : Array Value} (hr : vx_Run p l e R s m args below meth c H locs cells slots mc ms (F0 m pc ls st0) rest (va_Qi post (fw_B G (fw_A G F H)) (fw_A G F H) as) (fw_xc G (fw_A G F H) F PX) (fw_A G F H)) (hw : fw_S G A s F H locs)
    (kx : ∀ (E : String) (ce : Cell) (q9 : Addr) (H1 : Heap) (locs1 : List Loc), fw_S G A s F H1 locs1 → PX E → H1[q9]? = some ce → ce.vm = .none → s.vm.findClass E = some ce.cls → vx_W p l e R s m args below meth c H1 locs1 (cells + mc) (slots + ms) Q (F0 m pc ls rest) q9)
    (kk : ∀ (r : Int32) (F1 : fw_F) (H1 : Heap) (locs1 : List Loc), fw_S G A s F1 H1 locs1 → post r F1 → W p l e R s m args below meth c H1 locs1 (cells + mc) (slots + ms) Q (F0 m (pc + 3) ls (.int r :: rest))) : W p l e R s m args below meth c H locs cells slots Q (F0 m pc ls st0) := by
  intro T hT X
  rcases hr T hT X with ⟨v, st₀, t, T', L, h0, X', hL, e1, e2, ⟨⟨r, u, hv, hp, hb⟩, hF⟩, st⟩ | ⟨q, st₀, t, T', L, E, ce, h0, X', hL, e1, e2, ⟨u, hu, hb, hF⟩, hce, hcv, hcl, st⟩
  · cases hv
    obtain ⟨k1, k2, k3⟩ := vx_keep h0 e1 hw.2.1 hw.stepA.1 hw.stepA.2 hL hF
    obtain ⟨t2, a1, b1⟩ := kk r u T'.heap (locs ++ L) (fw_after (post := fun _ => True) hw e1.symm hb k3) hp T' rfl X'
    exact ⟨t2, st t2 a1, b1⟩
  · have hu : u = F := hu
    subst hu
    obtain ⟨k1, k2, k3⟩ := vx_keep h0 e1 hw.2.1 hw.stepA.1 hw.stepA.2 hL hF
    obtain ⟨t2, a1, b1⟩ := kx E ce q T'.heap (locs ++ L) (fw_after (post := fun _ => True) hw e1.symm hb.2 k3) hb.1 (by rw [e1]; exact hce) hcv hcl T' rfl X'
    exact ⟨t2, st.trans a1, b1⟩
end FWH
theorem fw_cxc {args : Array Value} {s : State} (h : fw_cx s) {E : String} (hE : E ∈ fw_exs) : (Cond.castable E E).before args s = true := va_Nw.use rfl (h.2.2.2 E hE)
set_option maxHeartbeats 4000000 in
set_option maxRecDepth 100000 in
theorem c_L_addCutter (l : Launch) (G : fw_G) (F : fw_F) (sz : Nat) (x o : Nat) (tx : fw_T) (fsx : List Value) (g0 : Nat → Int64) (p0 p1 p2 : Int32) (post : Int32 → fw_F → Prop) (PX : String → Prop) (hx9 : F x = some (tx, fw_obj 9 fsx)) (ho : F o = some ((60, 0, 0), fw_la (fw_cJ G) 1 g0)) (hM : ∀ z, vx_Met l yX8_addCutter (fw_ws yX8_addCutter cX8_addCutter 4 (some (.int))) { frames := 7, cells := 2, slots := 244, locals := 171 } (va_Pc [.ref x, .int p0, .int p1, .int p2] (fw_PreX G F z)) (va_Qi post (fw_B G (fw_W G F z)) (fw_W G F z)) (fw_xc G (fw_W G F z) F PX) 2 244 (fw_W G F z)) (hpx : ∀ E, PX E → E = "java/lang/IllegalArgumentException" ∨ E = "java/lang/IllegalStateException") (hk : ∀ v F2, post v F2 → F2 o = some ((60, 0, 0), fw_la (fw_cJ G) 1 g0)) : Met l yL_addCutter (fw_wsW yL_addCutter cL_addCutter 6 (some (.int)) [(0, 12, 15, 13), (0, 12, 19, 15)]) { frames := 8, cells := 2, slots := 244, locals := 194 } (va_Pc [.ref x, .int p0, .int p1, .int p2, .ref o] (fw_PreL G F sz)) (va_Qi (fun r F1 => (r = nI 0 ∧ ∃ v F2, post v F2 ∧ F1 = va_up F2 o (some ((60, 0, 0), fw_la (fw_cJ G) 1 (vp_updL g0 0 v.toInt64)))) ∨ (F1 = F ∧ ((PX "java/lang/IllegalArgumentException" ∧ r = nI 1) ∨ (PX "java/lang/IllegalStateException" ∧ r = nI 2)))) (fw_B G (fw_W G F sz)) (fw_W G F sz)) 2 244 (fw_W G F sz) := by
  refine fw_metW (lv := [(0, .ref x), (1, .int p0), (2, .int p1), (3, .int p2), (4, .ref o)]) (by decide +kernel) (Nat.le_of_ble_eq_true rfl) rfl ?_
  intro A hA p e s m below meth c ls hx hb hml hown hT hr hlk htab hcx hnc hz hsz hw hAn hl
  rw [← hA]
  have hown : s.vm.findClass RL = some m.cls := hown
  have C : CallFix p m c cL_addCutter 6 s _ fw_tb RL := ⟨hx, hb, hml, hown, hT⟩
  refine lv_aload hx hb dL_addCutter_0 (lv_at hl 4 rfl) ?_
  refine lv_iconst (v := (nI 0)) hx hb dL_addCutter_2 (by decide) ?_
  refine lv_aload_n hx hb dL_addCutter_3 rfl (lv_at hl 0 rfl) ?_
  refine lv_iload_n hx hb dL_addCutter_4 rfl (lv_at hl 1 rfl) ?_
  refine lv_iload_n hx hb dL_addCutter_5 rfl (lv_at hl 2 rfl) ?_
  refine lv_iload_n hx hb dL_addCutter_6 rfl (lv_at hl 3 rfl) ?_
  refine fw_hcalli (fw_xrunV (As := [.int p0, .int p1, .int p2]) (rest := [.int (nI 0), .ref o]) C hz hcx hw (hM _) (fw_cwV hT wd_221 yVX8_addCutter rfl rfl ⟨Nat.le_of_ble_eq_true rfl, Nat.le_of_ble_eq_true rfl⟩) (fw_rec hz hw hx9 (q := vwCl[9]) rfl) rfl hl.1 rfl (Nat.le_of_ble_eq_true rfl) dL_addCutter_7 ⟨Nat.le_of_ble_eq_true rfl, Nat.le_of_ble_eq_true rfl⟩) hw (fun E ce q9 H locs hw hE hc1 hc2 hc3 => ?_) (fun r F1 H locs hw hp => ?_)
  · rcases hpx E hE with rfl | rfl
    · refine vx_catch (name := "java/lang/IllegalArgumentException") hown [] ⟨0, 12, 15, 13⟩ [⟨0, 12, 19, 15⟩] htab (fun z hz => nomatch hz) rfl (by decide) (hT _ wd_219) (fw_cxc hcx List.mem_cons_self) hc1 hc2 hc3 ?_
      refine lv_astore (lv' := [(5, .ref q9), (0, .ref x), (1, .int p0), (2, .int p1), (3, .int p2), (4, .ref o)]) hx hb dL_addCutter_15 hl (by decide) rfl (fun ls hl => ?_)
      refine lv_iconst (v := (nI 1)) hx hb dL_addCutter_17 (by decide) ?_
      exact fw_iret hx hb hr hlk (Nat.le_of_ble_eq_true rfl) (Nat.le_of_ble_eq_true rfl) hw dL_addCutter_18 (Or.inr ⟨rfl, Or.inl ⟨hE, rfl⟩⟩)
    · refine vx_catch (name := "java/lang/IllegalStateException") hown [⟨0, 12, 15, 13⟩] ⟨0, 12, 19, 15⟩ [] htab (fun z hz => by
        obtain rfl := List.mem_singleton.mp hz
        exact Or.inr ⟨by decide, "java/lang/IllegalArgumentException", hT _ wd_219, hnc _ (List.mem_cons_of_mem _ List.mem_cons_self) _ List.mem_cons_self (by decide)⟩) rfl (by decide) (hT _ wd_220) (fw_cxc hcx (List.mem_cons_of_mem _ List.mem_cons_self)) hc1 hc2 hc3 ?_
      refine lv_astore (lv' := [(5, .ref q9), (0, .ref x), (1, .int p0), (2, .int p1), (3, .int p2), (4, .ref o)]) hx hb dL_addCutter_19 hl (by decide) rfl (fun ls hl => ?_)
      refine lv_iconst (v := (nI 2)) hx hb dL_addCutter_21 (by decide) ?_
      exact fw_iret hx hb hr hlk (Nat.le_of_ble_eq_true rfl) (Nat.le_of_ble_eq_true rfl) hw dL_addCutter_22 (Or.inr ⟨rfl, Or.inr (⟨hE, rfl⟩)⟩)
  · refine lv_i2l (v := r.toInt64) hx hb dL_addCutter_10 rfl ?_
    refine fw_last hx hb hz hw (hk r F1 hp) (i := nI 0) (vp_in_nI (by decide) (by decide)) dL_addCutter_11 (fun H locs hw => ?_)
    rw [show (nI 0).toNatClampNeg = 0 from nI_clamp (by decide)] at hw
    refine lv_goto (tgt := 23) hx hb dL_addCutter_12 (by decide) ?_
    refine lv_iconst (v := (nI 0)) hx hb dL_addCutter_23 (by decide) ?_
    exact fw_iret hx hb hr hlk (Nat.le_of_ble_eq_true rfl) (Nat.le_of_ble_eq_true rfl) hw dL_addCutter_24 (Or.inl ⟨rfl, r, F1, hp, rfl⟩)
set_option maxHeartbeats 4000000 in
set_option maxRecDepth 100000 in
theorem c_L_cutterFor (l : Launch) (G : fw_G) (F : fw_F) (sz : Nat) (x o : Nat) (tx : fw_T) (fsx : List Value) (g0 : Nat → Int64) (p0 p1 : Int32) (post : Int32 → fw_F → Prop) (PX : String → Prop) (hx9 : F x = some (tx, fw_obj 9 fsx)) (ho : F o = some ((60, 0, 0), fw_la (fw_cJ G) 1 g0)) (hM : ∀ z, vx_Met l yX8_cutterFor (fw_ws yX8_cutterFor cX8_cutterFor 3 (some (.int))) { frames := 7, cells := 1, slots := 6, locals := 120 } (va_Pc [.ref x, .int p0, .int p1] (fw_PreX G F z)) (va_Qi post (fw_B G (fw_W G F z)) (fw_W G F z)) (fw_xc G (fw_W G F z) F PX) 1 6 (fw_W G F z)) (hpx : ∀ E, PX E → E = "java/lang/IllegalArgumentException") (hk : ∀ v F2, post v F2 → F2 o = some ((60, 0, 0), fw_la (fw_cJ G) 1 g0)) : Met l yL_cutterFor (fw_wsW yL_cutterFor cL_cutterFor 5 (some (.int)) [(0, 10, 13, 13)]) { frames := 8, cells := 1, slots := 6, locals := 142 } (va_Pc [.ref x, .int p0, .int p1, .ref o] (fw_PreL G F sz)) (va_Qi (fun r F1 => (r = nI 0 ∧ ∃ v F2, post v F2 ∧ F1 = va_up F2 o (some ((60, 0, 0), fw_la (fw_cJ G) 1 (vp_updL g0 0 v.toInt64)))) ∨ (F1 = F ∧ ((PX "java/lang/IllegalArgumentException" ∧ r = nI 1)))) (fw_B G (fw_W G F sz)) (fw_W G F sz)) 1 6 (fw_W G F sz) := by
  refine fw_metW (lv := [(0, .ref x), (1, .int p0), (2, .int p1), (3, .ref o)]) (by decide +kernel) (Nat.le_of_ble_eq_true rfl) rfl ?_
  intro A hA p e s m below meth c ls hx hb hml hown hT hr hlk htab hcx hnc hz hsz hw hAn hl
  rw [← hA]
  have hown : s.vm.findClass RL = some m.cls := hown
  have C : CallFix p m c cL_cutterFor 5 s _ fw_tb RL := ⟨hx, hb, hml, hown, hT⟩
  refine lv_aload_n hx hb dL_cutterFor_0 rfl (lv_at hl 3 rfl) ?_
  refine lv_iconst (v := (nI 0)) hx hb dL_cutterFor_1 (by decide) ?_
  refine lv_aload_n hx hb dL_cutterFor_2 rfl (lv_at hl 0 rfl) ?_
  refine lv_iload_n hx hb dL_cutterFor_3 rfl (lv_at hl 1 rfl) ?_
  refine lv_iload_n hx hb dL_cutterFor_4 rfl (lv_at hl 2 rfl) ?_
  refine fw_hcalli (fw_xrunV (As := [.int p0, .int p1]) (rest := [.int (nI 0), .ref o]) C hz hcx hw (hM _) (fw_cwV hT wd_337 yVX8_cutterFor rfl rfl ⟨Nat.le_of_ble_eq_true rfl, Nat.le_of_ble_eq_true rfl⟩) (fw_rec hz hw hx9 (q := vwCl[9]) rfl) rfl hl.1 rfl (Nat.le_of_ble_eq_true rfl) dL_cutterFor_5 ⟨Nat.le_of_ble_eq_true rfl, Nat.le_of_ble_eq_true rfl⟩) hw (fun E ce q9 H locs hw hE hc1 hc2 hc3 => ?_) (fun r F1 H locs hw hp => ?_)
  · obtain rfl := hpx E hE
    refine vx_catch (name := "java/lang/IllegalArgumentException") hown [] ⟨0, 10, 13, 13⟩ [] htab (fun z hz => nomatch hz) rfl (by decide) (hT _ wd_219) (fw_cxc hcx List.mem_cons_self) hc1 hc2 hc3 ?_
    refine lv_astore (lv' := [(4, .ref q9), (0, .ref x), (1, .int p0), (2, .int p1), (3, .ref o)]) hx hb dL_cutterFor_13 hl (by decide) rfl (fun ls hl => ?_)
    refine lv_iconst (v := (nI 1)) hx hb dL_cutterFor_15 (by decide) ?_
    exact fw_iret hx hb hr hlk (Nat.le_of_ble_eq_true rfl) (Nat.le_of_ble_eq_true rfl) hw dL_cutterFor_16 (Or.inr ⟨rfl, ⟨hE, rfl⟩⟩)
  · refine lv_i2l (v := r.toInt64) hx hb dL_cutterFor_8 rfl ?_
    refine fw_last hx hb hz hw (hk r F1 hp) (i := nI 0) (vp_in_nI (by decide) (by decide)) dL_cutterFor_9 (fun H locs hw => ?_)
    rw [show (nI 0).toNatClampNeg = 0 from nI_clamp (by decide)] at hw
    refine lv_goto (tgt := 17) hx hb dL_cutterFor_10 (by decide) ?_
    refine lv_iconst (v := (nI 0)) hx hb dL_cutterFor_17 (by decide) ?_
    exact fw_iret hx hb hr hlk (Nat.le_of_ble_eq_true rfl) (Nat.le_of_ble_eq_true rfl) hw dL_cutterFor_18 (Or.inl ⟨rfl, r, F1, hp, rfl⟩)
set_option maxHeartbeats 4000000 in
set_option maxRecDepth 100000 in
theorem c_L_stage (l : Launch) (G : fw_G) (F : fw_F) (sz : Nat) (x o : Nat) (tx : fw_T) (fsx : List Value) (g0 : Nat → Int64) (p0 p1 p2 : Int32) (post : Int32 → fw_F → Prop) (PX : String → Prop) (hx9 : F x = some (tx, fw_obj 9 fsx)) (ho : F o = some ((60, 0, 0), fw_la (fw_cJ G) 1 g0)) (hM : ∀ z, vx_Met l yX8_stage (fw_ws yX8_stage cX8_stage 4 (some (.int))) { frames := 8, cells := 3, slots := 250, locals := 192 } (va_Pc [.ref x, .int p0, .int p1, .int p2] (fw_PreX G F z)) (va_Qi post (fw_B G (fw_W G F z)) (fw_W G F z)) (fw_xc G (fw_W G F z) F PX) 3 250 (fw_W G F z)) (hpx : ∀ E, PX E → E = "java/lang/IllegalArgumentException" ∨ E = "java/lang/IllegalStateException") (hk : ∀ v F2, post v F2 → F2 o = some ((60, 0, 0), fw_la (fw_cJ G) 1 g0)) : Met l yL_stage (fw_wsW yL_stage cL_stage 6 (some (.int)) [(0, 12, 15, 13), (0, 12, 19, 15)]) { frames := 9, cells := 3, slots := 250, locals := 215 } (va_Pc [.ref x, .int p0, .int p1, .int p2, .ref o] (fw_PreL G F sz)) (va_Qi (fun r F1 => (r = nI 0 ∧ ∃ v F2, post v F2 ∧ F1 = va_up F2 o (some ((60, 0, 0), fw_la (fw_cJ G) 1 (vp_updL g0 0 v.toInt64)))) ∨ (F1 = F ∧ ((PX "java/lang/IllegalArgumentException" ∧ r = nI 1) ∨ (PX "java/lang/IllegalStateException" ∧ r = nI 2)))) (fw_B G (fw_W G F sz)) (fw_W G F sz)) 3 250 (fw_W G F sz) := by
  refine fw_metW (lv := [(0, .ref x), (1, .int p0), (2, .int p1), (3, .int p2), (4, .ref o)]) (by decide +kernel) (Nat.le_of_ble_eq_true rfl) rfl ?_
  intro A hA p e s m below meth c ls hx hb hml hown hT hr hlk htab hcx hnc hz hsz hw hAn hl
  rw [← hA]
  have hown : s.vm.findClass RL = some m.cls := hown
  have C : CallFix p m c cL_stage 6 s _ fw_tb RL := ⟨hx, hb, hml, hown, hT⟩
  refine lv_aload hx hb dL_stage_0 (lv_at hl 4 rfl) ?_
  refine lv_iconst (v := (nI 0)) hx hb dL_stage_2 (by decide) ?_
  refine lv_aload_n hx hb dL_stage_3 rfl (lv_at hl 0 rfl) ?_
  refine lv_iload_n hx hb dL_stage_4 rfl (lv_at hl 1 rfl) ?_
  refine lv_iload_n hx hb dL_stage_5 rfl (lv_at hl 2 rfl) ?_
  refine lv_iload_n hx hb dL_stage_6 rfl (lv_at hl 3 rfl) ?_
  refine fw_hcalli (fw_xrunV (As := [.int p0, .int p1, .int p2]) (rest := [.int (nI 0), .ref o]) C hz hcx hw (hM _) (fw_cwV hT wd_367 yVX8_stage rfl rfl ⟨Nat.le_of_ble_eq_true rfl, Nat.le_of_ble_eq_true rfl⟩) (fw_rec hz hw hx9 (q := vwCl[9]) rfl) rfl hl.1 rfl (Nat.le_of_ble_eq_true rfl) dL_stage_7 ⟨Nat.le_of_ble_eq_true rfl, Nat.le_of_ble_eq_true rfl⟩) hw (fun E ce q9 H locs hw hE hc1 hc2 hc3 => ?_) (fun r F1 H locs hw hp => ?_)
  · rcases hpx E hE with rfl | rfl
    · refine vx_catch (name := "java/lang/IllegalArgumentException") hown [] ⟨0, 12, 15, 13⟩ [⟨0, 12, 19, 15⟩] htab (fun z hz => nomatch hz) rfl (by decide) (hT _ wd_219) (fw_cxc hcx List.mem_cons_self) hc1 hc2 hc3 ?_
      refine lv_astore (lv' := [(5, .ref q9), (0, .ref x), (1, .int p0), (2, .int p1), (3, .int p2), (4, .ref o)]) hx hb dL_stage_15 hl (by decide) rfl (fun ls hl => ?_)
      refine lv_iconst (v := (nI 1)) hx hb dL_stage_17 (by decide) ?_
      exact fw_iret hx hb hr hlk (Nat.le_of_ble_eq_true rfl) (Nat.le_of_ble_eq_true rfl) hw dL_stage_18 (Or.inr ⟨rfl, Or.inl ⟨hE, rfl⟩⟩)
    · refine vx_catch (name := "java/lang/IllegalStateException") hown [⟨0, 12, 15, 13⟩] ⟨0, 12, 19, 15⟩ [] htab (fun z hz => by
        obtain rfl := List.mem_singleton.mp hz
        exact Or.inr ⟨by decide, "java/lang/IllegalArgumentException", hT _ wd_219, hnc _ (List.mem_cons_of_mem _ List.mem_cons_self) _ List.mem_cons_self (by decide)⟩) rfl (by decide) (hT _ wd_220) (fw_cxc hcx (List.mem_cons_of_mem _ List.mem_cons_self)) hc1 hc2 hc3 ?_
      refine lv_astore (lv' := [(5, .ref q9), (0, .ref x), (1, .int p0), (2, .int p1), (3, .int p2), (4, .ref o)]) hx hb dL_stage_19 hl (by decide) rfl (fun ls hl => ?_)
      refine lv_iconst (v := (nI 2)) hx hb dL_stage_21 (by decide) ?_
      exact fw_iret hx hb hr hlk (Nat.le_of_ble_eq_true rfl) (Nat.le_of_ble_eq_true rfl) hw dL_stage_22 (Or.inr ⟨rfl, Or.inr (⟨hE, rfl⟩)⟩)
  · refine lv_i2l (v := r.toInt64) hx hb dL_stage_10 rfl ?_
    refine fw_last hx hb hz hw (hk r F1 hp) (i := nI 0) (vp_in_nI (by decide) (by decide)) dL_stage_11 (fun H locs hw => ?_)
    rw [show (nI 0).toNatClampNeg = 0 from nI_clamp (by decide)] at hw
    refine lv_goto (tgt := 23) hx hb dL_stage_12 (by decide) ?_
    refine lv_iconst (v := (nI 0)) hx hb dL_stage_23 (by decide) ?_
    exact fw_iret hx hb hr hlk (Nat.le_of_ble_eq_true rfl) (Nat.le_of_ble_eq_true rfl) hw dL_stage_24 (Or.inl ⟨rfl, r, F1, hp, rfl⟩)
set_option maxHeartbeats 4000000 in
set_option maxRecDepth 100000 in
theorem c_L_make (l : Launch) (G : fw_G) (F : fw_F) (sz : Nat) (x o : Nat) (tx : fw_T) (fsx : List Value) (g0 : Nat → Int64) (p0 : Int32) (post : Int32 → fw_F → Prop) (PX : String → Prop) (hx9 : F x = some (tx, fw_obj 9 fsx)) (ho : F o = some ((60, 0, 0), fw_la (fw_cJ G) 1 g0)) (hM : ∀ z, vx_Met l yX8_make (fw_ws yX8_make cX8_make 2 (some (.int))) { frames := 7, cells := 5, slots := 260, locals := 171 } (va_Pc [.ref x, .int p0] (fw_PreX G F z)) (va_Qi post (fw_B G (fw_W G F z)) (fw_W G F z)) (fw_xc G (fw_W G F z) F PX) 5 260 (fw_W G F z)) (hpx : ∀ E, PX E → E = "java/lang/IllegalStateException") (hk : ∀ v F2, post v F2 → F2 o = some ((60, 0, 0), fw_la (fw_cJ G) 1 g0)) : Met l yL_make (fw_wsW yL_make cL_make 4 (some (.int)) [(0, 9, 12, 15)]) { frames := 8, cells := 5, slots := 260, locals := 192 } (va_Pc [.ref x, .int p0, .ref o] (fw_PreL G F sz)) (va_Qi (fun r F1 => (r = nI 0 ∧ ∃ v F2, post v F2 ∧ F1 = va_up F2 o (some ((60, 0, 0), fw_la (fw_cJ G) 1 (vp_updL g0 0 v.toInt64)))) ∨ (F1 = F ∧ ((PX "java/lang/IllegalStateException" ∧ r = nI 1)))) (fw_B G (fw_W G F sz)) (fw_W G F sz)) 5 260 (fw_W G F sz) := by
  refine fw_metW (lv := [(0, .ref x), (1, .int p0), (2, .ref o)]) (by decide +kernel) (Nat.le_of_ble_eq_true rfl) rfl ?_
  intro A hA p e s m below meth c ls hx hb hml hown hT hr hlk htab hcx hnc hz hsz hw hAn hl
  rw [← hA]
  have hown : s.vm.findClass RL = some m.cls := hown
  have C : CallFix p m c cL_make 4 s _ fw_tb RL := ⟨hx, hb, hml, hown, hT⟩
  refine lv_aload_n hx hb dL_make_0 rfl (lv_at hl 2 rfl) ?_
  refine lv_iconst (v := (nI 0)) hx hb dL_make_1 (by decide) ?_
  refine lv_aload_n hx hb dL_make_2 rfl (lv_at hl 0 rfl) ?_
  refine lv_iload_n hx hb dL_make_3 rfl (lv_at hl 1 rfl) ?_
  refine fw_hcalli (fw_xrunV (As := [.int p0]) (rest := [.int (nI 0), .ref o]) C hz hcx hw (hM _) (fw_cwV hT wd_417 yVX8_make rfl rfl ⟨Nat.le_of_ble_eq_true rfl, Nat.le_of_ble_eq_true rfl⟩) (fw_rec hz hw hx9 (q := vwCl[9]) rfl) rfl hl.1 rfl (Nat.le_of_ble_eq_true rfl) dL_make_4 ⟨Nat.le_of_ble_eq_true rfl, Nat.le_of_ble_eq_true rfl⟩) hw (fun E ce q9 H locs hw hE hc1 hc2 hc3 => ?_) (fun r F1 H locs hw hp => ?_)
  · obtain rfl := hpx E hE
    refine vx_catch (name := "java/lang/IllegalStateException") hown [] ⟨0, 9, 12, 15⟩ [] htab (fun z hz => nomatch hz) rfl (by decide) (hT _ wd_220) (fw_cxc hcx (List.mem_cons_of_mem _ List.mem_cons_self)) hc1 hc2 hc3 ?_
    refine lv_astore_n (lv' := [(3, .ref q9), (0, .ref x), (1, .int p0), (2, .ref o)]) hx hb dL_make_12 rfl hl (by decide) rfl (fun ls hl => ?_)
    refine lv_iconst (v := (nI 1)) hx hb dL_make_13 (by decide) ?_
    exact fw_iret hx hb hr hlk (Nat.le_of_ble_eq_true rfl) (Nat.le_of_ble_eq_true rfl) hw dL_make_14 (Or.inr ⟨rfl, ⟨hE, rfl⟩⟩)
  · refine lv_i2l (v := r.toInt64) hx hb dL_make_7 rfl ?_
    refine fw_last hx hb hz hw (hk r F1 hp) (i := nI 0) (vp_in_nI (by decide) (by decide)) dL_make_8 (fun H locs hw => ?_)
    rw [show (nI 0).toNatClampNeg = 0 from nI_clamp (by decide)] at hw
    refine lv_goto (tgt := 15) hx hb dL_make_9 (by decide) ?_
    refine lv_iconst (v := (nI 0)) hx hb dL_make_15 (by decide) ?_
    exact fw_iret hx hb hr hlk (Nat.le_of_ble_eq_true rfl) (Nat.le_of_ble_eq_true rfl) hw dL_make_16 (Or.inl ⟨rfl, r, F1, hp, rfl⟩)
set_option maxHeartbeats 4000000 in
set_option maxRecDepth 100000 in
theorem c_L_numerator (l : Launch) (G : fw_G) (F : fw_F) (sz : Nat) (x o : Nat) (tx : fw_T) (fsx : List Value) (g0 : Nat → Int64) (p0 : Int32) (post : Int32 → fw_F → Prop) (PX : String → Prop) (hx9 : F x = some (tx, fw_obj 9 fsx)) (ho : F o = some ((60, 0, 0), fw_la (fw_cJ G) 1 g0)) (hM : ∀ z, vx_Met l yX8_numerator (fw_ws yX8_numerator cX8_numerator 2 (some (.int))) { frames := 8, cells := 1, slots := 6, locals := 141 } (va_Pc [.ref x, .int p0] (fw_PreX G F z)) (va_Qi post (fw_B G (fw_W G F z)) (fw_W G F z)) (fw_xc G (fw_W G F z) F PX) 1 6 (fw_W G F z)) (hpx : ∀ E, PX E → E = "java/lang/IndexOutOfBoundsException") (hk : ∀ v F2, post v F2 → F2 o = some ((60, 0, 0), fw_la (fw_cJ G) 1 g0)) : Met l yL_numerator (fw_wsW yL_numerator cL_numerator 4 (some (.int)) [(0, 9, 12, 31)]) { frames := 9, cells := 1, slots := 6, locals := 162 } (va_Pc [.ref x, .int p0, .ref o] (fw_PreL G F sz)) (va_Qi (fun r F1 => (r = nI 0 ∧ ∃ v F2, post v F2 ∧ F1 = va_up F2 o (some ((60, 0, 0), fw_la (fw_cJ G) 1 (vp_updL g0 0 v.toInt64)))) ∨ (F1 = F ∧ ((PX "java/lang/IndexOutOfBoundsException" ∧ r = nI 1)))) (fw_B G (fw_W G F sz)) (fw_W G F sz)) 1 6 (fw_W G F sz) := by
  refine fw_metW (lv := [(0, .ref x), (1, .int p0), (2, .ref o)]) (by decide +kernel) (Nat.le_of_ble_eq_true rfl) rfl ?_
  intro A hA p e s m below meth c ls hx hb hml hown hT hr hlk htab hcx hnc hz hsz hw hAn hl
  rw [← hA]
  have hown : s.vm.findClass RL = some m.cls := hown
  have C : CallFix p m c cL_numerator 4 s _ fw_tb RL := ⟨hx, hb, hml, hown, hT⟩
  refine lv_aload_n hx hb dL_numerator_0 rfl (lv_at hl 2 rfl) ?_
  refine lv_iconst (v := (nI 0)) hx hb dL_numerator_1 (by decide) ?_
  refine lv_aload_n hx hb dL_numerator_2 rfl (lv_at hl 0 rfl) ?_
  refine lv_iload_n hx hb dL_numerator_3 rfl (lv_at hl 1 rfl) ?_
  refine fw_hcalli (fw_xrunV (As := [.int p0]) (rest := [.int (nI 0), .ref o]) C hz hcx hw (hM _) (fw_cwV hT wd_437 yVX8_numerator rfl rfl ⟨Nat.le_of_ble_eq_true rfl, Nat.le_of_ble_eq_true rfl⟩) (fw_rec hz hw hx9 (q := vwCl[9]) rfl) rfl hl.1 rfl (Nat.le_of_ble_eq_true rfl) dL_numerator_4 ⟨Nat.le_of_ble_eq_true rfl, Nat.le_of_ble_eq_true rfl⟩) hw (fun E ce q9 H locs hw hE hc1 hc2 hc3 => ?_) (fun r F1 H locs hw hp => ?_)
  · obtain rfl := hpx E hE
    refine vx_catch (name := "java/lang/IndexOutOfBoundsException") hown [] ⟨0, 9, 12, 31⟩ [] htab (fun z hz => nomatch hz) rfl (by decide) (hT _ wd_436) (fw_cxc hcx (List.mem_cons_of_mem _ (List.mem_cons_of_mem _ List.mem_cons_self))) hc1 hc2 hc3 ?_
    refine lv_astore_n (lv' := [(3, .ref q9), (0, .ref x), (1, .int p0), (2, .ref o)]) hx hb dL_numerator_12 rfl hl (by decide) rfl (fun ls hl => ?_)
    refine lv_iconst (v := (nI 1)) hx hb dL_numerator_13 (by decide) ?_
    exact fw_iret hx hb hr hlk (Nat.le_of_ble_eq_true rfl) (Nat.le_of_ble_eq_true rfl) hw dL_numerator_14 (Or.inr ⟨rfl, ⟨hE, rfl⟩⟩)
  · refine lv_i2l (v := r.toInt64) hx hb dL_numerator_7 rfl ?_
    refine fw_last hx hb hz hw (hk r F1 hp) (i := nI 0) (vp_in_nI (by decide) (by decide)) dL_numerator_8 (fun H locs hw => ?_)
    rw [show (nI 0).toNatClampNeg = 0 from nI_clamp (by decide)] at hw
    refine lv_goto (tgt := 15) hx hb dL_numerator_9 (by decide) ?_
    refine lv_iconst (v := (nI 0)) hx hb dL_numerator_15 (by decide) ?_
    exact fw_iret hx hb hr hlk (Nat.le_of_ble_eq_true rfl) (Nat.le_of_ble_eq_true rfl) hw dL_numerator_16 (Or.inl ⟨rfl, r, F1, hp, rfl⟩)
set_option maxHeartbeats 4000000 in
set_option maxRecDepth 100000 in
theorem c_L_denominator (l : Launch) (G : fw_G) (F : fw_F) (sz : Nat) (x o : Nat) (tx : fw_T) (fsx : List Value) (g0 : Nat → Int64) (p0 : Int32) (post : Int32 → fw_F → Prop) (PX : String → Prop) (hx9 : F x = some (tx, fw_obj 9 fsx)) (ho : F o = some ((60, 0, 0), fw_la (fw_cJ G) 1 g0)) (hM : ∀ z, vx_Met l yX8_denominator (fw_ws yX8_denominator cX8_denominator 2 (some (.int))) { frames := 8, cells := 1, slots := 6, locals := 141 } (va_Pc [.ref x, .int p0] (fw_PreX G F z)) (va_Qi post (fw_B G (fw_W G F z)) (fw_W G F z)) (fw_xc G (fw_W G F z) F PX) 1 6 (fw_W G F z)) (hpx : ∀ E, PX E → E = "java/lang/IndexOutOfBoundsException") (hk : ∀ v F2, post v F2 → F2 o = some ((60, 0, 0), fw_la (fw_cJ G) 1 g0)) : Met l yL_denominator (fw_wsW yL_denominator cL_denominator 4 (some (.int)) [(0, 9, 12, 31)]) { frames := 9, cells := 1, slots := 6, locals := 162 } (va_Pc [.ref x, .int p0, .ref o] (fw_PreL G F sz)) (va_Qi (fun r F1 => (r = nI 0 ∧ ∃ v F2, post v F2 ∧ F1 = va_up F2 o (some ((60, 0, 0), fw_la (fw_cJ G) 1 (vp_updL g0 0 v.toInt64)))) ∨ (F1 = F ∧ ((PX "java/lang/IndexOutOfBoundsException" ∧ r = nI 1)))) (fw_B G (fw_W G F sz)) (fw_W G F sz)) 1 6 (fw_W G F sz) := by
  refine fw_metW (lv := [(0, .ref x), (1, .int p0), (2, .ref o)]) (by decide +kernel) (Nat.le_of_ble_eq_true rfl) rfl ?_
  intro A hA p e s m below meth c ls hx hb hml hown hT hr hlk htab hcx hnc hz hsz hw hAn hl
  rw [← hA]
  have hown : s.vm.findClass RL = some m.cls := hown
  have C : CallFix p m c cL_denominator 4 s _ fw_tb RL := ⟨hx, hb, hml, hown, hT⟩
  refine lv_aload_n hx hb dL_denominator_0 rfl (lv_at hl 2 rfl) ?_
  refine lv_iconst (v := (nI 0)) hx hb dL_denominator_1 (by decide) ?_
  refine lv_aload_n hx hb dL_denominator_2 rfl (lv_at hl 0 rfl) ?_
  refine lv_iload_n hx hb dL_denominator_3 rfl (lv_at hl 1 rfl) ?_
  refine fw_hcalli (fw_xrunV (As := [.int p0]) (rest := [.int (nI 0), .ref o]) C hz hcx hw (hM _) (fw_cwV hT wd_464 yVX8_denominator rfl rfl ⟨Nat.le_of_ble_eq_true rfl, Nat.le_of_ble_eq_true rfl⟩) (fw_rec hz hw hx9 (q := vwCl[9]) rfl) rfl hl.1 rfl (Nat.le_of_ble_eq_true rfl) dL_denominator_4 ⟨Nat.le_of_ble_eq_true rfl, Nat.le_of_ble_eq_true rfl⟩) hw (fun E ce q9 H locs hw hE hc1 hc2 hc3 => ?_) (fun r F1 H locs hw hp => ?_)
  · obtain rfl := hpx E hE
    refine vx_catch (name := "java/lang/IndexOutOfBoundsException") hown [] ⟨0, 9, 12, 31⟩ [] htab (fun z hz => nomatch hz) rfl (by decide) (hT _ wd_436) (fw_cxc hcx (List.mem_cons_of_mem _ (List.mem_cons_of_mem _ List.mem_cons_self))) hc1 hc2 hc3 ?_
    refine lv_astore_n (lv' := [(3, .ref q9), (0, .ref x), (1, .int p0), (2, .ref o)]) hx hb dL_denominator_12 rfl hl (by decide) rfl (fun ls hl => ?_)
    refine lv_iconst (v := (nI 1)) hx hb dL_denominator_13 (by decide) ?_
    exact fw_iret hx hb hr hlk (Nat.le_of_ble_eq_true rfl) (Nat.le_of_ble_eq_true rfl) hw dL_denominator_14 (Or.inr ⟨rfl, ⟨hE, rfl⟩⟩)
  · refine lv_i2l (v := r.toInt64) hx hb dL_denominator_7 rfl ?_
    refine fw_last hx hb hz hw (hk r F1 hp) (i := nI 0) (vp_in_nI (by decide) (by decide)) dL_denominator_8 (fun H locs hw => ?_)
    rw [show (nI 0).toNatClampNeg = 0 from nI_clamp (by decide)] at hw
    refine lv_goto (tgt := 15) hx hb dL_denominator_9 (by decide) ?_
    refine lv_iconst (v := (nI 0)) hx hb dL_denominator_15 (by decide) ?_
    exact fw_iret hx hb hr hlk (Nat.le_of_ble_eq_true rfl) (Nat.le_of_ble_eq_true rfl) hw dL_denominator_16 (Or.inl ⟨rfl, r, F1, hp, rfl⟩)
set_option maxHeartbeats 4000000 in
set_option maxRecDepth 100000 in
theorem c_L_turned (l : Launch) (G : fw_G) (F : fw_F) (sz : Nat) (x o : Nat) (tx : fw_T) (fsx : List Value) (g0 : Nat → Int64) (p0 p1 : Int32) (post : Int32 → fw_F → Prop) (PX : String → Prop) (hx9 : F x = some (tx, fw_obj 9 fsx)) (ho : F o = some ((60, 0, 0), fw_la (fw_cJ G) 1 g0)) (hM : ∀ z, vx_Met l yX8_turned (fw_ws yX8_turned cX8_turned 5 (some (.int))) { frames := 8, cells := 3, slots := 14, locals := 141 } (va_Pc [.ref x, .int p0, .int p1] (fw_PreX G F z)) (va_Qi post (fw_B G (fw_W G F z)) (fw_W G F z)) (fw_xc G (fw_W G F z) F PX) 3 14 (fw_W G F z)) (hpx : ∀ E, PX E → E = "java/lang/IndexOutOfBoundsException" ∨ E = "java/lang/IllegalArgumentException") (hk : ∀ v F2, post v F2 → F2 o = some ((60, 0, 0), fw_la (fw_cJ G) 1 g0)) : Met l yL_turned (fw_wsW yL_turned cL_turned 5 (some (.int)) [(0, 10, 13, 31), (0, 10, 17, 13)]) { frames := 9, cells := 3, slots := 14, locals := 165 } (va_Pc [.ref x, .int p0, .int p1, .ref o] (fw_PreL G F sz)) (va_Qi (fun r F1 => (r = nI 0 ∧ ∃ v F2, post v F2 ∧ F1 = va_up F2 o (some ((60, 0, 0), fw_la (fw_cJ G) 1 (vp_updL g0 0 v.toInt64)))) ∨ (F1 = F ∧ ((PX "java/lang/IndexOutOfBoundsException" ∧ r = nI 1) ∨ (PX "java/lang/IllegalArgumentException" ∧ r = nI 2)))) (fw_B G (fw_W G F sz)) (fw_W G F sz)) 3 14 (fw_W G F sz) := by
  refine fw_metW (lv := [(0, .ref x), (1, .int p0), (2, .int p1), (3, .ref o)]) (by decide +kernel) (Nat.le_of_ble_eq_true rfl) rfl ?_
  intro A hA p e s m below meth c ls hx hb hml hown hT hr hlk htab hcx hnc hz hsz hw hAn hl
  rw [← hA]
  have hown : s.vm.findClass RL = some m.cls := hown
  have C : CallFix p m c cL_turned 5 s _ fw_tb RL := ⟨hx, hb, hml, hown, hT⟩
  refine lv_aload_n hx hb dL_turned_0 rfl (lv_at hl 3 rfl) ?_
  refine lv_iconst (v := (nI 0)) hx hb dL_turned_1 (by decide) ?_
  refine lv_aload_n hx hb dL_turned_2 rfl (lv_at hl 0 rfl) ?_
  refine lv_iload_n hx hb dL_turned_3 rfl (lv_at hl 1 rfl) ?_
  refine lv_iload_n hx hb dL_turned_4 rfl (lv_at hl 2 rfl) ?_
  refine fw_hcalli (fw_xrunV (As := [.int p0, .int p1]) (rest := [.int (nI 0), .ref o]) C hz hcx hw (hM _) (fw_cwV hT wd_471 yVX8_turned rfl rfl ⟨Nat.le_of_ble_eq_true rfl, Nat.le_of_ble_eq_true rfl⟩) (fw_rec hz hw hx9 (q := vwCl[9]) rfl) rfl hl.1 rfl (Nat.le_of_ble_eq_true rfl) dL_turned_5 ⟨Nat.le_of_ble_eq_true rfl, Nat.le_of_ble_eq_true rfl⟩) hw (fun E ce q9 H locs hw hE hc1 hc2 hc3 => ?_) (fun r F1 H locs hw hp => ?_)
  · rcases hpx E hE with rfl | rfl
    · refine vx_catch (name := "java/lang/IndexOutOfBoundsException") hown [] ⟨0, 10, 13, 31⟩ [⟨0, 10, 17, 13⟩] htab (fun z hz => nomatch hz) rfl (by decide) (hT _ wd_436) (fw_cxc hcx (List.mem_cons_of_mem _ (List.mem_cons_of_mem _ List.mem_cons_self))) hc1 hc2 hc3 ?_
      refine lv_astore (lv' := [(4, .ref q9), (0, .ref x), (1, .int p0), (2, .int p1), (3, .ref o)]) hx hb dL_turned_13 hl (by decide) rfl (fun ls hl => ?_)
      refine lv_iconst (v := (nI 1)) hx hb dL_turned_15 (by decide) ?_
      exact fw_iret hx hb hr hlk (Nat.le_of_ble_eq_true rfl) (Nat.le_of_ble_eq_true rfl) hw dL_turned_16 (Or.inr ⟨rfl, Or.inl ⟨hE, rfl⟩⟩)
    · refine vx_catch (name := "java/lang/IllegalArgumentException") hown [⟨0, 10, 13, 31⟩] ⟨0, 10, 17, 13⟩ [] htab (fun z hz => by
        obtain rfl := List.mem_singleton.mp hz
        exact Or.inr ⟨by decide, "java/lang/IndexOutOfBoundsException", hT _ wd_436, hnc _ List.mem_cons_self _ (List.mem_cons_of_mem _ (List.mem_cons_of_mem _ List.mem_cons_self)) (by decide)⟩) rfl (by decide) (hT _ wd_219) (fw_cxc hcx List.mem_cons_self) hc1 hc2 hc3 ?_
      refine lv_astore (lv' := [(4, .ref q9), (0, .ref x), (1, .int p0), (2, .int p1), (3, .ref o)]) hx hb dL_turned_17 hl (by decide) rfl (fun ls hl => ?_)
      refine lv_iconst (v := (nI 2)) hx hb dL_turned_19 (by decide) ?_
      exact fw_iret hx hb hr hlk (Nat.le_of_ble_eq_true rfl) (Nat.le_of_ble_eq_true rfl) hw dL_turned_20 (Or.inr ⟨rfl, Or.inr (⟨hE, rfl⟩)⟩)
  · refine lv_i2l (v := r.toInt64) hx hb dL_turned_8 rfl ?_
    refine fw_last hx hb hz hw (hk r F1 hp) (i := nI 0) (vp_in_nI (by decide) (by decide)) dL_turned_9 (fun H locs hw => ?_)
    rw [show (nI 0).toNatClampNeg = 0 from nI_clamp (by decide)] at hw
    refine lv_goto (tgt := 21) hx hb dL_turned_10 (by decide) ?_
    refine lv_iconst (v := (nI 0)) hx hb dL_turned_21 (by decide) ?_
    exact fw_iret hx hb hr hlk (Nat.le_of_ble_eq_true rfl) (Nat.le_of_ble_eq_true rfl) hw dL_turned_22 (Or.inl ⟨rfl, r, F1, hp, rfl⟩)
set_option maxHeartbeats 4000000 in
set_option maxRecDepth 100000 in
theorem c_L_turnedByWalk (l : Launch) (G : fw_G) (F : fw_F) (sz : Nat) (x o : Nat) (tx : fw_T) (fsx : List Value) (g0 : Nat → Int64) (p0 p1 : Int32) (post : Int32 → fw_F → Prop) (PX : String → Prop) (hx9 : F x = some (tx, fw_obj 9 fsx)) (ho : F o = some ((60, 0, 0), fw_la (fw_cJ G) 1 g0)) (hM : ∀ z, vx_Met l yX8_turnedByWalk (fw_ws yX8_turnedByWalk cX8_turnedByWalk 6 (some (.int))) { frames := 8, cells := 3, slots := 14, locals := 141 } (va_Pc [.ref x, .int p0, .int p1] (fw_PreX G F z)) (va_Qi post (fw_B G (fw_W G F z)) (fw_W G F z)) (fw_xc G (fw_W G F z) F PX) 3 14 (fw_W G F z)) (hpx : ∀ E, PX E → E = "java/lang/IndexOutOfBoundsException" ∨ E = "java/lang/IllegalArgumentException") (hk : ∀ v F2, post v F2 → F2 o = some ((60, 0, 0), fw_la (fw_cJ G) 1 g0)) : Met l yL_turnedByWalk (fw_wsW yL_turnedByWalk cL_turnedByWalk 5 (some (.int)) [(0, 10, 13, 31), (0, 10, 17, 13)]) { frames := 9, cells := 3, slots := 14, locals := 166 } (va_Pc [.ref x, .int p0, .int p1, .ref o] (fw_PreL G F sz)) (va_Qi (fun r F1 => (r = nI 0 ∧ ∃ v F2, post v F2 ∧ F1 = va_up F2 o (some ((60, 0, 0), fw_la (fw_cJ G) 1 (vp_updL g0 0 v.toInt64)))) ∨ (F1 = F ∧ ((PX "java/lang/IndexOutOfBoundsException" ∧ r = nI 1) ∨ (PX "java/lang/IllegalArgumentException" ∧ r = nI 2)))) (fw_B G (fw_W G F sz)) (fw_W G F sz)) 3 14 (fw_W G F sz) := by
  refine fw_metW (lv := [(0, .ref x), (1, .int p0), (2, .int p1), (3, .ref o)]) (by decide +kernel) (Nat.le_of_ble_eq_true rfl) rfl ?_
  intro A hA p e s m below meth c ls hx hb hml hown hT hr hlk htab hcx hnc hz hsz hw hAn hl
  rw [← hA]
  have hown : s.vm.findClass RL = some m.cls := hown
  have C : CallFix p m c cL_turnedByWalk 5 s _ fw_tb RL := ⟨hx, hb, hml, hown, hT⟩
  refine lv_aload_n hx hb dL_turnedByWalk_0 rfl (lv_at hl 3 rfl) ?_
  refine lv_iconst (v := (nI 0)) hx hb dL_turnedByWalk_1 (by decide) ?_
  refine lv_aload_n hx hb dL_turnedByWalk_2 rfl (lv_at hl 0 rfl) ?_
  refine lv_iload_n hx hb dL_turnedByWalk_3 rfl (lv_at hl 1 rfl) ?_
  refine lv_iload_n hx hb dL_turnedByWalk_4 rfl (lv_at hl 2 rfl) ?_
  refine fw_hcalli (fw_xrunV (As := [.int p0, .int p1]) (rest := [.int (nI 0), .ref o]) C hz hcx hw (hM _) (fw_cwV hT wd_490 yVX8_turnedByWalk rfl rfl ⟨Nat.le_of_ble_eq_true rfl, Nat.le_of_ble_eq_true rfl⟩) (fw_rec hz hw hx9 (q := vwCl[9]) rfl) rfl hl.1 rfl (Nat.le_of_ble_eq_true rfl) dL_turnedByWalk_5 ⟨Nat.le_of_ble_eq_true rfl, Nat.le_of_ble_eq_true rfl⟩) hw (fun E ce q9 H locs hw hE hc1 hc2 hc3 => ?_) (fun r F1 H locs hw hp => ?_)
  · rcases hpx E hE with rfl | rfl
    · refine vx_catch (name := "java/lang/IndexOutOfBoundsException") hown [] ⟨0, 10, 13, 31⟩ [⟨0, 10, 17, 13⟩] htab (fun z hz => nomatch hz) rfl (by decide) (hT _ wd_436) (fw_cxc hcx (List.mem_cons_of_mem _ (List.mem_cons_of_mem _ List.mem_cons_self))) hc1 hc2 hc3 ?_
      refine lv_astore (lv' := [(4, .ref q9), (0, .ref x), (1, .int p0), (2, .int p1), (3, .ref o)]) hx hb dL_turnedByWalk_13 hl (by decide) rfl (fun ls hl => ?_)
      refine lv_iconst (v := (nI 1)) hx hb dL_turnedByWalk_15 (by decide) ?_
      exact fw_iret hx hb hr hlk (Nat.le_of_ble_eq_true rfl) (Nat.le_of_ble_eq_true rfl) hw dL_turnedByWalk_16 (Or.inr ⟨rfl, Or.inl ⟨hE, rfl⟩⟩)
    · refine vx_catch (name := "java/lang/IllegalArgumentException") hown [⟨0, 10, 13, 31⟩] ⟨0, 10, 17, 13⟩ [] htab (fun z hz => by
        obtain rfl := List.mem_singleton.mp hz
        exact Or.inr ⟨by decide, "java/lang/IndexOutOfBoundsException", hT _ wd_436, hnc _ List.mem_cons_self _ (List.mem_cons_of_mem _ (List.mem_cons_of_mem _ List.mem_cons_self)) (by decide)⟩) rfl (by decide) (hT _ wd_219) (fw_cxc hcx List.mem_cons_self) hc1 hc2 hc3 ?_
      refine lv_astore (lv' := [(4, .ref q9), (0, .ref x), (1, .int p0), (2, .int p1), (3, .ref o)]) hx hb dL_turnedByWalk_17 hl (by decide) rfl (fun ls hl => ?_)
      refine lv_iconst (v := (nI 2)) hx hb dL_turnedByWalk_19 (by decide) ?_
      exact fw_iret hx hb hr hlk (Nat.le_of_ble_eq_true rfl) (Nat.le_of_ble_eq_true rfl) hw dL_turnedByWalk_20 (Or.inr ⟨rfl, Or.inr (⟨hE, rfl⟩)⟩)
  · refine lv_i2l (v := r.toInt64) hx hb dL_turnedByWalk_8 rfl ?_
    refine fw_last hx hb hz hw (hk r F1 hp) (i := nI 0) (vp_in_nI (by decide) (by decide)) dL_turnedByWalk_9 (fun H locs hw => ?_)
    rw [show (nI 0).toNatClampNeg = 0 from nI_clamp (by decide)] at hw
    refine lv_goto (tgt := 21) hx hb dL_turnedByWalk_10 (by decide) ?_
    refine lv_iconst (v := (nI 0)) hx hb dL_turnedByWalk_21 (by decide) ?_
    exact fw_iret hx hb hr hlk (Nat.le_of_ble_eq_true rfl) (Nat.le_of_ble_eq_true rfl) hw dL_turnedByWalk_22 (Or.inl ⟨rfl, r, F1, hp, rfl⟩)
set_option maxHeartbeats 4000000 in
set_option maxRecDepth 100000 in
theorem c_L_order (l : Launch) (G : fw_G) (F : fw_F) (sz : Nat) (x o : Nat) (tx : fw_T) (fsx : List Value) (g0 : Nat → Int64) (p0 : Int32) (post : Int32 → fw_F → Prop) (PX : String → Prop) (hx9 : F x = some (tx, fw_obj 9 fsx)) (ho : F o = some ((60, 0, 0), fw_la (fw_cJ G) 1 g0)) (hM : ∀ z, vx_Met l yX8_order (fw_ws yX8_order cX8_order 6 (some (.int))) { frames := 8, cells := 28, slots := 3166, locals := 194 } (va_Pc [.ref x, .int p0] (fw_PreX G F z)) (va_Qi post (fw_B G (fw_W G F z)) (fw_W G F z)) (fw_xc G (fw_W G F z) F PX) 28 3166 (fw_W G F z)) (hpx : ∀ E, PX E → E = "java/lang/IndexOutOfBoundsException" ∨ E = "java/lang/IllegalStateException") (hk : ∀ v F2, post v F2 → F2 o = some ((60, 0, 0), fw_la (fw_cJ G) 1 g0)) : Met l yL_order (fw_wsW yL_order cL_order 4 (some (.int)) [(0, 9, 12, 31), (0, 9, 15, 15)]) { frames := 9, cells := 28, slots := 3166, locals := 219 } (va_Pc [.ref x, .int p0, .ref o] (fw_PreL G F sz)) (va_Qi (fun r F1 => (r = nI 0 ∧ ∃ v F2, post v F2 ∧ F1 = va_up F2 o (some ((60, 0, 0), fw_la (fw_cJ G) 1 (vp_updL g0 0 v.toInt64)))) ∨ (F1 = F ∧ ((PX "java/lang/IndexOutOfBoundsException" ∧ r = nI 1) ∨ (PX "java/lang/IllegalStateException" ∧ r = nI 2)))) (fw_B G (fw_W G F sz)) (fw_W G F sz)) 28 3166 (fw_W G F sz) := by
  refine fw_metW (lv := [(0, .ref x), (1, .int p0), (2, .ref o)]) (by decide +kernel) (Nat.le_of_ble_eq_true rfl) rfl ?_
  intro A hA p e s m below meth c ls hx hb hml hown hT hr hlk htab hcx hnc hz hsz hw hAn hl
  rw [← hA]
  have hown : s.vm.findClass RL = some m.cls := hown
  have C : CallFix p m c cL_order 4 s _ fw_tb RL := ⟨hx, hb, hml, hown, hT⟩
  refine lv_aload_n hx hb dL_order_0 rfl (lv_at hl 2 rfl) ?_
  refine lv_iconst (v := (nI 0)) hx hb dL_order_1 (by decide) ?_
  refine lv_aload_n hx hb dL_order_2 rfl (lv_at hl 0 rfl) ?_
  refine lv_iload_n hx hb dL_order_3 rfl (lv_at hl 1 rfl) ?_
  refine fw_hcalli (fw_xrunV (As := [.int p0]) (rest := [.int (nI 0), .ref o]) C hz hcx hw (hM _) (fw_cwV hT wd_497 yVX8_order rfl rfl ⟨Nat.le_of_ble_eq_true rfl, Nat.le_of_ble_eq_true rfl⟩) (fw_rec hz hw hx9 (q := vwCl[9]) rfl) rfl hl.1 rfl (Nat.le_of_ble_eq_true rfl) dL_order_4 ⟨Nat.le_of_ble_eq_true rfl, Nat.le_of_ble_eq_true rfl⟩) hw (fun E ce q9 H locs hw hE hc1 hc2 hc3 => ?_) (fun r F1 H locs hw hp => ?_)
  · rcases hpx E hE with rfl | rfl
    · refine vx_catch (name := "java/lang/IndexOutOfBoundsException") hown [] ⟨0, 9, 12, 31⟩ [⟨0, 9, 15, 15⟩] htab (fun z hz => nomatch hz) rfl (by decide) (hT _ wd_436) (fw_cxc hcx (List.mem_cons_of_mem _ (List.mem_cons_of_mem _ List.mem_cons_self))) hc1 hc2 hc3 ?_
      refine lv_astore_n (lv' := [(3, .ref q9), (0, .ref x), (1, .int p0), (2, .ref o)]) hx hb dL_order_12 rfl hl (by decide) rfl (fun ls hl => ?_)
      refine lv_iconst (v := (nI 1)) hx hb dL_order_13 (by decide) ?_
      exact fw_iret hx hb hr hlk (Nat.le_of_ble_eq_true rfl) (Nat.le_of_ble_eq_true rfl) hw dL_order_14 (Or.inr ⟨rfl, Or.inl ⟨hE, rfl⟩⟩)
    · refine vx_catch (name := "java/lang/IllegalStateException") hown [⟨0, 9, 12, 31⟩] ⟨0, 9, 15, 15⟩ [] htab (fun z hz => by
        obtain rfl := List.mem_singleton.mp hz
        exact Or.inr ⟨by decide, "java/lang/IndexOutOfBoundsException", hT _ wd_436, hnc _ (List.mem_cons_of_mem _ List.mem_cons_self) _ (List.mem_cons_of_mem _ (List.mem_cons_of_mem _ List.mem_cons_self)) (by decide)⟩) rfl (by decide) (hT _ wd_220) (fw_cxc hcx (List.mem_cons_of_mem _ List.mem_cons_self)) hc1 hc2 hc3 ?_
      refine lv_astore_n (lv' := [(3, .ref q9), (0, .ref x), (1, .int p0), (2, .ref o)]) hx hb dL_order_15 rfl hl (by decide) rfl (fun ls hl => ?_)
      refine lv_iconst (v := (nI 2)) hx hb dL_order_16 (by decide) ?_
      exact fw_iret hx hb hr hlk (Nat.le_of_ble_eq_true rfl) (Nat.le_of_ble_eq_true rfl) hw dL_order_17 (Or.inr ⟨rfl, Or.inr (⟨hE, rfl⟩)⟩)
  · refine lv_i2l (v := r.toInt64) hx hb dL_order_7 rfl ?_
    refine fw_last hx hb hz hw (hk r F1 hp) (i := nI 0) (vp_in_nI (by decide) (by decide)) dL_order_8 (fun H locs hw => ?_)
    rw [show (nI 0).toNatClampNeg = 0 from nI_clamp (by decide)] at hw
    refine lv_goto (tgt := 18) hx hb dL_order_9 (by decide) ?_
    refine lv_iconst (v := (nI 0)) hx hb dL_order_18 (by decide) ?_
    exact fw_iret hx hb hr hlk (Nat.le_of_ble_eq_true rfl) (Nat.le_of_ble_eq_true rfl) hw dL_order_19 (Or.inl ⟨rfl, r, F1, hp, rfl⟩)
set_option maxHeartbeats 4000000 in
set_option maxRecDepth 100000 in
theorem c_L_pass (l : Launch) (G : fw_G) (F : fw_F) (sz : Nat) (x o : Nat) (tx : fw_T) (fsx : List Value) (g0 : Nat → Int64) (p0 : Int32) (post : Int32 → fw_F → Prop) (PX : String → Prop) (hx9 : F x = some (tx, fw_obj 9 fsx)) (ho : F o = some ((60, 0, 0), fw_la (fw_cJ G) 1 g0)) (hM : ∀ z, vx_Met l yX8_pass (fw_ws yX8_pass cX8_pass 4 (some (.int))) { frames := 7, cells := 1, slots := 6, locals := 155 } (va_Pc [.ref x, .int p0] (fw_PreX G F z)) (va_Qi post (fw_B G (fw_W G F z)) (fw_W G F z)) (fw_xc G (fw_W G F z) F PX) 1 6 (fw_W G F z)) (hpx : ∀ E, PX E → E = "java/lang/IllegalArgumentException") (hk : ∀ v F2, post v F2 → F2 o = some ((60, 0, 0), fw_la (fw_cJ G) 1 g0)) : Met l yL_pass (fw_wsW yL_pass cL_pass 4 (some (.int)) [(0, 9, 12, 13)]) { frames := 8, cells := 1, slots := 6, locals := 178 } (va_Pc [.ref x, .int p0, .ref o] (fw_PreL G F sz)) (va_Qi (fun r F1 => (r = nI 0 ∧ ∃ v F2, post v F2 ∧ F1 = va_up F2 o (some ((60, 0, 0), fw_la (fw_cJ G) 1 (vp_updL g0 0 v.toInt64)))) ∨ (F1 = F ∧ ((PX "java/lang/IllegalArgumentException" ∧ r = nI 1)))) (fw_B G (fw_W G F sz)) (fw_W G F sz)) 1 6 (fw_W G F sz) := by
  refine fw_metW (lv := [(0, .ref x), (1, .int p0), (2, .ref o)]) (by decide +kernel) (Nat.le_of_ble_eq_true rfl) rfl ?_
  intro A hA p e s m below meth c ls hx hb hml hown hT hr hlk htab hcx hnc hz hsz hw hAn hl
  rw [← hA]
  have hown : s.vm.findClass RL = some m.cls := hown
  have C : CallFix p m c cL_pass 4 s _ fw_tb RL := ⟨hx, hb, hml, hown, hT⟩
  refine lv_aload_n hx hb dL_pass_0 rfl (lv_at hl 2 rfl) ?_
  refine lv_iconst (v := (nI 0)) hx hb dL_pass_1 (by decide) ?_
  refine lv_aload_n hx hb dL_pass_2 rfl (lv_at hl 0 rfl) ?_
  refine lv_iload_n hx hb dL_pass_3 rfl (lv_at hl 1 rfl) ?_
  refine fw_hcalli (fw_xrunV (As := [.int p0]) (rest := [.int (nI 0), .ref o]) C hz hcx hw (hM _) (fw_cwV hT wd_578 yVX8_pass rfl rfl ⟨Nat.le_of_ble_eq_true rfl, Nat.le_of_ble_eq_true rfl⟩) (fw_rec hz hw hx9 (q := vwCl[9]) rfl) rfl hl.1 rfl (Nat.le_of_ble_eq_true rfl) dL_pass_4 ⟨Nat.le_of_ble_eq_true rfl, Nat.le_of_ble_eq_true rfl⟩) hw (fun E ce q9 H locs hw hE hc1 hc2 hc3 => ?_) (fun r F1 H locs hw hp => ?_)
  · obtain rfl := hpx E hE
    refine vx_catch (name := "java/lang/IllegalArgumentException") hown [] ⟨0, 9, 12, 13⟩ [] htab (fun z hz => nomatch hz) rfl (by decide) (hT _ wd_219) (fw_cxc hcx List.mem_cons_self) hc1 hc2 hc3 ?_
    refine lv_astore_n (lv' := [(3, .ref q9), (0, .ref x), (1, .int p0), (2, .ref o)]) hx hb dL_pass_12 rfl hl (by decide) rfl (fun ls hl => ?_)
    refine lv_iconst (v := (nI 1)) hx hb dL_pass_13 (by decide) ?_
    exact fw_iret hx hb hr hlk (Nat.le_of_ble_eq_true rfl) (Nat.le_of_ble_eq_true rfl) hw dL_pass_14 (Or.inr ⟨rfl, ⟨hE, rfl⟩⟩)
  · refine lv_i2l (v := r.toInt64) hx hb dL_pass_7 rfl ?_
    refine fw_last hx hb hz hw (hk r F1 hp) (i := nI 0) (vp_in_nI (by decide) (by decide)) dL_pass_8 (fun H locs hw => ?_)
    rw [show (nI 0).toNatClampNeg = 0 from nI_clamp (by decide)] at hw
    refine lv_goto (tgt := 15) hx hb dL_pass_9 (by decide) ?_
    refine lv_iconst (v := (nI 0)) hx hb dL_pass_15 (by decide) ?_
    exact fw_iret hx hb hr hlk (Nat.le_of_ble_eq_true rfl) (Nat.le_of_ble_eq_true rfl) hw dL_pass_16 (Or.inl ⟨rfl, r, F1, hp, rfl⟩)
set_option maxHeartbeats 4000000 in
set_option maxRecDepth 100000 in
theorem c_L_cutterOn (l : Launch) (G : fw_G) (F : fw_F) (sz : Nat) (x o : Nat) (tx : fw_T) (fsx : List Value) (g0 : Nat → Int64) (p0 : Int32) (post : Int32 → fw_F → Prop) (PX : String → Prop) (hx9 : F x = some (tx, fw_obj 9 fsx)) (ho : F o = some ((60, 0, 0), fw_la (fw_cJ G) 1 g0)) (hM : ∀ z, vx_Met l yX8_cutterOn (fw_ws yX8_cutterOn cX8_cutterOn 2 (some (.int))) { frames := 8, cells := 1, slots := 6, locals := 141 } (va_Pc [.ref x, .int p0] (fw_PreX G F z)) (va_Qi post (fw_B G (fw_W G F z)) (fw_W G F z)) (fw_xc G (fw_W G F z) F PX) 1 6 (fw_W G F z)) (hpx : ∀ E, PX E → E = "java/lang/IndexOutOfBoundsException") (hk : ∀ v F2, post v F2 → F2 o = some ((60, 0, 0), fw_la (fw_cJ G) 1 g0)) : Met l yL_cutterOn (fw_wsW yL_cutterOn cL_cutterOn 4 (some (.int)) [(0, 9, 12, 31)]) { frames := 9, cells := 1, slots := 6, locals := 162 } (va_Pc [.ref x, .int p0, .ref o] (fw_PreL G F sz)) (va_Qi (fun r F1 => (r = nI 0 ∧ ∃ v F2, post v F2 ∧ F1 = va_up F2 o (some ((60, 0, 0), fw_la (fw_cJ G) 1 (vp_updL g0 0 v.toInt64)))) ∨ (F1 = F ∧ ((PX "java/lang/IndexOutOfBoundsException" ∧ r = nI 1)))) (fw_B G (fw_W G F sz)) (fw_W G F sz)) 1 6 (fw_W G F sz) := by
  refine fw_metW (lv := [(0, .ref x), (1, .int p0), (2, .ref o)]) (by decide +kernel) (Nat.le_of_ble_eq_true rfl) rfl ?_
  intro A hA p e s m below meth c ls hx hb hml hown hT hr hlk htab hcx hnc hz hsz hw hAn hl
  rw [← hA]
  have hown : s.vm.findClass RL = some m.cls := hown
  have C : CallFix p m c cL_cutterOn 4 s _ fw_tb RL := ⟨hx, hb, hml, hown, hT⟩
  refine lv_aload_n hx hb dL_cutterOn_0 rfl (lv_at hl 2 rfl) ?_
  refine lv_iconst (v := (nI 0)) hx hb dL_cutterOn_1 (by decide) ?_
  refine lv_aload_n hx hb dL_cutterOn_2 rfl (lv_at hl 0 rfl) ?_
  refine lv_iload_n hx hb dL_cutterOn_3 rfl (lv_at hl 1 rfl) ?_
  refine fw_hcalli (fw_xrunV (As := [.int p0]) (rest := [.int (nI 0), .ref o]) C hz hcx hw (hM _) (fw_cwV hT wd_631 yVX8_cutterOn rfl rfl ⟨Nat.le_of_ble_eq_true rfl, Nat.le_of_ble_eq_true rfl⟩) (fw_rec hz hw hx9 (q := vwCl[9]) rfl) rfl hl.1 rfl (Nat.le_of_ble_eq_true rfl) dL_cutterOn_4 ⟨Nat.le_of_ble_eq_true rfl, Nat.le_of_ble_eq_true rfl⟩) hw (fun E ce q9 H locs hw hE hc1 hc2 hc3 => ?_) (fun r F1 H locs hw hp => ?_)
  · obtain rfl := hpx E hE
    refine vx_catch (name := "java/lang/IndexOutOfBoundsException") hown [] ⟨0, 9, 12, 31⟩ [] htab (fun z hz => nomatch hz) rfl (by decide) (hT _ wd_436) (fw_cxc hcx (List.mem_cons_of_mem _ (List.mem_cons_of_mem _ List.mem_cons_self))) hc1 hc2 hc3 ?_
    refine lv_astore_n (lv' := [(3, .ref q9), (0, .ref x), (1, .int p0), (2, .ref o)]) hx hb dL_cutterOn_12 rfl hl (by decide) rfl (fun ls hl => ?_)
    refine lv_iconst (v := (nI 1)) hx hb dL_cutterOn_13 (by decide) ?_
    exact fw_iret hx hb hr hlk (Nat.le_of_ble_eq_true rfl) (Nat.le_of_ble_eq_true rfl) hw dL_cutterOn_14 (Or.inr ⟨rfl, ⟨hE, rfl⟩⟩)
  · refine lv_i2l (v := r.toInt64) hx hb dL_cutterOn_7 rfl ?_
    refine fw_last hx hb hz hw (hk r F1 hp) (i := nI 0) (vp_in_nI (by decide) (by decide)) dL_cutterOn_8 (fun H locs hw => ?_)
    rw [show (nI 0).toNatClampNeg = 0 from nI_clamp (by decide)] at hw
    refine lv_goto (tgt := 15) hx hb dL_cutterOn_9 (by decide) ?_
    refine lv_iconst (v := (nI 0)) hx hb dL_cutterOn_15 (by decide) ?_
    exact fw_iret hx hb hr hlk (Nat.le_of_ble_eq_true rfl) (Nat.le_of_ble_eq_true rfl) hw dL_cutterOn_16 (Or.inl ⟨rfl, r, F1, hp, rfl⟩)
set_option maxHeartbeats 4000000 in
set_option maxRecDepth 100000 in
theorem c_L_ticksLeft (l : Launch) (G : fw_G) (F : fw_F) (sz : Nat) (x o : Nat) (tx : fw_T) (fsx : List Value) (g0 : Nat → Int64) (p0 : Int32) (post : Int32 → fw_F → Prop) (PX : String → Prop) (hx9 : F x = some (tx, fw_obj 9 fsx)) (ho : F o = some ((60, 0, 0), fw_la (fw_cJ G) 1 g0)) (hM : ∀ z, vx_Met l yX8_ticksLeft (fw_ws yX8_ticksLeft cX8_ticksLeft 2 (some (.int))) { frames := 8, cells := 1, slots := 6, locals := 141 } (va_Pc [.ref x, .int p0] (fw_PreX G F z)) (va_Qi post (fw_B G (fw_W G F z)) (fw_W G F z)) (fw_xc G (fw_W G F z) F PX) 1 6 (fw_W G F z)) (hpx : ∀ E, PX E → E = "java/lang/IndexOutOfBoundsException") (hk : ∀ v F2, post v F2 → F2 o = some ((60, 0, 0), fw_la (fw_cJ G) 1 g0)) : Met l yL_ticksLeft (fw_wsW yL_ticksLeft cL_ticksLeft 4 (some (.int)) [(0, 9, 12, 31)]) { frames := 9, cells := 1, slots := 6, locals := 162 } (va_Pc [.ref x, .int p0, .ref o] (fw_PreL G F sz)) (va_Qi (fun r F1 => (r = nI 0 ∧ ∃ v F2, post v F2 ∧ F1 = va_up F2 o (some ((60, 0, 0), fw_la (fw_cJ G) 1 (vp_updL g0 0 v.toInt64)))) ∨ (F1 = F ∧ ((PX "java/lang/IndexOutOfBoundsException" ∧ r = nI 1)))) (fw_B G (fw_W G F sz)) (fw_W G F sz)) 1 6 (fw_W G F sz) := by
  refine fw_metW (lv := [(0, .ref x), (1, .int p0), (2, .ref o)]) (by decide +kernel) (Nat.le_of_ble_eq_true rfl) rfl ?_
  intro A hA p e s m below meth c ls hx hb hml hown hT hr hlk htab hcx hnc hz hsz hw hAn hl
  rw [← hA]
  have hown : s.vm.findClass RL = some m.cls := hown
  have C : CallFix p m c cL_ticksLeft 4 s _ fw_tb RL := ⟨hx, hb, hml, hown, hT⟩
  refine lv_aload_n hx hb dL_ticksLeft_0 rfl (lv_at hl 2 rfl) ?_
  refine lv_iconst (v := (nI 0)) hx hb dL_ticksLeft_1 (by decide) ?_
  refine lv_aload_n hx hb dL_ticksLeft_2 rfl (lv_at hl 0 rfl) ?_
  refine lv_iload_n hx hb dL_ticksLeft_3 rfl (lv_at hl 1 rfl) ?_
  refine fw_hcalli (fw_xrunV (As := [.int p0]) (rest := [.int (nI 0), .ref o]) C hz hcx hw (hM _) (fw_cwV hT wd_643 yVX8_ticksLeft rfl rfl ⟨Nat.le_of_ble_eq_true rfl, Nat.le_of_ble_eq_true rfl⟩) (fw_rec hz hw hx9 (q := vwCl[9]) rfl) rfl hl.1 rfl (Nat.le_of_ble_eq_true rfl) dL_ticksLeft_4 ⟨Nat.le_of_ble_eq_true rfl, Nat.le_of_ble_eq_true rfl⟩) hw (fun E ce q9 H locs hw hE hc1 hc2 hc3 => ?_) (fun r F1 H locs hw hp => ?_)
  · obtain rfl := hpx E hE
    refine vx_catch (name := "java/lang/IndexOutOfBoundsException") hown [] ⟨0, 9, 12, 31⟩ [] htab (fun z hz => nomatch hz) rfl (by decide) (hT _ wd_436) (fw_cxc hcx (List.mem_cons_of_mem _ (List.mem_cons_of_mem _ List.mem_cons_self))) hc1 hc2 hc3 ?_
    refine lv_astore_n (lv' := [(3, .ref q9), (0, .ref x), (1, .int p0), (2, .ref o)]) hx hb dL_ticksLeft_12 rfl hl (by decide) rfl (fun ls hl => ?_)
    refine lv_iconst (v := (nI 1)) hx hb dL_ticksLeft_13 (by decide) ?_
    exact fw_iret hx hb hr hlk (Nat.le_of_ble_eq_true rfl) (Nat.le_of_ble_eq_true rfl) hw dL_ticksLeft_14 (Or.inr ⟨rfl, ⟨hE, rfl⟩⟩)
  · refine lv_i2l (v := r.toInt64) hx hb dL_ticksLeft_7 rfl ?_
    refine fw_last hx hb hz hw (hk r F1 hp) (i := nI 0) (vp_in_nI (by decide) (by decide)) dL_ticksLeft_8 (fun H locs hw => ?_)
    rw [show (nI 0).toNatClampNeg = 0 from nI_clamp (by decide)] at hw
    refine lv_goto (tgt := 15) hx hb dL_ticksLeft_9 (by decide) ?_
    refine lv_iconst (v := (nI 0)) hx hb dL_ticksLeft_15 (by decide) ?_
    exact fw_iret hx hb hr hlk (Nat.le_of_ble_eq_true rfl) (Nat.le_of_ble_eq_true rfl) hw dL_ticksLeft_16 (Or.inl ⟨rfl, r, F1, hp, rfl⟩)
set_option maxHeartbeats 4000000 in
set_option maxRecDepth 100000 in
theorem c_L_gearsLeft (l : Launch) (G : fw_G) (F : fw_F) (sz : Nat) (x o : Nat) (tx : fw_T) (fsx : List Value) (g0 : Nat → Int64) (p0 : Int32) (post : Int32 → fw_F → Prop) (PX : String → Prop) (hx9 : F x = some (tx, fw_obj 9 fsx)) (ho : F o = some ((60, 0, 0), fw_la (fw_cJ G) 1 g0)) (hM : ∀ z, vx_Met l yX8_gearsLeft (fw_ws yX8_gearsLeft cX8_gearsLeft 2 (some (.int))) { frames := 8, cells := 1, slots := 6, locals := 141 } (va_Pc [.ref x, .int p0] (fw_PreX G F z)) (va_Qi post (fw_B G (fw_W G F z)) (fw_W G F z)) (fw_xc G (fw_W G F z) F PX) 1 6 (fw_W G F z)) (hpx : ∀ E, PX E → E = "java/lang/IndexOutOfBoundsException") (hk : ∀ v F2, post v F2 → F2 o = some ((60, 0, 0), fw_la (fw_cJ G) 1 g0)) : Met l yL_gearsLeft (fw_wsW yL_gearsLeft cL_gearsLeft 4 (some (.int)) [(0, 9, 12, 31)]) { frames := 9, cells := 1, slots := 6, locals := 162 } (va_Pc [.ref x, .int p0, .ref o] (fw_PreL G F sz)) (va_Qi (fun r F1 => (r = nI 0 ∧ ∃ v F2, post v F2 ∧ F1 = va_up F2 o (some ((60, 0, 0), fw_la (fw_cJ G) 1 (vp_updL g0 0 v.toInt64)))) ∨ (F1 = F ∧ ((PX "java/lang/IndexOutOfBoundsException" ∧ r = nI 1)))) (fw_B G (fw_W G F sz)) (fw_W G F sz)) 1 6 (fw_W G F sz) := by
  refine fw_metW (lv := [(0, .ref x), (1, .int p0), (2, .ref o)]) (by decide +kernel) (Nat.le_of_ble_eq_true rfl) rfl ?_
  intro A hA p e s m below meth c ls hx hb hml hown hT hr hlk htab hcx hnc hz hsz hw hAn hl
  rw [← hA]
  have hown : s.vm.findClass RL = some m.cls := hown
  have C : CallFix p m c cL_gearsLeft 4 s _ fw_tb RL := ⟨hx, hb, hml, hown, hT⟩
  refine lv_aload_n hx hb dL_gearsLeft_0 rfl (lv_at hl 2 rfl) ?_
  refine lv_iconst (v := (nI 0)) hx hb dL_gearsLeft_1 (by decide) ?_
  refine lv_aload_n hx hb dL_gearsLeft_2 rfl (lv_at hl 0 rfl) ?_
  refine lv_iload_n hx hb dL_gearsLeft_3 rfl (lv_at hl 1 rfl) ?_
  refine fw_hcalli (fw_xrunV (As := [.int p0]) (rest := [.int (nI 0), .ref o]) C hz hcx hw (hM _) (fw_cwV hT wd_650 yVX8_gearsLeft rfl rfl ⟨Nat.le_of_ble_eq_true rfl, Nat.le_of_ble_eq_true rfl⟩) (fw_rec hz hw hx9 (q := vwCl[9]) rfl) rfl hl.1 rfl (Nat.le_of_ble_eq_true rfl) dL_gearsLeft_4 ⟨Nat.le_of_ble_eq_true rfl, Nat.le_of_ble_eq_true rfl⟩) hw (fun E ce q9 H locs hw hE hc1 hc2 hc3 => ?_) (fun r F1 H locs hw hp => ?_)
  · obtain rfl := hpx E hE
    refine vx_catch (name := "java/lang/IndexOutOfBoundsException") hown [] ⟨0, 9, 12, 31⟩ [] htab (fun z hz => nomatch hz) rfl (by decide) (hT _ wd_436) (fw_cxc hcx (List.mem_cons_of_mem _ (List.mem_cons_of_mem _ List.mem_cons_self))) hc1 hc2 hc3 ?_
    refine lv_astore_n (lv' := [(3, .ref q9), (0, .ref x), (1, .int p0), (2, .ref o)]) hx hb dL_gearsLeft_12 rfl hl (by decide) rfl (fun ls hl => ?_)
    refine lv_iconst (v := (nI 1)) hx hb dL_gearsLeft_13 (by decide) ?_
    exact fw_iret hx hb hr hlk (Nat.le_of_ble_eq_true rfl) (Nat.le_of_ble_eq_true rfl) hw dL_gearsLeft_14 (Or.inr ⟨rfl, ⟨hE, rfl⟩⟩)
  · refine lv_i2l (v := r.toInt64) hx hb dL_gearsLeft_7 rfl ?_
    refine fw_last hx hb hz hw (hk r F1 hp) (i := nI 0) (vp_in_nI (by decide) (by decide)) dL_gearsLeft_8 (fun H locs hw => ?_)
    rw [show (nI 0).toNatClampNeg = 0 from nI_clamp (by decide)] at hw
    refine lv_goto (tgt := 15) hx hb dL_gearsLeft_9 (by decide) ?_
    refine lv_iconst (v := (nI 0)) hx hb dL_gearsLeft_15 (by decide) ?_
    exact fw_iret hx hb hr hlk (Nat.le_of_ble_eq_true rfl) (Nat.le_of_ble_eq_true rfl) hw dL_gearsLeft_16 (Or.inl ⟨rfl, r, F1, hp, rfl⟩)
set_option maxHeartbeats 4000000 in
set_option maxRecDepth 100000 in
theorem c_L_doneAt (l : Launch) (G : fw_G) (F : fw_F) (sz : Nat) (x o : Nat) (tx : fw_T) (fsx : List Value) (g0 : Nat → Int64) (p0 : Int32) (post : Int32 → fw_F → Prop) (PX : String → Prop) (hx9 : F x = some (tx, fw_obj 9 fsx)) (ho : F o = some ((60, 0, 0), fw_la (fw_cJ G) 1 g0)) (hM : ∀ z, vx_Met l yX8_doneAt (fw_ws yX8_doneAt cX8_doneAt 2 (some (.int))) { frames := 8, cells := 1, slots := 6, locals := 141 } (va_Pc [.ref x, .int p0] (fw_PreX G F z)) (va_Qi post (fw_B G (fw_W G F z)) (fw_W G F z)) (fw_xc G (fw_W G F z) F PX) 1 6 (fw_W G F z)) (hpx : ∀ E, PX E → E = "java/lang/IndexOutOfBoundsException") (hk : ∀ v F2, post v F2 → F2 o = some ((60, 0, 0), fw_la (fw_cJ G) 1 g0)) : Met l yL_doneAt (fw_wsW yL_doneAt cL_doneAt 4 (some (.int)) [(0, 9, 12, 31)]) { frames := 9, cells := 1, slots := 6, locals := 162 } (va_Pc [.ref x, .int p0, .ref o] (fw_PreL G F sz)) (va_Qi (fun r F1 => (r = nI 0 ∧ ∃ v F2, post v F2 ∧ F1 = va_up F2 o (some ((60, 0, 0), fw_la (fw_cJ G) 1 (vp_updL g0 0 v.toInt64)))) ∨ (F1 = F ∧ ((PX "java/lang/IndexOutOfBoundsException" ∧ r = nI 1)))) (fw_B G (fw_W G F sz)) (fw_W G F sz)) 1 6 (fw_W G F sz) := by
  refine fw_metW (lv := [(0, .ref x), (1, .int p0), (2, .ref o)]) (by decide +kernel) (Nat.le_of_ble_eq_true rfl) rfl ?_
  intro A hA p e s m below meth c ls hx hb hml hown hT hr hlk htab hcx hnc hz hsz hw hAn hl
  rw [← hA]
  have hown : s.vm.findClass RL = some m.cls := hown
  have C : CallFix p m c cL_doneAt 4 s _ fw_tb RL := ⟨hx, hb, hml, hown, hT⟩
  refine lv_aload_n hx hb dL_doneAt_0 rfl (lv_at hl 2 rfl) ?_
  refine lv_iconst (v := (nI 0)) hx hb dL_doneAt_1 (by decide) ?_
  refine lv_aload_n hx hb dL_doneAt_2 rfl (lv_at hl 0 rfl) ?_
  refine lv_iload_n hx hb dL_doneAt_3 rfl (lv_at hl 1 rfl) ?_
  refine fw_hcalli (fw_xrunV (As := [.int p0]) (rest := [.int (nI 0), .ref o]) C hz hcx hw (hM _) (fw_cwV hT wd_662 yVX8_doneAt rfl rfl ⟨Nat.le_of_ble_eq_true rfl, Nat.le_of_ble_eq_true rfl⟩) (fw_rec hz hw hx9 (q := vwCl[9]) rfl) rfl hl.1 rfl (Nat.le_of_ble_eq_true rfl) dL_doneAt_4 ⟨Nat.le_of_ble_eq_true rfl, Nat.le_of_ble_eq_true rfl⟩) hw (fun E ce q9 H locs hw hE hc1 hc2 hc3 => ?_) (fun r F1 H locs hw hp => ?_)
  · obtain rfl := hpx E hE
    refine vx_catch (name := "java/lang/IndexOutOfBoundsException") hown [] ⟨0, 9, 12, 31⟩ [] htab (fun z hz => nomatch hz) rfl (by decide) (hT _ wd_436) (fw_cxc hcx (List.mem_cons_of_mem _ (List.mem_cons_of_mem _ List.mem_cons_self))) hc1 hc2 hc3 ?_
    refine lv_astore_n (lv' := [(3, .ref q9), (0, .ref x), (1, .int p0), (2, .ref o)]) hx hb dL_doneAt_12 rfl hl (by decide) rfl (fun ls hl => ?_)
    refine lv_iconst (v := (nI 1)) hx hb dL_doneAt_13 (by decide) ?_
    exact fw_iret hx hb hr hlk (Nat.le_of_ble_eq_true rfl) (Nat.le_of_ble_eq_true rfl) hw dL_doneAt_14 (Or.inr ⟨rfl, ⟨hE, rfl⟩⟩)
  · refine lv_i2l (v := r.toInt64) hx hb dL_doneAt_7 rfl ?_
    refine fw_last hx hb hz hw (hk r F1 hp) (i := nI 0) (vp_in_nI (by decide) (by decide)) dL_doneAt_8 (fun H locs hw => ?_)
    rw [show (nI 0).toNatClampNeg = 0 from nI_clamp (by decide)] at hw
    refine lv_goto (tgt := 15) hx hb dL_doneAt_9 (by decide) ?_
    refine lv_iconst (v := (nI 0)) hx hb dL_doneAt_15 (by decide) ?_
    exact fw_iret hx hb hr hlk (Nat.le_of_ble_eq_true rfl) (Nat.le_of_ble_eq_true rfl) hw dL_doneAt_16 (Or.inl ⟨rfl, r, F1, hp, rfl⟩)
set_option maxHeartbeats 4000000 in
set_option maxRecDepth 100000 in
theorem c_L_test (l : Launch) (G : fw_G) (F : fw_F) (sz : Nat) (x o : Nat) (tx : fw_T) (fsx : List Value) (g0 : Nat → Int64) (p0 p1 p2 : Int32) (post : Int32 → fw_F → Prop) (PX : String → Prop) (hx9 : F x = some (tx, fw_obj 9 fsx)) (ho : F o = some ((60, 0, 0), fw_la (fw_cJ G) 1 g0)) (hM : ∀ z, vx_Met l yX8_test (fw_ws yX8_test cX8_test 5 (some (.boolean))) { frames := 8, cells := 2, slots := 12, locals := 141 } (va_Pc [.ref x, .int p0, .int p1, .int p2] (fw_PreX G F z)) (va_Qi post (fw_B G (fw_W G F z)) (fw_W G F z)) (fw_xc G (fw_W G F z) F PX) 2 12 (fw_W G F z)) (hpx : ∀ E, PX E → E = "java/lang/IndexOutOfBoundsException" ∨ E = "java/lang/IllegalArgumentException" ∨ E = "java/lang/IllegalStateException") (hk : ∀ v F2, post v F2 → F2 o = some ((60, 0, 0), fw_la (fw_cJ G) 1 g0)) : Met l yL_test (fw_wsW yL_test cL_test 6 (some (.int)) [(0, 19, 22, 31), (0, 19, 26, 13), (0, 19, 30, 15)]) { frames := 9, cells := 2, slots := 12, locals := 165 } (va_Pc [.ref x, .int p0, .int p1, .int p2, .ref o] (fw_PreL G F sz)) (va_Qi (fun r F1 => (r = nI 0 ∧ ∃ v F2, post v F2 ∧ F1 = va_up F2 o (some ((60, 0, 0), fw_la (fw_cJ G) 1 (vp_updL g0 0 (if v = 0 then 0 else 1))))) ∨ (F1 = F ∧ ((PX "java/lang/IndexOutOfBoundsException" ∧ r = nI 1) ∨ (PX "java/lang/IllegalArgumentException" ∧ r = nI 2) ∨ (PX "java/lang/IllegalStateException" ∧ r = nI 3)))) (fw_B G (fw_W G F sz)) (fw_W G F sz)) 2 12 (fw_W G F sz) := by
  refine fw_metW (lv := [(0, .ref x), (1, .int p0), (2, .int p1), (3, .int p2), (4, .ref o)]) (by decide +kernel) (Nat.le_of_ble_eq_true rfl) rfl ?_
  intro A hA p e s m below meth c ls hx hb hml hown hT hr hlk htab hcx hnc hz hsz hw hAn hl
  rw [← hA]
  have hown : s.vm.findClass RL = some m.cls := hown
  have C : CallFix p m c cL_test 6 s _ fw_tb RL := ⟨hx, hb, hml, hown, hT⟩
  refine lv_aload hx hb dL_test_0 (lv_at hl 4 rfl) ?_
  refine lv_iconst (v := (nI 0)) hx hb dL_test_2 (by decide) ?_
  refine lv_aload_n hx hb dL_test_3 rfl (lv_at hl 0 rfl) ?_
  refine lv_iload_n hx hb dL_test_4 rfl (lv_at hl 1 rfl) ?_
  refine lv_iload_n hx hb dL_test_5 rfl (lv_at hl 2 rfl) ?_
  refine lv_iload_n hx hb dL_test_6 rfl (lv_at hl 3 rfl) ?_
  refine fw_hcalli (fw_xrunV (As := [.int p0, .int p1, .int p2]) (rest := [.int (nI 0), .ref o]) C hz hcx hw (hM _) (fw_cwV hT wd_669 yVX8_test rfl rfl ⟨Nat.le_of_ble_eq_true rfl, Nat.le_of_ble_eq_true rfl⟩) (fw_rec hz hw hx9 (q := vwCl[9]) rfl) rfl hl.1 rfl (Nat.le_of_ble_eq_true rfl) dL_test_7 ⟨Nat.le_of_ble_eq_true rfl, Nat.le_of_ble_eq_true rfl⟩) hw (fun E ce q9 H locs hw hE hc1 hc2 hc3 => ?_) (fun r F1 H locs hw hp => ?_)
  · rcases hpx E hE with rfl | rfl | rfl
    · refine vx_catch (name := "java/lang/IndexOutOfBoundsException") hown [] ⟨0, 19, 22, 31⟩ [⟨0, 19, 26, 13⟩, ⟨0, 19, 30, 15⟩] htab (fun z hz => nomatch hz) rfl (by decide) (hT _ wd_436) (fw_cxc hcx (List.mem_cons_of_mem _ (List.mem_cons_of_mem _ List.mem_cons_self))) hc1 hc2 hc3 ?_
      refine lv_astore (lv' := [(5, .ref q9), (0, .ref x), (1, .int p0), (2, .int p1), (3, .int p2), (4, .ref o)]) hx hb dL_test_22 hl (by decide) rfl (fun ls hl => ?_)
      refine lv_iconst (v := (nI 1)) hx hb dL_test_24 (by decide) ?_
      exact fw_iret hx hb hr hlk (Nat.le_of_ble_eq_true rfl) (Nat.le_of_ble_eq_true rfl) hw dL_test_25 (Or.inr ⟨rfl, Or.inl ⟨hE, rfl⟩⟩)
    · refine vx_catch (name := "java/lang/IllegalArgumentException") hown [⟨0, 19, 22, 31⟩] ⟨0, 19, 26, 13⟩ [⟨0, 19, 30, 15⟩] htab (fun z hz => by
        obtain rfl := List.mem_singleton.mp hz
        exact Or.inr ⟨by decide, "java/lang/IndexOutOfBoundsException", hT _ wd_436, hnc _ List.mem_cons_self _ (List.mem_cons_of_mem _ (List.mem_cons_of_mem _ List.mem_cons_self)) (by decide)⟩) rfl (by decide) (hT _ wd_219) (fw_cxc hcx List.mem_cons_self) hc1 hc2 hc3 ?_
      refine lv_astore (lv' := [(5, .ref q9), (0, .ref x), (1, .int p0), (2, .int p1), (3, .int p2), (4, .ref o)]) hx hb dL_test_26 hl (by decide) rfl (fun ls hl => ?_)
      refine lv_iconst (v := (nI 2)) hx hb dL_test_28 (by decide) ?_
      exact fw_iret hx hb hr hlk (Nat.le_of_ble_eq_true rfl) (Nat.le_of_ble_eq_true rfl) hw dL_test_29 (Or.inr ⟨rfl, Or.inr (Or.inl ⟨hE, rfl⟩)⟩)
    · refine vx_catch (name := "java/lang/IllegalStateException") hown [⟨0, 19, 22, 31⟩, ⟨0, 19, 26, 13⟩] ⟨0, 19, 30, 15⟩ [] htab (fun z hz => by
        rcases List.mem_cons.mp hz with rfl | hz
        · exact Or.inr ⟨by decide, "java/lang/IndexOutOfBoundsException", hT _ wd_436, hnc _ (List.mem_cons_of_mem _ List.mem_cons_self) _ (List.mem_cons_of_mem _ (List.mem_cons_of_mem _ List.mem_cons_self)) (by decide)⟩
        · obtain rfl := List.mem_singleton.mp hz
          exact Or.inr ⟨by decide, "java/lang/IllegalArgumentException", hT _ wd_219, hnc _ (List.mem_cons_of_mem _ List.mem_cons_self) _ List.mem_cons_self (by decide)⟩) rfl (by decide) (hT _ wd_220) (fw_cxc hcx (List.mem_cons_of_mem _ List.mem_cons_self)) hc1 hc2 hc3 ?_
      refine lv_astore (lv' := [(5, .ref q9), (0, .ref x), (1, .int p0), (2, .int p1), (3, .int p2), (4, .ref o)]) hx hb dL_test_30 hl (by decide) rfl (fun ls hl => ?_)
      refine lv_iconst (v := (nI 3)) hx hb dL_test_32 (by decide) ?_
      exact fw_iret hx hb hr hlk (Nat.le_of_ble_eq_true rfl) (Nat.le_of_ble_eq_true rfl) hw dL_test_33 (Or.inr ⟨rfl, Or.inr (Or.inr (⟨hE, rfl⟩))⟩)
  · refine lv_if_eq (tgt := 17) hx hb dL_test_10 (by decide) (fun d => ?_) (fun d => ?_)
    · have d : r = 0 := d
      refine lv_lconst (v := (0 : Int64)) hx hb dL_test_17 (by decide) ?_
      refine fw_last hx hb hz hw (hk r F1 hp) (i := nI 0) (vp_in_nI (by decide) (by decide)) dL_test_18 (fun H locs hw => ?_)
      rw [show (nI 0).toNatClampNeg = 0 from nI_clamp (by decide)] at hw
      refine lv_goto (tgt := 34) hx hb dL_test_19 (by decide) ?_
      refine lv_iconst (v := (nI 0)) hx hb dL_test_34 (by decide) ?_
      exact fw_iret hx hb hr hlk (Nat.le_of_ble_eq_true rfl) (Nat.le_of_ble_eq_true rfl) hw dL_test_35 (Or.inl ⟨rfl, r, F1, hp, by rw [if_pos d]⟩)
    · have d : ¬ r = 0 := d
      refine lv_lconst (v := (1 : Int64)) hx hb dL_test_13 (by decide) ?_
      refine lv_goto (tgt := 18) hx hb dL_test_14 (by decide) ?_
      refine fw_last hx hb hz hw (hk r F1 hp) (i := nI 0) (vp_in_nI (by decide) (by decide)) dL_test_18 (fun H locs hw => ?_)
      rw [show (nI 0).toNatClampNeg = 0 from nI_clamp (by decide)] at hw
      refine lv_goto (tgt := 34) hx hb dL_test_19 (by decide) ?_
      refine lv_iconst (v := (nI 0)) hx hb dL_test_34 (by decide) ?_
      exact fw_iret hx hb hr hlk (Nat.le_of_ble_eq_true rfl) (Nat.le_of_ble_eq_true rfl) hw dL_test_35 (Or.inl ⟨rfl, r, F1, hp, by rw [if_neg d]⟩)
set_option maxHeartbeats 4000000 in
set_option maxRecDepth 100000 in
theorem c_L_wear (l : Launch) (G : fw_G) (F : fw_F) (sz : Nat) (x o : Nat) (tx : fw_T) (fsx : List Value) (g0 : Nat → Int64) (p0 p1 : Int32) (post : Int32 → fw_F → Prop) (PX : String → Prop) (hx9 : F x = some (tx, fw_obj 9 fsx)) (ho : F o = some ((60, 0, 0), fw_la (fw_cJ G) 1 g0)) (hM : ∀ z, vx_Met l yX8_wear (fw_ws yX8_wear cX8_wear 4 (some (.int))) { frames := 8, cells := 2, slots := 12, locals := 141 } (va_Pc [.ref x, .int p0, .int p1] (fw_PreX G F z)) (va_Qi post (fw_B G (fw_W G F z)) (fw_W G F z)) (fw_xc G (fw_W G F z) F PX) 2 12 (fw_W G F z)) (hpx : ∀ E, PX E → E = "java/lang/IndexOutOfBoundsException") (hk : ∀ v F2, post v F2 → F2 o = some ((60, 0, 0), fw_la (fw_cJ G) 1 g0)) : Met l yL_wear (fw_wsW yL_wear cL_wear 5 (some (.int)) [(0, 10, 13, 31)]) { frames := 9, cells := 2, slots := 12, locals := 164 } (va_Pc [.ref x, .int p0, .int p1, .ref o] (fw_PreL G F sz)) (va_Qi (fun r F1 => (r = nI 0 ∧ ∃ v F2, post v F2 ∧ F1 = va_up F2 o (some ((60, 0, 0), fw_la (fw_cJ G) 1 (vp_updL g0 0 v.toInt64)))) ∨ (F1 = F ∧ ((PX "java/lang/IndexOutOfBoundsException" ∧ r = nI 1)))) (fw_B G (fw_W G F sz)) (fw_W G F sz)) 2 12 (fw_W G F sz) := by
  refine fw_metW (lv := [(0, .ref x), (1, .int p0), (2, .int p1), (3, .ref o)]) (by decide +kernel) (Nat.le_of_ble_eq_true rfl) rfl ?_
  intro A hA p e s m below meth c ls hx hb hml hown hT hr hlk htab hcx hnc hz hsz hw hAn hl
  rw [← hA]
  have hown : s.vm.findClass RL = some m.cls := hown
  have C : CallFix p m c cL_wear 5 s _ fw_tb RL := ⟨hx, hb, hml, hown, hT⟩
  refine lv_aload_n hx hb dL_wear_0 rfl (lv_at hl 3 rfl) ?_
  refine lv_iconst (v := (nI 0)) hx hb dL_wear_1 (by decide) ?_
  refine lv_aload_n hx hb dL_wear_2 rfl (lv_at hl 0 rfl) ?_
  refine lv_iload_n hx hb dL_wear_3 rfl (lv_at hl 1 rfl) ?_
  refine lv_iload_n hx hb dL_wear_4 rfl (lv_at hl 2 rfl) ?_
  refine fw_hcalli (fw_xrunV (As := [.int p0, .int p1]) (rest := [.int (nI 0), .ref o]) C hz hcx hw (hM _) (fw_cwV hT wd_691 yVX8_wear rfl rfl ⟨Nat.le_of_ble_eq_true rfl, Nat.le_of_ble_eq_true rfl⟩) (fw_rec hz hw hx9 (q := vwCl[9]) rfl) rfl hl.1 rfl (Nat.le_of_ble_eq_true rfl) dL_wear_5 ⟨Nat.le_of_ble_eq_true rfl, Nat.le_of_ble_eq_true rfl⟩) hw (fun E ce q9 H locs hw hE hc1 hc2 hc3 => ?_) (fun r F1 H locs hw hp => ?_)
  · obtain rfl := hpx E hE
    refine vx_catch (name := "java/lang/IndexOutOfBoundsException") hown [] ⟨0, 10, 13, 31⟩ [] htab (fun z hz => nomatch hz) rfl (by decide) (hT _ wd_436) (fw_cxc hcx (List.mem_cons_of_mem _ (List.mem_cons_of_mem _ List.mem_cons_self))) hc1 hc2 hc3 ?_
    refine lv_astore (lv' := [(4, .ref q9), (0, .ref x), (1, .int p0), (2, .int p1), (3, .ref o)]) hx hb dL_wear_13 hl (by decide) rfl (fun ls hl => ?_)
    refine lv_iconst (v := (nI 1)) hx hb dL_wear_15 (by decide) ?_
    exact fw_iret hx hb hr hlk (Nat.le_of_ble_eq_true rfl) (Nat.le_of_ble_eq_true rfl) hw dL_wear_16 (Or.inr ⟨rfl, ⟨hE, rfl⟩⟩)
  · refine lv_i2l (v := r.toInt64) hx hb dL_wear_8 rfl ?_
    refine fw_last hx hb hz hw (hk r F1 hp) (i := nI 0) (vp_in_nI (by decide) (by decide)) dL_wear_9 (fun H locs hw => ?_)
    rw [show (nI 0).toNatClampNeg = 0 from nI_clamp (by decide)] at hw
    refine lv_goto (tgt := 17) hx hb dL_wear_10 (by decide) ?_
    refine lv_iconst (v := (nI 0)) hx hb dL_wear_17 (by decide) ?_
    exact fw_iret hx hb hr hlk (Nat.le_of_ble_eq_true rfl) (Nat.le_of_ble_eq_true rfl) hw dL_wear_18 (Or.inl ⟨rfl, r, F1, hp, rfl⟩)
set_option maxHeartbeats 4000000 in
set_option maxRecDepth 100000 in
theorem c_L_claims (l : Launch) (G : fw_G) (F : fw_F) (sz : Nat) (x o : Nat) (tx : fw_T) (fsx : List Value) (g0 : Nat → Int64) (p0 : Int32) (post : Int32 → fw_F → Prop) (PX : String → Prop) (hx9 : F x = some (tx, fw_obj 9 fsx)) (ho : F o = some ((60, 0, 0), fw_la (fw_cJ G) 1 g0)) (hM : ∀ z, vx_Met l yX8_claims (fw_ws yX8_claims cX8_claims 2 (some (.int))) { frames := 8, cells := 1, slots := 6, locals := 141 } (va_Pc [.ref x, .int p0] (fw_PreX G F z)) (va_Qi post (fw_B G (fw_W G F z)) (fw_W G F z)) (fw_xc G (fw_W G F z) F PX) 1 6 (fw_W G F z)) (hpx : ∀ E, PX E → E = "java/lang/IndexOutOfBoundsException") (hk : ∀ v F2, post v F2 → F2 o = some ((60, 0, 0), fw_la (fw_cJ G) 1 g0)) : Met l yL_claims (fw_wsW yL_claims cL_claims 4 (some (.int)) [(0, 9, 12, 31)]) { frames := 9, cells := 1, slots := 6, locals := 162 } (va_Pc [.ref x, .int p0, .ref o] (fw_PreL G F sz)) (va_Qi (fun r F1 => (r = nI 0 ∧ ∃ v F2, post v F2 ∧ F1 = va_up F2 o (some ((60, 0, 0), fw_la (fw_cJ G) 1 (vp_updL g0 0 v.toInt64)))) ∨ (F1 = F ∧ ((PX "java/lang/IndexOutOfBoundsException" ∧ r = nI 1)))) (fw_B G (fw_W G F sz)) (fw_W G F sz)) 1 6 (fw_W G F sz) := by
  refine fw_metW (lv := [(0, .ref x), (1, .int p0), (2, .ref o)]) (by decide +kernel) (Nat.le_of_ble_eq_true rfl) rfl ?_
  intro A hA p e s m below meth c ls hx hb hml hown hT hr hlk htab hcx hnc hz hsz hw hAn hl
  rw [← hA]
  have hown : s.vm.findClass RL = some m.cls := hown
  have C : CallFix p m c cL_claims 4 s _ fw_tb RL := ⟨hx, hb, hml, hown, hT⟩
  refine lv_aload_n hx hb dL_claims_0 rfl (lv_at hl 2 rfl) ?_
  refine lv_iconst (v := (nI 0)) hx hb dL_claims_1 (by decide) ?_
  refine lv_aload_n hx hb dL_claims_2 rfl (lv_at hl 0 rfl) ?_
  refine lv_iload_n hx hb dL_claims_3 rfl (lv_at hl 1 rfl) ?_
  refine fw_hcalli (fw_xrunV (As := [.int p0]) (rest := [.int (nI 0), .ref o]) C hz hcx hw (hM _) (fw_cwV hT wd_700 yVX8_claims rfl rfl ⟨Nat.le_of_ble_eq_true rfl, Nat.le_of_ble_eq_true rfl⟩) (fw_rec hz hw hx9 (q := vwCl[9]) rfl) rfl hl.1 rfl (Nat.le_of_ble_eq_true rfl) dL_claims_4 ⟨Nat.le_of_ble_eq_true rfl, Nat.le_of_ble_eq_true rfl⟩) hw (fun E ce q9 H locs hw hE hc1 hc2 hc3 => ?_) (fun r F1 H locs hw hp => ?_)
  · obtain rfl := hpx E hE
    refine vx_catch (name := "java/lang/IndexOutOfBoundsException") hown [] ⟨0, 9, 12, 31⟩ [] htab (fun z hz => nomatch hz) rfl (by decide) (hT _ wd_436) (fw_cxc hcx (List.mem_cons_of_mem _ (List.mem_cons_of_mem _ List.mem_cons_self))) hc1 hc2 hc3 ?_
    refine lv_astore_n (lv' := [(3, .ref q9), (0, .ref x), (1, .int p0), (2, .ref o)]) hx hb dL_claims_12 rfl hl (by decide) rfl (fun ls hl => ?_)
    refine lv_iconst (v := (nI 1)) hx hb dL_claims_13 (by decide) ?_
    exact fw_iret hx hb hr hlk (Nat.le_of_ble_eq_true rfl) (Nat.le_of_ble_eq_true rfl) hw dL_claims_14 (Or.inr ⟨rfl, ⟨hE, rfl⟩⟩)
  · refine lv_i2l (v := r.toInt64) hx hb dL_claims_7 rfl ?_
    refine fw_last hx hb hz hw (hk r F1 hp) (i := nI 0) (vp_in_nI (by decide) (by decide)) dL_claims_8 (fun H locs hw => ?_)
    rw [show (nI 0).toNatClampNeg = 0 from nI_clamp (by decide)] at hw
    refine lv_goto (tgt := 15) hx hb dL_claims_9 (by decide) ?_
    refine lv_iconst (v := (nI 0)) hx hb dL_claims_15 (by decide) ?_
    exact fw_iret hx hb hr hlk (Nat.le_of_ble_eq_true rfl) (Nat.le_of_ble_eq_true rfl) hw dL_claims_16 (Or.inl ⟨rfl, r, F1, hp, rfl⟩)
set_option maxHeartbeats 4000000 in
set_option maxRecDepth 100000 in
theorem c_L_leastNew (l : Launch) (G : fw_G) (F : fw_F) (sz : Nat) (x o : Nat) (tx : fw_T) (fsx : List Value) (g0 : Nat → Int64) (p0 p1 p2 : Int32) (post : Int32 → fw_F → Prop) (PX : String → Prop) (hx9 : F x = some (tx, fw_obj 9 fsx)) (ho : F o = some ((60, 0, 0), fw_la (fw_cJ G) 1 g0)) (hM : ∀ z, vx_Met l yX8_leastNew (fw_ws yX8_leastNew cX8_leastNew 10 (some (.int))) { frames := 7, cells := 1, slots := 6, locals := 120 } (va_Pc [.ref x, .int p0, .int p1, .int p2] (fw_PreX G F z)) (va_Qi post (fw_B G (fw_W G F z)) (fw_W G F z)) (fw_xc G (fw_W G F z) F PX) 1 6 (fw_W G F z)) (hpx : ∀ E, PX E → E = "java/lang/IllegalArgumentException") (hk : ∀ v F2, post v F2 → F2 o = some ((60, 0, 0), fw_la (fw_cJ G) 1 g0)) : Met l yL_leastNew (fw_wsW yL_leastNew cL_leastNew 6 (some (.int)) [(0, 12, 15, 13)]) { frames := 8, cells := 1, slots := 6, locals := 149 } (va_Pc [.ref x, .int p0, .int p1, .int p2, .ref o] (fw_PreL G F sz)) (va_Qi (fun r F1 => (r = nI 0 ∧ ∃ v F2, post v F2 ∧ F1 = va_up F2 o (some ((60, 0, 0), fw_la (fw_cJ G) 1 (vp_updL g0 0 v.toInt64)))) ∨ (F1 = F ∧ ((PX "java/lang/IllegalArgumentException" ∧ r = nI 1)))) (fw_B G (fw_W G F sz)) (fw_W G F sz)) 1 6 (fw_W G F sz) := by
  refine fw_metW (lv := [(0, .ref x), (1, .int p0), (2, .int p1), (3, .int p2), (4, .ref o)]) (by decide +kernel) (Nat.le_of_ble_eq_true rfl) rfl ?_
  intro A hA p e s m below meth c ls hx hb hml hown hT hr hlk htab hcx hnc hz hsz hw hAn hl
  rw [← hA]
  have hown : s.vm.findClass RL = some m.cls := hown
  have C : CallFix p m c cL_leastNew 6 s _ fw_tb RL := ⟨hx, hb, hml, hown, hT⟩
  refine lv_aload hx hb dL_leastNew_0 (lv_at hl 4 rfl) ?_
  refine lv_iconst (v := (nI 0)) hx hb dL_leastNew_2 (by decide) ?_
  refine lv_aload_n hx hb dL_leastNew_3 rfl (lv_at hl 0 rfl) ?_
  refine lv_iload_n hx hb dL_leastNew_4 rfl (lv_at hl 1 rfl) ?_
  refine lv_iload_n hx hb dL_leastNew_5 rfl (lv_at hl 2 rfl) ?_
  refine lv_iload_n hx hb dL_leastNew_6 rfl (lv_at hl 3 rfl) ?_
  refine fw_hcalli (fw_xrunV (As := [.int p0, .int p1, .int p2]) (rest := [.int (nI 0), .ref o]) C hz hcx hw (hM _) (fw_cwV hT wd_707 yVX8_leastNew rfl rfl ⟨Nat.le_of_ble_eq_true rfl, Nat.le_of_ble_eq_true rfl⟩) (fw_rec hz hw hx9 (q := vwCl[9]) rfl) rfl hl.1 rfl (Nat.le_of_ble_eq_true rfl) dL_leastNew_7 ⟨Nat.le_of_ble_eq_true rfl, Nat.le_of_ble_eq_true rfl⟩) hw (fun E ce q9 H locs hw hE hc1 hc2 hc3 => ?_) (fun r F1 H locs hw hp => ?_)
  · obtain rfl := hpx E hE
    refine vx_catch (name := "java/lang/IllegalArgumentException") hown [] ⟨0, 12, 15, 13⟩ [] htab (fun z hz => nomatch hz) rfl (by decide) (hT _ wd_219) (fw_cxc hcx List.mem_cons_self) hc1 hc2 hc3 ?_
    refine lv_astore (lv' := [(5, .ref q9), (0, .ref x), (1, .int p0), (2, .int p1), (3, .int p2), (4, .ref o)]) hx hb dL_leastNew_15 hl (by decide) rfl (fun ls hl => ?_)
    refine lv_iconst (v := (nI 1)) hx hb dL_leastNew_17 (by decide) ?_
    exact fw_iret hx hb hr hlk (Nat.le_of_ble_eq_true rfl) (Nat.le_of_ble_eq_true rfl) hw dL_leastNew_18 (Or.inr ⟨rfl, ⟨hE, rfl⟩⟩)
  · refine lv_i2l (v := r.toInt64) hx hb dL_leastNew_10 rfl ?_
    refine fw_last hx hb hz hw (hk r F1 hp) (i := nI 0) (vp_in_nI (by decide) (by decide)) dL_leastNew_11 (fun H locs hw => ?_)
    rw [show (nI 0).toNatClampNeg = 0 from nI_clamp (by decide)] at hw
    refine lv_goto (tgt := 19) hx hb dL_leastNew_12 (by decide) ?_
    refine lv_iconst (v := (nI 0)) hx hb dL_leastNew_19 (by decide) ?_
    exact fw_iret hx hb hr hlk (Nat.le_of_ble_eq_true rfl) (Nat.le_of_ble_eq_true rfl) hw dL_leastNew_20 (Or.inl ⟨rfl, r, F1, hp, rfl⟩)
