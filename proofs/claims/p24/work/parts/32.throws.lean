/-! Methods that throw: the world stays as it was. -/
abbrev fw_nm : List String := ["java/lang/RuntimeException", "java/lang/Exception"]
abbrev fw_exs : List String := ["java/lang/IllegalArgumentException", "java/lang/IllegalStateException", "java/lang/IndexOutOfBoundsException"]
abbrev fw_sI (x : String) : MethodName := ⟨x, "<init>", "(Ljava/lang/String;)V"⟩
def fw_cx (U : State) : Prop := va_Nw (.declares (fw_sI "java/lang/RuntimeException")) U ∧ va_Nw (.declares (fw_sI "java/lang/Exception")) U ∧ va_Nw (.declares (fw_sI "java/lang/Throwable")) U ∧ ∀ E ∈ fw_exs, va_Nw (.castable E E) U
theorem fw_cx.to {s U : State} (h : fw_cx s) (hW : s.WarmedH U.vm) : fw_cx U := ⟨va_Nw.warmD hW h.1, va_Nw.warmD hW h.2.1, va_Nw.warmD hW h.2.2.1, fun E hE => va_Nw.warmC hW (h.2.2.2 E hE)⟩
def fw_PreX (G : fw_G) (F : fw_F) (sz : Nat) (U : State) : Prop := fw_Pre G F sz U ∧ fw_cx U
abbrev fw_xc (G : fw_G) (A : Nat → Prop) (F : fw_F) (PX : String → Prop) : String → State → State → Prop := vx_X (fun u : fw_F => u = F) (fun E u t => PX E ∧ fw_B G A u t) A
theorem fw_inl {L : List Cond} (ps : List Nat) (hp : L.filter goodWord = ps.filterMap (fun i => lw_tbl[i]?)) : ∀ w ∈ L.filter goodWord, w ∈ fw_tb := by
  intro w hw
  have h1 := (List.mem_filter.mp hw).2
  rw [hp] at hw
  obtain ⟨i, -, hi⟩ := List.mem_filterMap.mp hw
  exact fw_m i hi h1
theorem fw_otA : ∀ w ∈ Cond.classLink RX8 57 "java/lang/IllegalArgumentException" :: Cond.initialized "java/lang/IllegalArgumentException" :: vx_atS RX8 61 "java/lang/IllegalArgumentException" fw_nm, vx_ot w = true := by decide +kernel
theorem fw_atA {args : Array Value} {s : State} (hT : ∀ w ∈ fw_tb, w.before args s = true) (hcx : fw_cx s) : ∀ w ∈ vx_atS RX8 61 "java/lang/IllegalArgumentException" fw_nm, w.before args s = true :=
  vx_hat (B := [Cond.declares (fw_sI "java/lang/RuntimeException"), Cond.declares (fw_sI "java/lang/Exception"), Cond.declares (fw_sI "java/lang/Throwable"), Cond.castable "java/lang/IllegalArgumentException" "java/lang/IllegalArgumentException"]) (fun w hw => hT w (fw_inl [29, 249, 258, 262, 265, 267, 250, 251, 48, 49, 252, 257, 263, 283, 239, 284, 241, 285, 243, 253, 255, 245, 279, 280, 282, 245, 270, 271, 272, 273, 273, 274, 275, 276, 276, 277, 278, 279, 269, 228, 236, 237, 238, 240, 242, 244, 248, 247, 246] (by decide +kernel) w hw)) (by decide +kernel)
    (vx_c (va_Nw.use rfl hcx.1) (vx_c (va_Nw.use rfl hcx.2.1) (vx_c (va_Nw.use rfl hcx.2.2.1) (vx_c (va_Nw.use rfl (hcx.2.2.2 _ (by decide))) vx_n))))
theorem fw_otS : ∀ w ∈ Cond.classLink RX8 68 "java/lang/IllegalStateException" :: Cond.initialized "java/lang/IllegalStateException" :: vx_atS RX8 72 "java/lang/IllegalStateException" fw_nm, vx_ot w = true := by decide +kernel
theorem fw_atS {args : Array Value} {s : State} (hT : ∀ w ∈ fw_tb, w.before args s = true) (hcx : fw_cx s) : ∀ w ∈ vx_atS RX8 72 "java/lang/IllegalStateException" fw_nm, w.before args s = true :=
  vx_hat (B := [Cond.declares (fw_sI "java/lang/RuntimeException"), Cond.declares (fw_sI "java/lang/Exception"), Cond.declares (fw_sI "java/lang/Throwable"), Cond.castable "java/lang/IllegalStateException" "java/lang/IllegalStateException"]) (fun w hw => hT w (fw_inl [29, 249, 258, 262, 265, 267, 250, 251, 48, 49, 252, 257, 263, 283, 239, 284, 241, 285, 243, 253, 255, 245, 279, 280, 282, 245, 310, 311, 312, 273, 273, 274, 275, 276, 276, 277, 278, 279, 309, 300, 302, 260, 303, 304, 305, 306, 248, 247, 307] (by decide +kernel) w hw)) (by decide +kernel)
    (vx_c (va_Nw.use rfl hcx.1) (vx_c (va_Nw.use rfl hcx.2.1) (vx_c (va_Nw.use rfl hcx.2.2.1) (vx_c (va_Nw.use rfl (hcx.2.2.2 _ (by decide))) vx_n))))
theorem fw_otB : ∀ w ∈ Cond.classLink RX8 220 "java/lang/IndexOutOfBoundsException" :: Cond.initialized "java/lang/IndexOutOfBoundsException" :: vx_atS RX8 224 "java/lang/IndexOutOfBoundsException" fw_nm, vx_ot w = true := by decide +kernel
theorem fw_atB {args : Array Value} {s : State} (hT : ∀ w ∈ fw_tb, w.before args s = true) (hcx : fw_cx s) : ∀ w ∈ vx_atS RX8 224 "java/lang/IndexOutOfBoundsException" fw_nm, w.before args s = true :=
  vx_hat (B := [Cond.declares (fw_sI "java/lang/RuntimeException"), Cond.declares (fw_sI "java/lang/Exception"), Cond.declares (fw_sI "java/lang/Throwable"), Cond.castable "java/lang/IndexOutOfBoundsException" "java/lang/IndexOutOfBoundsException"]) (fun w hw => hT w (fw_inl [29, 249, 258, 262, 265, 267, 250, 251, 48, 49, 252, 257, 263, 283, 239, 284, 241, 285, 243, 253, 255, 245, 279, 280, 282, 245, 444, 445, 446, 273, 273, 274, 275, 276, 276, 277, 278, 279, 443, 434, 436, 261, 437, 438, 439, 440, 248, 247, 441] (by decide +kernel) w hw)) (by decide +kernel)
    (vx_c (va_Nw.use rfl hcx.1) (vx_c (va_Nw.use rfl hcx.2.1) (vx_c (va_Nw.use rfl hcx.2.2.1) (vx_c (va_Nw.use rfl (hcx.2.2.2 _ (by decide))) vx_n))))
section FWXX
variable {p : Program} {l : Launch} {e : Env} {R : Room} {s : State} {m : MethodId} {args : Array Value} {below : List Frame} {meth : Method} {c : Code} {H : Heap} {locs : List Loc} {cells slots : Nat} {Q : State → Prop}
variable {cc : ByteArray} {pc : Nat} {ls : Array Slot} {rest : List Value} {G : fw_G} {A : Nat → Prop} {a : Nat} {F : fw_F} {t : fw_T}
variable {y : MethodName} {bytes : ByteArray} {maxL nL mc ms n index : Nat} {ret : Option FieldType} {ws : List Cond} {rm : Room} {Ts : List Cond} {own C : String} {b : Addr} {As : List Value} {st0 : List Value}
theorem fw_throw {Qc : Array Value → State → Outcome → State → Prop} {PX : String → Prop} {cls text : String} {ik is ic mc ms : Nat} (hexec : p.tables.exec = Jvm.exec) (hb : c.code = cc) (hl9 : l.stackTraces = false) (hown : s.vm.findClass RX8 = some m.cls) (hE : Bundle.fit cls = true) (hk : Cond.classLink RX8 ik cls ∈ fw_tb) (hini : Cond.initialized cls ∈ fw_tb) (hT : ∀ w ∈ fw_tb, w.before args s = true) (hat : ∀ w ∈ vx_atS RX8 ic cls fw_nm, w.before args s = true) (hgood : ∀ w ∈ Cond.classLink RX8 ik cls :: Cond.initialized cls :: vx_atS RX8 ic cls fw_nm, vx_ot w = true)
    (hz : fw_Z G A s s.heap) (hw : fw_S G A s F H locs) (hstr : (is, text) ∈ fw_strs) (hsize : ls.size = c.maxLocals)
    (d0 : decode cc pc = .ok (.new ik, 3)) (d3 : decode cc (pc + 3) = .ok (.dup, 1)) (d4 : decode cc (pc + 4) = .ok (.ldc is, 2)) (d6 : decode cc (pc + 6) = .ok (.invokespecial ic, 3)) (d9 : decode cc (pc + 9) = .ok (.athrow, 1))
    (hno : ∀ x ∈ c.exceptionTable.toList, False) (hR : 5 < R.frames ∧ (rest.map fun v => v.category).sum + 82 ≤ R.locals ∧ cells + 1 ≤ R.cells ∧ slots + 6 ≤ R.slots) (hlocks : meth.locks = false) (hpx : PX cls) (hc : cells + 1 ≤ mc) (hs : slots + 6 ≤ ms) :
    W p l e R s m args below meth c H locs cells slots (vx_MQ below Qc (fw_xc G A F PX) args s mc ms A) (F0 m pc ls rest) := by
  obtain ⟨sa, ha⟩ := hz.2.2.2.2.2.2.2.1 _ hstr
  refine vx_throwS (names := fw_nm) hexec hb hl9 hown hE (by decide +kernel) (hT _ hk) (hT _ hini) ha hat hgood hz.2.2.2.1 hz.2.2.2.2.1 hw.2.1 hsize d0 d3 d4 d6 d9 (fun x hx => (hno x hx).elim) hR.1 hR.2.1 hR.2.2.1 hR.2.2.2 hlocks (fun t hal hsz hkp => ?_) hw.2.1.2.2 hc hs
  exact ⟨F, rfl, ⟨hpx, fw_P_kept hw.1 (fun q hq _ => hkp q hq), fun q hq => hw.2.2 q (hq.elim Or.inl (fun h => h.elim (fun h => Or.inr (Or.inl h)) (fun h => Or.inr (Or.inr (Nat.le_trans hsz h)))))⟩, ⟨Nat.le_trans hw.2.1.1 hsz, fun q h1 h2 => (hkp q (Nat.lt_of_lt_of_le h1 hw.2.1.1)).trans (hw.2.1.2.1 q h1 h2)⟩⟩
theorem fw_preX {as : List Value} (hz : fw_Z G A s s.heap) (hcx : fw_cx s) (hw : fw_S G A s F H locs) : PreS s H (va_Pc as (fw_PreX G F H.size)) as :=
  ⟨fun a U g mk q => ⟨q.1, ⟨((fw_preS (as := as) hz hw).1 a U g mk ⟨q.1, q.2.1⟩).2, q.2.2.to (State.WarmedH.refl U)⟩⟩, fun U hU hW => ⟨rfl, ((fw_preS (as := as) hz hw).2 U hU hW).2, hcx.to hW⟩⟩
theorem fw_xrunV {Qc : Array Value → State → Outcome → State → Prop} {XC : String → State → State → Prop} (S : CallFix p m c cc nL s args Ts own) (hz : fw_Z G A s s.heap) (hcx : fw_cx s) (hw : fw_S G A s F H locs) (hM : vx_Met l y ws rm (va_Pc (.ref b :: As) (fw_PreX G F H.size)) Qc XC mc ms (fw_A G F H)) (cw : CallW R s args own C index y bytes maxL ret ws rm mc ms n)
    (hrec : ∃ cell : Cell, H[b]? = some cell ∧ cell.vm.isStatics = false ∧ s.vm.findClass C = some cell.cls) (hn : As.length = n) (hsize : ls.size = nL) (hstack : st0 = As.reverse ++ .ref b :: rest) (hW : (rest.map fun v => v.category).sum ≤ 8) (hdg : decode cc pc = .ok (.invokevirtual index, 3)) (hf : cells + mc ≤ R.cells ∧ slots + ms ≤ R.slots) :
    vx_Run p l e R s m args below meth c H locs cells slots mc ms (F0 m pc ls st0) rest (Qc (Value.ref b :: As).toArray) XC (fw_A G F H) :=
  vx_runV (rest := rest) S hM cw ⟨(fw_preX (as := .ref b :: As) hz hcx hw).1, hrec, (fw_preX (as := .ref b :: As) hz hcx hw).2⟩ rfl hn hsize hstack (lv_room (m := m) (pc := pc) (ls := ls) (rest := st0) hW) hdg hf
theorem fw_xrunS {Qc : Array Value → State → Outcome → State → Prop} {XC : String → State → State → Prop} (S : CallFix p m c cc nL s args Ts own) (hz : fw_Z G A s s.heap) (hcx : fw_cx s) (hw : fw_S G A s F H locs) (hM : vx_Met l y ws rm (va_Pc As (fw_PreX G F H.size)) Qc XC mc ms (fw_A G F H)) (cw : CallB R s args own index y bytes maxL ret ws rm mc ms n ∧ (Cond.static y).before args s = true)
    (hn : As.length = n) (hsize : ls.size = nL) (hstack : st0 = As.reverse ++ rest) (hW : (rest.map fun v => v.category).sum ≤ 8) (hdg : decode cc pc = .ok (.invokestatic index, 3)) (hf : cells + mc ≤ R.cells ∧ slots + ms ≤ R.slots) :
    vx_Run p l e R s m args below meth c H locs cells slots mc ms (F0 m pc ls st0) rest (Qc As.toArray) XC (fw_A G F H) :=
  vx_runS (rest := rest) S hM cw (fw_preX hz hcx hw) rfl hn hsize hstack (lv_room (m := m) (pc := pc) (ls := ls) (rest := st0) hW) hdg hf
theorem fw_xcalli {post : Int32 → fw_F → Prop} {Qc : Array Value → State → Outcome → State → Prop} {PX PY : String → Prop} {m9 n9 : Nat} {as : Array Value} (hr : vx_Run p l e R s m args below meth c H locs cells slots mc ms (F0 m pc ls st0) rest (va_Qi post (fw_B G (fw_A G F H)) (fw_A G F H) as) (fw_xc G (fw_A G F H) F PY) (fw_A G F H)) (hw : fw_S G A s F H locs)
    (hno : ∀ x ∈ c.exceptionTable.toList, False) (hlocks : meth.locks = false) (hpx : ∀ E, PY E → PX E) (hc : cells + mc ≤ m9) (hs : slots + ms ≤ n9)
    (kk : ∀ (r : Int32) (F1 : fw_F) (H1 : Heap) (locs1 : List Loc), fw_S G A s F1 H1 locs1 → post r F1 → W p l e R s m args below meth c H1 locs1 (cells + mc) (slots + ms) (vx_MQ below Qc (fw_xc G A F PX) args s m9 n9 A) (F0 m (pc + 3) ls (.int r :: rest))) : W p l e R s m args below meth c H locs cells slots (vx_MQ below Qc (fw_xc G A F PX) args s m9 n9 A) (F0 m pc ls st0) := by
  intro T hT X
  rcases hr T hT X with ⟨v, st₀, t, T', L, h0, X', hL, e1, e2, ⟨⟨r, u, hv, hp, hb⟩, hF⟩, st⟩ | ⟨q, st₀, t, T', L, E, ce, h0, X', hL, e1, e2, ⟨u, hu, hb, hF⟩, hce, hcv, hcl, st⟩
  · cases hv
    obtain ⟨k1, k2, k3⟩ := vx_keep h0 e1 hw.2.1 hw.stepA.1 hw.stepA.2 hL hF
    obtain ⟨t2, a1, b1⟩ := kk r u T'.heap (locs ++ L) (fw_after (post := fun _ => True) hw e1.symm hb k3) hp T' rfl X'
    exact ⟨t2, st t2 a1, b1⟩
  · have hu : u = F := hu
    subst hu
    obtain ⟨k1, k2, k3⟩ := vx_keep h0 e1 hw.2.1 hw.stepA.1 hw.stepA.2 hL hF
    have hw1 := fw_after (post := fun _ => True) hw e1.symm hb.2 k3
    obtain ⟨t2, a1, b1⟩ := vx_out (Qc := Qc) (XC := fw_xc G A u PX) (free := A) (pc := pc) (ls := ls) (rest := rest) (H := T'.heap) (fun x hx => (hno x hx).elim) hlocks (by rw [e1]; exact hce) hcv hcl (fun t' ht' hal => ⟨u, rfl, ⟨hpx E hb.1, by rw [fw_B, ht']; exact ⟨hw1.1, hw1.2.2⟩⟩, hw1.2.1.F ht'⟩) k3.2.2 hc hs T' rfl X'
    exact ⟨t2, st.trans a1, b1⟩
theorem fw_xcallv {post : fw_F → Prop} {Qc : Array Value → State → Outcome → State → Prop} {PX PY : String → Prop} {m9 n9 : Nat} {as : Array Value} (hr : vx_Run p l e R s m args below meth c H locs cells slots mc ms (F0 m pc ls st0) rest (va_Qv post (fw_B G (fw_A G F H)) (fw_A G F H) as) (fw_xc G (fw_A G F H) F PY) (fw_A G F H)) (hw : fw_S G A s F H locs)
    (hno : ∀ x ∈ c.exceptionTable.toList, False) (hlocks : meth.locks = false) (hpx : ∀ E, PY E → PX E) (hc : cells + mc ≤ m9) (hs : slots + ms ≤ n9)
    (kk : ∀ (F1 : fw_F) (H1 : Heap) (locs1 : List Loc), fw_S G A s F1 H1 locs1 → post F1 → W p l e R s m args below meth c H1 locs1 (cells + mc) (slots + ms) (vx_MQ below Qc (fw_xc G A F PX) args s m9 n9 A) (F0 m (pc + 3) ls (rest))) : W p l e R s m args below meth c H locs cells slots (vx_MQ below Qc (fw_xc G A F PX) args s m9 n9 A) (F0 m pc ls st0) := by
  intro T hT X
  rcases hr T hT X with ⟨v, st₀, t, T', L, h0, X', hL, e1, e2, ⟨⟨u, hv, hp, hb⟩, hF⟩, st⟩ | ⟨q, st₀, t, T', L, E, ce, h0, X', hL, e1, e2, ⟨u, hu, hb, hF⟩, hce, hcv, hcl, st⟩
  · cases hv
    obtain ⟨k1, k2, k3⟩ := vx_keep h0 e1 hw.2.1 hw.stepA.1 hw.stepA.2 hL hF
    obtain ⟨t2, a1, b1⟩ := kk u T'.heap (locs ++ L) (fw_after (post := fun _ => True) hw e1.symm hb k3) hp T' rfl X'
    exact ⟨t2, st t2 a1, b1⟩
  · have hu : u = F := hu
    subst hu
    obtain ⟨k1, k2, k3⟩ := vx_keep h0 e1 hw.2.1 hw.stepA.1 hw.stepA.2 hL hF
    have hw1 := fw_after (post := fun _ => True) hw e1.symm hb.2 k3
    obtain ⟨t2, a1, b1⟩ := vx_out (Qc := Qc) (XC := fw_xc G A u PX) (free := A) (pc := pc) (ls := ls) (rest := rest) (H := T'.heap) (fun x hx => (hno x hx).elim) hlocks (by rw [e1]; exact hce) hcv hcl (fun t' ht' hal => ⟨u, rfl, ⟨hpx E hb.1, by rw [fw_B, ht']; exact ⟨hw1.1, hw1.2.2⟩⟩, hw1.2.1.F ht'⟩) k3.2.2 hc hs T' rfl X'
    exact ⟨t2, st.trans a1, b1⟩
theorem fw_xcallo {post : Option Nat → fw_F → Prop} {Qc : Array Value → State → Outcome → State → Prop} {PX PY : String → Prop} {m9 n9 : Nat} {as : Array Value} (hr : vx_Run p l e R s m args below meth c H locs cells slots mc ms (F0 m pc ls st0) rest (fw_Qo post (fw_B G (fw_A G F H)) (fw_A G F H) as) (fw_xc G (fw_A G F H) F PY) (fw_A G F H)) (hw : fw_S G A s F H locs)
    (hno : ∀ x ∈ c.exceptionTable.toList, False) (hlocks : meth.locks = false) (hpx : ∀ E, PY E → PX E) (hc : cells + mc ≤ m9) (hs : slots + ms ≤ n9)
    (kk : ∀ (r : Option Nat) (F1 : fw_F) (H1 : Heap) (locs1 : List Loc), fw_S G A s F1 H1 locs1 → post r F1 → W p l e R s m args below meth c H1 locs1 (cells + mc) (slots + ms) (vx_MQ below Qc (fw_xc G A F PX) args s m9 n9 A) (F0 m (pc + 3) ls (va_rf r :: rest))) : W p l e R s m args below meth c H locs cells slots (vx_MQ below Qc (fw_xc G A F PX) args s m9 n9 A) (F0 m pc ls st0) := by
  intro T hT X
  rcases hr T hT X with ⟨v, st₀, t, T', L, h0, X', hL, e1, e2, ⟨⟨r, u, hv, hp, hb⟩, hF⟩, st⟩ | ⟨q, st₀, t, T', L, E, ce, h0, X', hL, e1, e2, ⟨u, hu, hb, hF⟩, hce, hcv, hcl, st⟩
  · cases hv
    obtain ⟨k1, k2, k3⟩ := vx_keep h0 e1 hw.2.1 hw.stepA.1 hw.stepA.2 hL hF
    obtain ⟨t2, a1, b1⟩ := kk r u T'.heap (locs ++ L) (fw_after (post := fun _ => True) hw e1.symm hb k3) hp T' rfl X'
    exact ⟨t2, st t2 a1, b1⟩
  · have hu : u = F := hu
    subst hu
    obtain ⟨k1, k2, k3⟩ := vx_keep h0 e1 hw.2.1 hw.stepA.1 hw.stepA.2 hL hF
    have hw1 := fw_after (post := fun _ => True) hw e1.symm hb.2 k3
    obtain ⟨t2, a1, b1⟩ := vx_out (Qc := Qc) (XC := fw_xc G A u PX) (free := A) (pc := pc) (ls := ls) (rest := rest) (H := T'.heap) (fun x hx => (hno x hx).elim) hlocks (by rw [e1]; exact hce) hcv hcl (fun t' ht' hal => ⟨u, rfl, ⟨hpx E hb.1, by rw [fw_B, ht']; exact ⟨hw1.1, hw1.2.2⟩⟩, hw1.2.1.F ht'⟩) k3.2.2 hc hs T' rfl X'
    exact ⟨t2, st.trans a1, b1⟩
end FWXX
theorem fw_metX {l : Launch} {y : MethodName} {rm : Room} {Qc : Array Value → State → Outcome → State → Prop} {XC : String → State → State → Prop} {mc ms : Nat} {cc : ByteArray} {maxL : Nat} {ret : Option FieldType} {G : fw_G} {F : fw_F} {sz : Nat} {As : List Value} {lv : List (Nat × Value)}
    (hy : plainName y.cls = true) (hlen : (lg_sl As).length ≤ maxL) (hlv : lv_args 0 As = lv)
    (body : ∀ (A : Nat → Prop), A = fw_W G F sz → ∀ (p : Program) (e : Env) (s : State) (m : MethodId) (below : List Frame) (meth : Method) (c : Code) (ls : Array Slot), p.tables.exec = Jvm.exec → c.code = cc → c.maxLocals = maxL → s.vm.findClass y.cls = some m.cls → (∀ w ∈ fw_tb, w.before As.toArray s = true) → meth.sig.returnType = ret → meth.locks = false → (∀ x ∈ c.exceptionTable.toList, False) → fw_cx s → fw_Z G A s s.heap → s.heap.size = sz → fw_S G A s F s.heap [] → (∀ q, s.heap.size ≤ q → A q) → lv_has ls maxL lv →
      W p l e rm s m As.toArray below meth c s.heap [] 0 0 (vx_MQ below Qc XC As.toArray s mc ms A) (F0 m 0 ls [])) : vx_Met l y (fw_ws y cc maxL ret) rm (va_Pc As (fw_PreX G F sz)) Qc XC mc ms (fw_W G F sz) := by
  refine vx_ofW (cc := cc) (maxL := maxL) (ret := ret) hy rfl ?_
  intro p e s m args below meth c s₁ B hml hno hv
  obtain ⟨rfl, ⟨hsz, hP, hZ⟩, hcx⟩ := hv
  subst hsz
  have hl := lv_entry As (n := maxL) hlen
  rw [lg_entry_eq]
  generalize (lg_sl As ++ List.replicate (maxL - (lg_sl As).length) Slot.unset).toArray = ls at hl ⊢
  rw [hlv] at hl
  exact body _ rfl p e s m below meth c ls B.exec B.bytes hml (findClass_of_methodNamed B.named) (fun w hw => atoms_spec (ws := fw_ws y cc maxL ret) B.pre w (List.mem_cons_of_mem _ hw)) B.returns B.notSynchronized hno hcx hZ rfl (fw_S.start hP) (fun q hq => Or.inr (Or.inr hq)) hl
theorem rf_ixF {t : Int32} {n : Nat} (hn : n ≤ 12) (d2 : ¬ t < nI n) : rf_ix t n = false := by
  cases h : rf_ix t n with
  | false => rfl
  | true =>
    obtain ⟨j, hj, rfl⟩ := rf_ix_t (by omega) h
    exact absurd (nI_lt hj (by omega)) d2
set_option maxHeartbeats 4000000 in
set_option maxRecDepth 100000 in
theorem c_X8_trainAt (l : Launch) (G : fw_G) (F : fw_F) (sz : Nat) (x lc lt lo lm lw dr : Nat) (tm : Int32) (arr : Nat) (nT : Nat) (ea : Nat → Nat) (t : Int32) (hl9 : l.stackTraces = false) (hX : cr_X F x lc lt lo lm lw dr tm) (hL : F lt = some ((1, 1, 0), fw_ls arr nT ea)) (hn : nT ≤ 8) (hel : ∀ i, i < nT → ∃ tg fs, F (ea i) = some (tg, fw_obj 8 fs)) : vx_Met l yX8_trainAt (fw_ws yX8_trainAt cX8_trainAt 2 (some ((.object "Cogwright$Train")))) { frames := 7, cells := 1, slots := 6, locals := 120 } (va_Pc [.ref x, .int t] (fw_PreX G F sz)) (fw_Qo (fun r F1 => F1 = F ∧ (fun r => ∃ j, j < nT ∧ t = nI j ∧ r = some (ea j)) r) (fw_B G (fw_W G F sz)) (fw_W G F sz)) (fw_xc G (fw_W G F sz) F (fun E => E = "java/lang/IndexOutOfBoundsException" ∧ rf_ix t nT = false)) 1 6 (fw_W G F sz) := by
  refine fw_metX (lv := [(0, .ref x), (1, .int t)]) (by decide +kernel) (Nat.le_of_ble_eq_true rfl) rfl ?_
  intro A hA p e s m below meth c ls hx hb hml hown hT hr hlk hno hcx hz hsz hw hAn hl
  rw [← hA]
  have hown : s.vm.findClass RX8 = some m.cls := hown
  have C : CallFix p m c cX8_trainAt 2 s _ fw_tb RX8 := ⟨hx, hb, hml, hown, hT⟩
  refine lv_iload_n hx hb dX8_trainAt_0 rfl (lv_at hl 1 rfl) ?_
  refine lv_if_lt (tgt := 15) hx hb dX8_trainAt_1 (by decide) (fun d => ?_) (fun d => ?_)
  · exact fw_throw (ik := 220) (is := 246) (ic := 224) hx hb hl9 hown (by decide +kernel) wd_416 wd_21 hT (fw_atB hT hcx) fw_otB hz hw (List.mem_of_getElem? (i := 9) rfl) (hl.1.trans hml.symm) dX8_trainAt_15 dX8_trainAt_18 dX8_trainAt_19 dX8_trainAt_21 dX8_trainAt_24 hno ⟨Nat.le_of_ble_eq_true rfl, Nat.le_of_ble_eq_true rfl, Nat.le_of_ble_eq_true rfl, Nat.le_of_ble_eq_true rfl⟩ hlk (⟨rfl, rf_in_f1 (by exact d)⟩) (Nat.le_of_ble_eq_true rfl) (Nat.le_of_ble_eq_true rfl)
  · refine lv_iload_n hx hb dX8_trainAt_4 rfl (lv_at hl 1 rfl) ?_
    refine lv_aload_n hx hb dX8_trainAt_5 rfl (lv_at hl 0 rfl) ?_
    refine fw_get (v := .ref lt) hx hb hT fi_RX8 hown hz hw hX rfl 1 (by decide) (hT _ wd_176) (fun _ h9 => h9) rfl dX8_trainAt_6 ?_
    refine fw_calli (fw_runV (As := []) (rest := [.int t]) C hz hw (c_Jx4a65c_size_8abf5 l G _ _ lt arr nT (1, 1, 0) ea hL) (fw_cwV hT wd_278 yVJx4a65c_size_8abf5 rfl rfl ⟨Nat.le_of_ble_eq_true rfl, Nat.le_of_ble_eq_true rfl⟩) (fw_recL hz hw hL) rfl hl.1 rfl (Nat.le_of_ble_eq_true rfl) dX8_trainAt_9 ⟨Nat.le_of_ble_eq_true rfl, Nat.le_of_ble_eq_true rfl⟩) hw (fun r F1 H locs hw hp => ?_)
    obtain ⟨hp0, hp⟩ := hp
    rw [hp0] at hw
    refine W.widen (k := 0) (n := 0) (Nat.le_of_ble_eq_true rfl) (Nat.le_of_ble_eq_true rfl) ?_
    subst hp
    refine lv_icmp_lt (tgt := 25) hx hb dX8_trainAt_12 (by decide) (fun d2 => ?_) (fun d2 => ?_)
    · obtain ⟨j, hj, rfl⟩ := nI_of (x := t) d
      rw [nI_ltI (by omega) (by omega)] at d2
      refine lv_aload_n hx hb dX8_trainAt_25 rfl (lv_at hl 0 rfl) ?_
      refine fw_get (v := .ref lt) hx hb hT fi_RX8 hown hz hw hX rfl 1 (by decide) (hT _ wd_176) (fun _ h9 => h9) rfl dX8_trainAt_26 ?_
      refine lv_iload_n hx hb dX8_trainAt_29 rfl (lv_at hl 1 rfl) ?_
      refine fw_callo (fw_runV (As := [.int (nI j)]) (rest := []) C hz hw (c_Jx4a65c_get_915e3 l G _ _ lt arr nT (1, 1, 0) ea j hL d2 (by omega)) (fw_cwV hT wd_323 yVJx4a65c_get_915e3 rfl rfl ⟨Nat.le_of_ble_eq_true rfl, Nat.le_of_ble_eq_true rfl⟩) (fw_recL hz hw hL) rfl hl.1 rfl (Nat.le_of_ble_eq_true rfl) dX8_trainAt_30 ⟨Nat.le_of_ble_eq_true rfl, Nat.le_of_ble_eq_true rfl⟩) hw (fun r F1 H locs hw hp => ?_)
      obtain ⟨hp0, hp⟩ := hp
      rw [hp0] at hw
      refine W.widen (k := 0) (n := 0) (Nat.le_of_ble_eq_true rfl) (Nat.le_of_ble_eq_true rfl) ?_
      subst hp
      obtain ⟨tg, fs, hs9⟩ := hel j d2
      refine fw_cast hx hb hown hz hw hs9 (q := vwCl[8]) rfl (hT _ wd_59) dX8_trainAt_33 ?_
      refine vx_ret ?_
      exact fw_aret (v := some (ea j)) hx hb hr hlk (Nat.le_of_ble_eq_true rfl) (Nat.le_of_ble_eq_true rfl) hw dX8_trainAt_36 rfl (⟨rfl, ⟨j, d2, rfl, rfl⟩⟩)
    · exact fw_throw (ik := 220) (is := 246) (ic := 224) hx hb hl9 hown (by decide +kernel) wd_416 wd_21 hT (fw_atB hT hcx) fw_otB hz hw (List.mem_of_getElem? (i := 9) rfl) (hl.1.trans hml.symm) dX8_trainAt_15 dX8_trainAt_18 dX8_trainAt_19 dX8_trainAt_21 dX8_trainAt_24 hno ⟨Nat.le_of_ble_eq_true rfl, Nat.le_of_ble_eq_true rfl, Nat.le_of_ble_eq_true rfl, Nat.le_of_ble_eq_true rfl⟩ hlk (⟨rfl, rf_ixF (by omega) d2⟩) (Nat.le_of_ble_eq_true rfl) (Nat.le_of_ble_eq_true rfl)
set_option maxHeartbeats 4000000 in
set_option maxRecDepth 100000 in
theorem c_X8_orderAt (l : Launch) (G : fw_G) (F : fw_F) (sz : Nat) (x lc lt lo lm lw dr : Nat) (tm : Int32) (arr : Nat) (nO : Nat) (ea : Nat → Nat) (t : Int32) (hl9 : l.stackTraces = false) (hX : cr_X F x lc lt lo lm lw dr tm) (hL : F lo = some ((1, 2, 0), fw_ls arr nO ea)) (hn : nO ≤ 12) (hel : ∀ i, i < nO → ∃ tg fs, F (ea i) = some (tg, fw_obj 6 fs)) : vx_Met l yX8_orderAt (fw_ws yX8_orderAt cX8_orderAt 2 (some ((.object "Cogwright$Order")))) { frames := 7, cells := 1, slots := 6, locals := 120 } (va_Pc [.ref x, .int t] (fw_PreX G F sz)) (fw_Qo (fun r F1 => F1 = F ∧ (fun r => ∃ j, j < nO ∧ t = nI j ∧ r = some (ea j)) r) (fw_B G (fw_W G F sz)) (fw_W G F sz)) (fw_xc G (fw_W G F sz) F (fun E => E = "java/lang/IndexOutOfBoundsException" ∧ rf_ix t nO = false)) 1 6 (fw_W G F sz) := by
  refine fw_metX (lv := [(0, .ref x), (1, .int t)]) (by decide +kernel) (Nat.le_of_ble_eq_true rfl) rfl ?_
  intro A hA p e s m below meth c ls hx hb hml hown hT hr hlk hno hcx hz hsz hw hAn hl
  rw [← hA]
  have hown : s.vm.findClass RX8 = some m.cls := hown
  have C : CallFix p m c cX8_orderAt 2 s _ fw_tb RX8 := ⟨hx, hb, hml, hown, hT⟩
  refine lv_iload_n hx hb dX8_orderAt_0 rfl (lv_at hl 1 rfl) ?_
  refine lv_if_lt (tgt := 15) hx hb dX8_orderAt_1 (by decide) (fun d => ?_) (fun d => ?_)
  · exact fw_throw (ik := 220) (is := 248) (ic := 224) hx hb hl9 hown (by decide +kernel) wd_416 wd_21 hT (fw_atB hT hcx) fw_otB hz hw (List.mem_of_getElem? (i := 14) rfl) (hl.1.trans hml.symm) dX8_orderAt_15 dX8_orderAt_18 dX8_orderAt_19 dX8_orderAt_21 dX8_orderAt_24 hno ⟨Nat.le_of_ble_eq_true rfl, Nat.le_of_ble_eq_true rfl, Nat.le_of_ble_eq_true rfl, Nat.le_of_ble_eq_true rfl⟩ hlk (⟨rfl, rf_in_f1 (by exact d)⟩) (Nat.le_of_ble_eq_true rfl) (Nat.le_of_ble_eq_true rfl)
  · refine lv_iload_n hx hb dX8_orderAt_4 rfl (lv_at hl 1 rfl) ?_
    refine lv_aload_n hx hb dX8_orderAt_5 rfl (lv_at hl 0 rfl) ?_
    refine fw_get (v := .ref lo) hx hb hT fi_RX8 hown hz hw hX rfl 2 (by decide) (hT _ wd_177) (fun _ h9 => h9) rfl dX8_orderAt_6 ?_
    refine fw_calli (fw_runV (As := []) (rest := [.int t]) C hz hw (c_Jx4a65c_size_8abf5 l G _ _ lo arr nO (1, 2, 0) ea hL) (fw_cwV hT wd_278 yVJx4a65c_size_8abf5 rfl rfl ⟨Nat.le_of_ble_eq_true rfl, Nat.le_of_ble_eq_true rfl⟩) (fw_recL hz hw hL) rfl hl.1 rfl (Nat.le_of_ble_eq_true rfl) dX8_orderAt_9 ⟨Nat.le_of_ble_eq_true rfl, Nat.le_of_ble_eq_true rfl⟩) hw (fun r F1 H locs hw hp => ?_)
    obtain ⟨hp0, hp⟩ := hp
    rw [hp0] at hw
    refine W.widen (k := 0) (n := 0) (Nat.le_of_ble_eq_true rfl) (Nat.le_of_ble_eq_true rfl) ?_
    subst hp
    refine lv_icmp_lt (tgt := 25) hx hb dX8_orderAt_12 (by decide) (fun d2 => ?_) (fun d2 => ?_)
    · obtain ⟨j, hj, rfl⟩ := nI_of (x := t) d
      rw [nI_ltI (by omega) (by omega)] at d2
      refine lv_aload_n hx hb dX8_orderAt_25 rfl (lv_at hl 0 rfl) ?_
      refine fw_get (v := .ref lo) hx hb hT fi_RX8 hown hz hw hX rfl 2 (by decide) (hT _ wd_177) (fun _ h9 => h9) rfl dX8_orderAt_26 ?_
      refine lv_iload_n hx hb dX8_orderAt_29 rfl (lv_at hl 1 rfl) ?_
      refine fw_callo (fw_runV (As := [.int (nI j)]) (rest := []) C hz hw (c_Jx4a65c_get_915e3 l G _ _ lo arr nO (1, 2, 0) ea j hL d2 (by omega)) (fw_cwV hT wd_323 yVJx4a65c_get_915e3 rfl rfl ⟨Nat.le_of_ble_eq_true rfl, Nat.le_of_ble_eq_true rfl⟩) (fw_recL hz hw hL) rfl hl.1 rfl (Nat.le_of_ble_eq_true rfl) dX8_orderAt_30 ⟨Nat.le_of_ble_eq_true rfl, Nat.le_of_ble_eq_true rfl⟩) hw (fun r F1 H locs hw hp => ?_)
      obtain ⟨hp0, hp⟩ := hp
      rw [hp0] at hw
      refine W.widen (k := 0) (n := 0) (Nat.le_of_ble_eq_true rfl) (Nat.le_of_ble_eq_true rfl) ?_
      subst hp
      obtain ⟨tg, fs, hs9⟩ := hel j d2
      refine fw_cast hx hb hown hz hw hs9 (q := vwCl[6]) rfl (hT _ wd_433) dX8_orderAt_33 ?_
      refine vx_ret ?_
      exact fw_aret (v := some (ea j)) hx hb hr hlk (Nat.le_of_ble_eq_true rfl) (Nat.le_of_ble_eq_true rfl) hw dX8_orderAt_36 rfl (⟨rfl, ⟨j, d2, rfl, rfl⟩⟩)
    · exact fw_throw (ik := 220) (is := 248) (ic := 224) hx hb hl9 hown (by decide +kernel) wd_416 wd_21 hT (fw_atB hT hcx) fw_otB hz hw (List.mem_of_getElem? (i := 14) rfl) (hl.1.trans hml.symm) dX8_orderAt_15 dX8_orderAt_18 dX8_orderAt_19 dX8_orderAt_21 dX8_orderAt_24 hno ⟨Nat.le_of_ble_eq_true rfl, Nat.le_of_ble_eq_true rfl, Nat.le_of_ble_eq_true rfl, Nat.le_of_ble_eq_true rfl⟩ hlk (⟨rfl, rf_ixF (by omega) d2⟩) (Nat.le_of_ble_eq_true rfl) (Nat.le_of_ble_eq_true rfl)
set_option maxHeartbeats 4000000 in
set_option maxRecDepth 100000 in
theorem c_X8_machineAt (l : Launch) (G : fw_G) (F : fw_F) (sz : Nat) (x lc lt lo lm lw dr : Nat) (tm : Int32) (arr : Nat) (ea : Nat → Nat) (t : Int32) (hl9 : l.stackTraces = false) (hX : cr_X F x lc lt lo lm lw dr tm) (hL : F lm = some ((1, 3, 0), fw_ls arr 3 ea)) (hel : ∀ i, i < 3 → ∃ tg fs, F (ea i) = some (tg, fw_obj 4 fs)) : vx_Met l yX8_machineAt (fw_ws yX8_machineAt cX8_machineAt 2 (some ((.object "Cogwright$Machine")))) { frames := 7, cells := 1, slots := 6, locals := 120 } (va_Pc [.ref x, .int t] (fw_PreX G F sz)) (fw_Qo (fun r F1 => F1 = F ∧ (fun r => ∃ j, j < 3 ∧ t = nI j ∧ r = some (ea j)) r) (fw_B G (fw_W G F sz)) (fw_W G F sz)) (fw_xc G (fw_W G F sz) F (fun E => E = "java/lang/IndexOutOfBoundsException" ∧ rf_ix t 3 = false)) 1 6 (fw_W G F sz) := by
  refine fw_metX (lv := [(0, .ref x), (1, .int t)]) (by decide +kernel) (Nat.le_of_ble_eq_true rfl) rfl ?_
  intro A hA p e s m below meth c ls hx hb hml hown hT hr hlk hno hcx hz hsz hw hAn hl
  rw [← hA]
  have hown : s.vm.findClass RX8 = some m.cls := hown
  have C : CallFix p m c cX8_machineAt 2 s _ fw_tb RX8 := ⟨hx, hb, hml, hown, hT⟩
  refine lv_iload_n hx hb dX8_machineAt_0 rfl (lv_at hl 1 rfl) ?_
  refine lv_if_lt (tgt := 15) hx hb dX8_machineAt_1 (by decide) (fun d => ?_) (fun d => ?_)
  · exact fw_throw (ik := 220) (is := 250) (ic := 224) hx hb hl9 hown (by decide +kernel) wd_416 wd_21 hT (fw_atB hT hcx) fw_otB hz hw (List.mem_of_getElem? (i := 13) rfl) (hl.1.trans hml.symm) dX8_machineAt_15 dX8_machineAt_18 dX8_machineAt_19 dX8_machineAt_21 dX8_machineAt_24 hno ⟨Nat.le_of_ble_eq_true rfl, Nat.le_of_ble_eq_true rfl, Nat.le_of_ble_eq_true rfl, Nat.le_of_ble_eq_true rfl⟩ hlk (⟨rfl, rf_in_f1 (by exact d)⟩) (Nat.le_of_ble_eq_true rfl) (Nat.le_of_ble_eq_true rfl)
  · refine lv_iload_n hx hb dX8_machineAt_4 rfl (lv_at hl 1 rfl) ?_
    refine lv_aload_n hx hb dX8_machineAt_5 rfl (lv_at hl 0 rfl) ?_
    refine fw_get (v := .ref lm) hx hb hT fi_RX8 hown hz hw hX rfl 3 (by decide) (hT _ wd_178) (fun _ h9 => h9) rfl dX8_machineAt_6 ?_
    refine fw_calli (fw_runV (As := []) (rest := [.int t]) C hz hw (c_Jx4a65c_size_8abf5 l G _ _ lm arr 3 (1, 3, 0) ea hL) (fw_cwV hT wd_278 yVJx4a65c_size_8abf5 rfl rfl ⟨Nat.le_of_ble_eq_true rfl, Nat.le_of_ble_eq_true rfl⟩) (fw_recL hz hw hL) rfl hl.1 rfl (Nat.le_of_ble_eq_true rfl) dX8_machineAt_9 ⟨Nat.le_of_ble_eq_true rfl, Nat.le_of_ble_eq_true rfl⟩) hw (fun r F1 H locs hw hp => ?_)
    obtain ⟨hp0, hp⟩ := hp
    rw [hp0] at hw
    refine W.widen (k := 0) (n := 0) (Nat.le_of_ble_eq_true rfl) (Nat.le_of_ble_eq_true rfl) ?_
    subst hp
    refine lv_icmp_lt (tgt := 25) hx hb dX8_machineAt_12 (by decide) (fun d2 => ?_) (fun d2 => ?_)
    · obtain ⟨j, hj, rfl⟩ := nI_of (x := t) d
      rw [nI_ltI (by omega) (by omega)] at d2
      refine lv_aload_n hx hb dX8_machineAt_25 rfl (lv_at hl 0 rfl) ?_
      refine fw_get (v := .ref lm) hx hb hT fi_RX8 hown hz hw hX rfl 3 (by decide) (hT _ wd_178) (fun _ h9 => h9) rfl dX8_machineAt_26 ?_
      refine lv_iload_n hx hb dX8_machineAt_29 rfl (lv_at hl 1 rfl) ?_
      refine fw_callo (fw_runV (As := [.int (nI j)]) (rest := []) C hz hw (c_Jx4a65c_get_915e3 l G _ _ lm arr 3 (1, 3, 0) ea j hL d2 (by omega)) (fw_cwV hT wd_323 yVJx4a65c_get_915e3 rfl rfl ⟨Nat.le_of_ble_eq_true rfl, Nat.le_of_ble_eq_true rfl⟩) (fw_recL hz hw hL) rfl hl.1 rfl (Nat.le_of_ble_eq_true rfl) dX8_machineAt_30 ⟨Nat.le_of_ble_eq_true rfl, Nat.le_of_ble_eq_true rfl⟩) hw (fun r F1 H locs hw hp => ?_)
      obtain ⟨hp0, hp⟩ := hp
      rw [hp0] at hw
      refine W.widen (k := 0) (n := 0) (Nat.le_of_ble_eq_true rfl) (Nat.le_of_ble_eq_true rfl) ?_
      subst hp
      obtain ⟨tg, fs, hs9⟩ := hel j d2
      refine fw_cast hx hb hown hz hw hs9 (q := vwCl[4]) rfl (hT _ wd_96) dX8_machineAt_33 ?_
      refine vx_ret ?_
      exact fw_aret (v := some (ea j)) hx hb hr hlk (Nat.le_of_ble_eq_true rfl) (Nat.le_of_ble_eq_true rfl) hw dX8_machineAt_36 rfl (⟨rfl, ⟨j, d2, rfl, rfl⟩⟩)
    · exact fw_throw (ik := 220) (is := 250) (ic := 224) hx hb hl9 hown (by decide +kernel) wd_416 wd_21 hT (fw_atB hT hcx) fw_otB hz hw (List.mem_of_getElem? (i := 13) rfl) (hl.1.trans hml.symm) dX8_machineAt_15 dX8_machineAt_18 dX8_machineAt_19 dX8_machineAt_21 dX8_machineAt_24 hno ⟨Nat.le_of_ble_eq_true rfl, Nat.le_of_ble_eq_true rfl, Nat.le_of_ble_eq_true rfl, Nat.le_of_ble_eq_true rfl⟩ hlk (⟨rfl, rf_ixF (by omega) d2⟩) (Nat.le_of_ble_eq_true rfl) (Nat.le_of_ble_eq_true rfl)
