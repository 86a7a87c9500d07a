/-! The law: its own calls, and the relation that its loop keeps. -/
section FWSW
variable {p : Program} {l : Launch} {e : Env} {R : Room} {s : State} {m : MethodId} {args : Array Value} {below : List Frame} {meth : Method} {c : Code} {H : Heap} {locs : List Loc} {cells slots : Nat}
variable {cc : ByteArray} {pc : Nat} {ls : Array Slot} {rest st0 : List Value} {G : fw_G} {A : Nat → Prop} {F : fw_F}
variable {y : MethodName} {bytes : ByteArray} {maxL nL mc ms n index : Nat} {ret : Option FieldType} {hh : List (Nat × Nat × Nat × Nat)} {rm : Room} {own : String} {As : List Value}
theorem fw_preL {as : List Value} (hz : fw_Z G A s s.heap) (hcx : fw_cx s) (hnc : fw_nc s) (hw : fw_S G A s F H locs) : PreS s H (va_Pc as (fw_PreL G F H.size)) as :=
  ⟨fun a U g mk q => ⟨q.1, ⟨((fw_preX (as := as) hz hcx hw).1 a U g mk ⟨q.1, q.2.1⟩).2, q.2.2.to (State.WarmedH.refl U)⟩⟩, fun U hU hW => ⟨rfl, ((fw_preX (as := as) hz hcx hw).2 U hU hW).2, hnc.to hW⟩⟩
theorem fw_runSW {Qc : Array Value → State → Outcome → State → Prop} (S : CallFix p m c cc nL s args fw_tb own) (hz : fw_Z G A s s.heap) (hcx : fw_cx s) (hnc : fw_nc s) (hw : fw_S G A s F H locs) (hM : Met l y (fw_wsW y bytes maxL ret hh) rm (va_Pc As (fw_PreL G F H.size)) Qc mc ms (fw_A G F H)) (cw : vx_CSW R s args own index y bytes maxL ret hh (fw_wsW y bytes maxL ret hh) rm mc ms n)
    (hn : As.length = n) (hsize : ls.size = nL) (hstack : st0 = As.reverse ++ rest) (hW : (rest.map fun v => v.category).sum ≤ 8) (hdg : decode cc pc = .ok (.invokestatic index, 3)) (hf : cells + mc ≤ R.cells ∧ slots + ms ≤ R.slots) :
    va_Run p l e R s m args below meth c H locs cells slots mc ms (F0 m pc ls st0) rest (Qc As.toArray) (fw_A G F H) :=
  vx_runSW (rest := rest) S hM cw (fw_preL hz hcx hnc hw) rfl hn hsize hstack (lv_room (m := m) (pc := pc) (ls := ls) (rest := st0) hW) hdg hf
theorem fw_cwSW (ht : ∀ w ∈ fw_tb, w.before args s = true) (hl : Cond.methodLink own index y ∈ fw_tb) (hs : Cond.static y ∈ fw_tb) (hi : Cond.initialized y.cls ∈ fw_tb) (hc : Cond.codeWith y bytes maxL ret hh ∈ fw_tb) (hd : y.cls ≠ "java/lang/invoke/MethodHandle" ∧ y.cls ≠ "java/lang/invoke/VarHandle" ∧ (parseMethodDescriptor y.desc).map (fun d => d.parameters.length) = some n) (hrc : rm.cells = mc) (hrs : rm.slots = ms) (hR : rm.frames + 1 ≤ R.frames ∧ 8 + (maxL + 11) + rm.locals ≤ R.locals) : vx_CSW R s args own index y bytes maxL ret hh (fw_wsW y bytes maxL ret hh) rm mc ms n := by
  refine vx_cwSW n ht (fun w hw => ?_) rfl hrc hrs hd hR
  unfold va_wsS at hw
  rcases List.mem_append.mp hw with hw | hw
  · simp only [List.mem_cons, List.not_mem_nil, or_false] at hw
    rcases hw with rfl | rfl | rfl
    · exact fw_gd hl
    · exact fw_gd hs
    · exact fw_gd hi
  · rcases List.mem_cons.mp hw with rfl | hw
    · exact fw_gd hc
    · exact fw_gd hw
end FWSW
/-- the class, the reference and the answer's place, behind i calls -/
def lw_R (G : fw_G) (F : fw_F) (x y o i : Nat) : Prop := ∃ (ad : Nat → Nat) (sc : mm_S) (f : mm_A) (g0 : Nat → Int64) (nC nT nO nJ nD T : Nat), mm_W G F y ad sc f ∧ F o = some ((60, 0, 0), fw_la (fw_cJ G) 1 g0) ∧ T ≤ 200 * i ∧ CL F x f nC nT nO nJ nD (nI T) ∧ PU f nT nO nJ nD ∧ MS sc nC nT nO nJ nD (nI T)
theorem wr_k1 {F F2 : fw_F} {o : Nat} {e e' : fw_E} (hk : fw_kp F F2 (fun t => t.1 < 60)) (ho : F2 o = some ((60, 0, 0), e)) : fw_kp F (va_up F2 o (some ((60, 0, 0), e'))) (fun t => t.1 ≤ 60) := (hk.wk (fun t z => Nat.le_of_lt z)).up ho (Nat.le_refl 60)
theorem wr_kc {F1 F5 : fw_F} (h : mm_keep F1 F5) : fw_kp F1 F5 cl_P := h.kp (fun t h => ⟨fun z => h (Or.inl (by omega)), fun z => h (Or.inl (by omega))⟩)
theorem wr_a {G : fw_G} {F1 F2 F5 : fw_F} {x y o i nC nT nO nJ nD T : Nat} {ad : Nat → Nat} {sc1 : mm_S} {f1 : mm_A} {g0 : Nat → Int64} {e : fw_E} {v w : Int64} (ho2 : F2 o = some ((60, 0, 0), e)) (hF1 : F1 = va_up F2 o (some ((60, 0, 0), fw_la (fw_cJ G) 1 (vp_updL g0 0 v)))) (hkeep : mm_keep F1 F5) (hm : mm_W G F5 y ad sc1 f1) (hv : v = w) (hT : T ≤ 200 * (i + 1)) (hCL : CL F2 x f1 nC nT nO nJ nD (nI T)) (hPU : PU f1 nT nO nJ nD) (hMS : MS sc1 nC nT nO nJ nD (nI T)) : ∃ gv, F5 o = some ((60, 0, 0), fw_la (fw_cJ G) 1 gv) ∧ gv 0 = w ∧ lw_R G F5 x y o (i + 1) := by
  have h1 : F1 o = some ((60, 0, 0), fw_la (fw_cJ G) 1 (vp_updL g0 0 v)) := by rw [hF1]; exact fw_up_self
  have h5 := hkeep o (60, 0, 0) _ (by decide) (by decide) h1
  have k1 : fw_kp F2 F1 cl_P := by rw [hF1]; exact fw_kp.rf.up ho2 (Or.inl (by decide))
  exact ⟨_, h5, by rw [← hv]; exact if_pos rfl, ad, sc1, f1, _, nC, nT, nO, nJ, nD, T, hm, h5, hT, (hCL.kp k1).kp (wr_kc hkeep), hPU, hMS⟩
theorem wr_b {G : fw_G} {F F5 : fw_F} {x y o i nC nT nO nJ nD T : Nat} {ad : Nat → Nat} {sc1 : mm_S} {f1 : mm_A} {g0 : Nat → Int64} (ho : F o = some ((60, 0, 0), fw_la (fw_cJ G) 1 g0)) (hkeep : mm_keep F F5) (hm : mm_W G F5 y ad sc1 f1) (hT : T ≤ 200 * (i + 1)) (hCL : CL F x f1 nC nT nO nJ nD (nI T)) (hPU : PU f1 nT nO nJ nD) (hMS : MS sc1 nC nT nO nJ nD (nI T)) : F5 o = some ((60, 0, 0), fw_la (fw_cJ G) 1 g0) ∧ lw_R G F5 x y o (i + 1) := by
  have h5 := hkeep o (60, 0, 0) _ (by decide) (by decide) ho
  exact ⟨h5, ad, sc1, f1, g0, nC, nT, nO, nJ, nD, T, hm, h5, hT, hCL.kp (wr_kc hkeep), hPU, hMS⟩
theorem wr_si {F F2 : fw_F} {P : fw_T → Prop} (h : F2 = F) : fw_kp F F2 P := by rw [h]; exact fw_kp.rf
theorem rf_ix_3 (t : Int32) : rf_ix t 3 = rf_in t (nI 0) (nI 2) := by
  unfold rf_ix
  rw [show nI 3 - nI 1 = nI 2 from by decide]
theorem rf_wait_R {f : mm_A} {wj : Nat → Nat} : ∀ nJ nW, cr_R f nJ nW wj → rf_wait f nJ = nW
  | 0, nW, h => by
    rcases Nat.eq_zero_or_pos nW with e | e
    · rw [e]; rfl
    · exact absurd (h.1 0 e).1 (Nat.not_lt_zero _)
  | n + 1, nW, h => by
    obtain ⟨h1, h2, h3⟩ := h
    rw [rf_wait_s]
    by_cases e : f 20 n = -1
    · obtain ⟨k, hk, ek⟩ := h2 n (by omega) e
      have hk1 : nW = k + 1 := by
        rcases Nat.lt_or_ge (k + 1) nW with q | q
        · have a := h3 k (k + 1) (by omega) q
          have b := (h1 (k + 1) q).1
          omega
        · omega
      subst hk1
      rw [if_pos e, rf_wait_R n k ⟨fun a ha => ⟨by have := h3 a k ha (by omega); omega, (h1 a (by omega)).2⟩, fun j hj e2 => ?_, fun a b hab hb => h3 a b hab (by omega)⟩]
      obtain ⟨a, ha, ea⟩ := h2 j (by omega) e2
      have hne : a ≠ k := fun z => by rw [z, ek] at ea; omega
      exact ⟨a, by omega, ea⟩
    · rw [if_neg e, Nat.add_zero]
      refine rf_wait_R n nW ⟨fun a ha => ⟨?_, (h1 a ha).2⟩, fun j hj e2 => h2 j (by omega) e2, h3⟩
      have q := h1 a ha
      rcases Nat.lt_or_ge (wj a) n with z | z
      · exact z
      · have z2 : wj a = n := by omega
        rw [z2] at q; exact absurd q.2 e
/-- what the walk of the law has at hand -/
def lw_E (p : Program) (l : Launch) (s : State) (m : MethodId) (meth : Method) (c : Code) (b L : Nat) (xs : Nat → Int32) (G : fw_G) : Prop :=
  p.tables.exec = Jvm.exec ∧ c.code = code ∧ c.maxLocals = 7 ∧ s.vm.findClass RL = some m.cls ∧ (∀ w ∈ fw_tb, w.before #[Value.ref b] s = true) ∧ fw_Z G (fun q : Nat => s.heap.size ≤ q) s s.heap ∧ fw_cx s ∧ fw_nc s ∧ l.stackTraces = false ∧ va_X b L xs s s.heap ∧ b < s.heap.size ∧ L ≤ 2048
theorem lg_cmp_self (x : Int64) : lg_cmp x x = 0 := by simp [lg_cmp]
