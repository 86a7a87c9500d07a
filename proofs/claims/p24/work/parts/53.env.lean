/-! THE CLAIM OUT OF ONE WALK OF THE LAW'S BODY. Your part is whole_start (and what it stands on); all else here is the same for every law, but numbers. -/
def R_law : String := "CogwrightLaw"
def lw_P (b : Addr) (xs : List Int32) (args : Array Value) (s : State) : Prop := args = #[.ref b] ∧ s.IntsAt b xs ∧ xs.length ≤ 260 ∧ (Jvm.Cond.and given_1 narrow_1).before args s = true
def lw_Q (_ : Array Value) (s : State) (o : Outcome) (t : State) : Prop := o = .returned (some (.int 1)) ∧ Framed s o t [] 827442 6619141
def lw_Z (below : List Frame) (a : Array Value) (s : State) : State → Prop := fun t => ∃ o, t.status = .running ∧ Ended t below o ∧ lw_Q a s o t
/-- the law's own end, with 1 on the stack, nothing written that was there before, its room as the claim has it -/
theorem lw_ret {p : Program} {l : Launch} {e : Env} {s : State} {m : MethodId} {below : List Frame} {meth : Method} {c : Code} {b : Nat} (hx : p.tables.exec = Jvm.exec) (hb : c.code = code) (hr : meth.sig.returnType = ret) (hlocks : meth.locks = false) {pc : Nat} {H : Heap} {ls : Array Slot} (hdg : decode code pc = .ok (.ireturn, 1)) : W p l e room_1 s m #[Value.ref b] below meth c H [] 827442 6619141 (lw_Z below #[Value.ref b] s) (F0 m pc ls [.int 1]) := by
  intro T hT X
  obtain ⟨fs, hret, hrun, hended, hW, hframe⟩ := X.leave (v := some (.int 1)) (hlocks := hlocks) (fun h => by rw [hr] at h; cases h)
  have hmeth' : T.vm.method? m = some meth := X.method'
  refine ⟨T.setFrames fs, ?_, .returned (some (.int 1)), hrun, hended, rfl, ⟨_, rfl⟩, hW, hframe⟩
  jvm_step X.here [X.here.top, hx, hb, hdg, hmeth', hr, ret, narrow_b1]
  (try refine ⟨rfl, ?_⟩); (try refine ⟨rfl, ?_⟩)
  first | (intro acts; rw [hret _ acts rfl rfl rfl]) | rw [hret _ _ rfl rfl rfl]
  exact Steps.refl _
/-- what holds at the law's entry: the machine, the code, the tables' words (any of lw_tbl by 'hts w (by decide +kernel)'), the script of L ints xs at the cell b, what the Statement gives of the start (any of its parts by flat_of_before) -/
def lw_At (p : Program) (s : State) (m : MethodId) (meth : Method) (c : Code) (b L : Nat) (xs : Nat → Int32) : Prop :=
  p.tables.exec = Jvm.exec ∧ c.code = code ∧ meth.sig.returnType = ret ∧ c.maxLocals = 24 ∧ s.vm.findClass R_law = some m.cls ∧ (∀ w ∈ lw_tbl, w.before #[Value.ref b] s = true) ∧ va_X b L xs s s.heap ∧ b < s.heap.size ∧ meth.locks = false ∧ (Jvm.Cond.and given_1 narrow_1).before #[Value.ref b] s = true
/-! The start: what the tables and the premises give. -/
theorem lw_str {args : Array Value} {s : State} {own tx : String} {k : Nat} (h1 : (Cond.stringRef own k tx).before args s = true) (h2 : (Cond.exactly (.string own k) "java/lang/String").before args s = true) : ∃ a, vk_R own k tx a s := by
  obtain ⟨a, c, cA, kA, q1, q2, q3, q4, q5, q6, -⟩ := Cond.exactly_spec (args := args) (first := s) (o := none) (s := s) (idx := []) (t := .string own k) (cls := "java/lang/String") h2
  exact ⟨a, vk_R.of (A := args) h1 q1⟩
theorem lw_arr {args : Array Value} {s : State} {ty : FieldType} (h : (Cond.arrayClass ty).before args s = true) : ∃ cA, ArrOfT s cA ty ∧ s.vm.findClass ("[" ++ ty.toString) = some cA := by
  obtain ⟨c, k, comp, h1, h2, h3⟩ := Cond.arrayClass_spec h
  exact ⟨c, fun n z => ⟨fun k h => (by cases h), k, h2, comp, h3⟩, h1⟩
set_option maxHeartbeats 8000000 in
set_option maxRecDepth 100000 in
theorem lw_cls {s : State} {args : Array Value} (hT : ∀ w ∈ fw_tb, w.before args s = true) : ∃ (D : va_G), ∀ (k : Nat) (q : vw_C), vwCl[k]? = some q → u_Kn s q.1 q.2.1 q.2.2 (D.1 k) (D.2 k) := by
  obtain ⟨c0, i0, h0⟩ := u_known (C := RJx4a65c) (T := TJx4a65c) (N := 3) (n := 3) hT fi_RJx4a65c (hT _ wd_34)
  obtain ⟨c1, i1, h1⟩ := u_known (C := RX0) (T := TX0) (N := 3) (n := 3) hT fi_RX0 (hT _ wd_299)
  obtain ⟨c2, i2, h2⟩ := u_known (C := RX1) (T := TX1) (N := 2) (n := 2) hT fi_RX1 (hT _ wd_68)
  obtain ⟨c3, i3, h3⟩ := u_known (C := RX2) (T := TX2) (N := 3) (n := 3) hT fi_RX2 (hT _ wd_487)
  obtain ⟨c4, i4, h4⟩ := u_known (C := RX3) (T := TX3) (N := 3) (n := 3) hT fi_RX3 (hT _ wd_97)
  obtain ⟨c5, i5, h5⟩ := u_known (C := RX4) (T := TX4) (N := 2) (n := 2) hT fi_RX4 (hT _ wd_443)
  obtain ⟨c6, i6, h6⟩ := u_known (C := RX5) (T := TX5) (N := 5) (n := 5) hT fi_RX5 (hT _ wd_434)
  obtain ⟨c7, i7, h7⟩ := u_known (C := RX6) (T := TX6) (N := 3) (n := 3) hT fi_RX6 (hT _ wd_348)
  obtain ⟨c8, i8, h8⟩ := u_known (C := RX7) (T := TX7) (N := 3) (n := 3) hT fi_RX7 (hT _ wd_60)
  obtain ⟨c9, i9, h9⟩ := u_known (C := RX8) (T := TX8) (N := 7) (n := 7) hT fi_RX8 (hT _ wd_26)
  refine ⟨(fun k => if k = 0 then c0 else if k = 1 then c1 else if k = 2 then c2 else if k = 3 then c3 else if k = 4 then c4 else if k = 5 then c5 else if k = 6 then c6 else if k = 7 then c7 else if k = 8 then c8 else c9, fun k => if k = 0 then i0 else if k = 1 then i1 else if k = 2 then i2 else if k = 3 then i3 else if k = 4 then i4 else if k = 5 then i5 else if k = 6 then i6 else if k = 7 then i7 else if k = 8 then i8 else i9), ?_⟩
  intro k q hq
  match k, hq with
  | 0, hq => cases hq; exact h0
  | 1, hq => cases hq; exact h1
  | 2, hq => cases hq; exact h2
  | 3, hq => cases hq; exact h3
  | 4, hq => cases hq; exact h4
  | 5, hq => cases hq; exact h5
  | 6, hq => cases hq; exact h6
  | 7, hq => cases hq; exact h7
  | 8, hq => cases hq; exact h8
  | 9, hq => cases hq; exact h9
  | k + 10, hq => simp [vwCl] at hq
set_option maxHeartbeats 8000000 in
set_option maxRecDepth 100000 in
theorem lw_env {p : Program} {s : State} {m : MethodId} {meth : Method} {c : Code} {b L : Nat} {xs : Nat → Int32} (C0 : lw_At p s m meth c b L xs) : ∃ G : fw_G, fw_Z G (fun q : Nat => s.heap.size ≤ q) s s.heap ∧ fw_cx s := by
  obtain ⟨hx, hb, hr, hml, hown, hts, hX, hbl, hlocks, hgv⟩ := C0
  have hT : ∀ w ∈ fw_tb, w.before #[Value.ref b] s = true := fun w hw => hts w (List.mem_filter.mp hw).1
  have hs := flat_of_before _ hgv
  have hA : ∀ a : Nat, a < s.heap.size → ¬ (fun q : Nat => s.heap.size ≤ q) a := fun a h z => absurd z (Nat.not_le.mpr h)
  obtain ⟨D, hD⟩ := lw_cls hT
  obtain ⟨cI, i1, i2⟩ := lw_arr (hT _ wd_661)
  have hao : (Cond.arrayOver (.object "java/lang/Object")).before #[Value.ref b] s = true := (hts _ (List.mem_of_getElem? (i := 182) (by decide +kernel)))
  obtain ⟨compO, cO, kO, o1, o2, o3, o4, o5⟩ := Cond.arrayOver_spec hao
  obtain ⟨ea, e1, e2⟩ := va_Tof (tm := .static "java/util/ArrayList" "DEFAULTCAPACITY_EMPTY_ELEMENTDATA" "[Ljava/lang/Object;") (ty := .object "java/lang/Object") (N := 0) (f := fun _ => .null) (A := fun q : Nat => s.heap.size ≤ q) (by decide) (hs (.arrayOf (.static "java/util/ArrayList" "DEFAULTCAPACITY_EMPTY_ELEMENTDATA" "[Ljava/lang/Object;") (.object "java/lang/Object")) (by decide +kernel)) (va_eqt (z := 0) (hs (.eq (.length (.static "java/util/ArrayList" "DEFAULTCAPACITY_EMPTY_ELEMENTDATA" "[Ljava/lang/Object;")) (.int 0)) (by decide +kernel))) (fun j h => absurd h (Nat.not_lt_zero j)) hA
  obtain ⟨mi, hmi⟩ := va_Mi.of (hs (.isRef (.mirror "[Ljava/lang/Object;")) (by decide +kernel))
  refine ⟨(D, (cI, cI, cO, cI), ea, mi), ⟨⟨hD, fun k q hq => ?_⟩, va_Zref (hts _ (List.mem_of_getElem? (i := 63) (by decide +kernel))) (hT _ wd_4) e1 hA, e2, vx_Zqof (hts _ (List.mem_of_getElem? (i := 254) (by decide +kernel))) (hT _ wd_12) (hs (.isRef (.static "java/lang/Throwable" "UNASSIGNED_STACK" "[Ljava/lang/StackTraceElement;")) (by decide +kernel)) hA, vx_Zqof (hts _ (List.mem_of_getElem? (i := 256) (by decide +kernel))) (hT _ wd_12) (hs (.isRef (.static "java/lang/Throwable" "SUPPRESSED_SENTINEL" "Ljava/util/List;")) (by decide +kernel)) hA, fun ci q hq => ?_, fun q hq => ?_, fun q hq => ?_, hmi, va_Dc.of (hts _ (List.mem_of_getElem? (i := 697) (by decide +kernel))), va_AO.of hao⟩, ⟨va_Nw.of rfl (hts _ (List.mem_of_getElem? (i := 231) (by decide +kernel))), va_Nw.of rfl (hts _ (List.mem_of_getElem? (i := 233) (by decide +kernel))), va_Nw.of rfl (hts _ (List.mem_of_getElem? (i := 235) (by decide +kernel))), fun E hE => ?_⟩⟩
  · match k, hq with
    | 0, hq => cases hq; exact ⟨i1, i2⟩
    | 1, hq => cases hq; exact ⟨i1, i2⟩
    | 2, hq => cases hq; exact ⟨fun n z => ⟨fun k h => (by cases h), kO, o3, compO, o4⟩, kO, compO, o3, o4, o1, o5⟩
    | k + 3, hq => simp [fw_tys] at hq
  · match ci, hq with
    | 0, hq => cases hq; exact va_Nw.of rfl (hts _ (List.mem_of_getElem? (i := 681) (by decide +kernel)))
    | 1, hq => cases hq; exact va_Nw.of rfl (hts _ (List.mem_of_getElem? (i := 687) (by decide +kernel)))
    | 2, hq => cases hq; exact va_Nw.of rfl (hts _ (List.mem_of_getElem? (i := 683) (by decide +kernel)))
    | 3, hq => cases hq; exact va_Nw.of rfl (hts _ (List.mem_of_getElem? (i := 692) (by decide +kernel)))
    | 4, hq => cases hq; exact va_Nw.of rfl (hts _ (List.mem_of_getElem? (i := 684) (by decide +kernel)))
    | 5, hq => cases hq; exact va_Nw.of rfl (hts _ (List.mem_of_getElem? (i := 691) (by decide +kernel)))
    | 6, hq => cases hq; exact va_Nw.of rfl (hts _ (List.mem_of_getElem? (i := 690) (by decide +kernel)))
    | 7, hq => cases hq; exact va_Nw.of rfl (hts _ (List.mem_of_getElem? (i := 688) (by decide +kernel)))
    | 8, hq => cases hq; exact va_Nw.of rfl (hts _ (List.mem_of_getElem? (i := 682) (by decide +kernel)))
    | 9, hq => cases hq; exact va_Nw.of rfl (hts _ (List.mem_of_getElem? (i := 680) (by decide +kernel)))
    | ci + 10, hq => simp [vwCl] at hq
  · simp only [fw_nest, List.mem_cons, List.not_mem_nil, or_false] at hq
    rcases hq with rfl | rfl | rfl
    · exact va_Nw.of rfl (hts _ (List.mem_of_getElem? (i := 78) (by decide +kernel)))
    · exact va_Nw.of rfl (hts _ (List.mem_of_getElem? (i := 115) (by decide +kernel)))
    · exact va_Nw.of rfl (hts _ (List.mem_of_getElem? (i := 395) (by decide +kernel)))
  · simp only [fw_strs, List.mem_cons, List.not_mem_nil, or_false] at hq
    rcases hq with rfl | rfl | rfl | rfl | rfl | rfl | rfl | rfl | rfl | rfl | rfl | rfl | rfl | rfl | rfl | rfl | rfl | rfl
    · exact lw_str (hts _ (List.mem_of_getElem? (i := 268) (by decide +kernel))) (hs (.exactly (.string "Cogwright" 59) "java/lang/String") (by decide +kernel))
    · exact lw_str (hts _ (List.mem_of_getElem? (i := 308) (by decide +kernel))) (hs (.exactly (.string "Cogwright" 70) "java/lang/String") (by decide +kernel))
    · exact lw_str (hts _ (List.mem_of_getElem? (i := 335) (by decide +kernel))) (hs (.exactly (.string "Cogwright" 78) "java/lang/String") (by decide +kernel))
    · exact lw_str (hts _ (List.mem_of_getElem? (i := 362) (by decide +kernel))) (hs (.exactly (.string "Cogwright" 84) "java/lang/String") (by decide +kernel))
    · exact lw_str (hts _ (List.mem_of_getElem? (i := 363) (by decide +kernel))) (hs (.exactly (.string "Cogwright" 89) "java/lang/String") (by decide +kernel))
    · exact lw_str (hts _ (List.mem_of_getElem? (i := 417) (by decide +kernel))) (hs (.exactly (.string "Cogwright" 105) "java/lang/String") (by decide +kernel))
    · exact lw_str (hts _ (List.mem_of_getElem? (i := 418) (by decide +kernel))) (hs (.exactly (.string "Cogwright" 107) "java/lang/String") (by decide +kernel))
    · exact lw_str (hts _ (List.mem_of_getElem? (i := 423) (by decide +kernel))) (hs (.exactly (.string "Cogwright" 113) "java/lang/String") (by decide +kernel))
    · exact lw_str (hts _ (List.mem_of_getElem? (i := 424) (by decide +kernel))) (hs (.exactly (.string "Cogwright" 115) "java/lang/String") (by decide +kernel))
    · exact lw_str (hts _ (List.mem_of_getElem? (i := 442) (by decide +kernel))) (hs (.exactly (.string "Cogwright" 246) "java/lang/String") (by decide +kernel))
    · exact lw_str (hts _ (List.mem_of_getElem? (i := 665) (by decide +kernel))) (hs (.exactly (.string "Cogwright" 244) "java/lang/String") (by decide +kernel))
    · exact lw_str (hts _ (List.mem_of_getElem? (i := 449) (by decide +kernel))) (hs (.exactly (.string "Cogwright" 158) "java/lang/String") (by decide +kernel))
    · exact lw_str (hts _ (List.mem_of_getElem? (i := 527) (by decide +kernel))) (hs (.exactly (.string "Cogwright" 172) "java/lang/String") (by decide +kernel))
    · exact lw_str (hts _ (List.mem_of_getElem? (i := 633) (by decide +kernel))) (hs (.exactly (.string "Cogwright" 250) "java/lang/String") (by decide +kernel))
    · exact lw_str (hts _ (List.mem_of_getElem? (i := 585) (by decide +kernel))) (hs (.exactly (.string "Cogwright" 248) "java/lang/String") (by decide +kernel))
    · exact lw_str (hts _ (List.mem_of_getElem? (i := 590) (by decide +kernel))) (hs (.exactly (.string "Cogwright" 200) "java/lang/String") (by decide +kernel))
    · exact lw_str (hts _ (List.mem_of_getElem? (i := 591) (by decide +kernel))) (hs (.exactly (.string "Cogwright" 206) "java/lang/String") (by decide +kernel))
    · exact lw_str (hts _ (List.mem_of_getElem? (i := 609) (by decide +kernel))) (hs (.exactly (.string "Cogwright" 222) "java/lang/String") (by decide +kernel))
  · simp only [fw_exs, List.mem_cons, List.not_mem_nil, or_false] at hE
    rcases hE with rfl | rfl | rfl
    · exact va_Nw.of rfl (hts _ (List.mem_of_getElem? (i := 229) (by decide +kernel)))
    · exact va_Nw.of rfl (hts _ (List.mem_of_getElem? (i := 301) (by decide +kernel)))
    · exact va_Nw.of rfl (hts _ (List.mem_of_getElem? (i := 435) (by decide +kernel)))
